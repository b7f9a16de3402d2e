/-! BEST, WORST, the greatest: class and model -/
/-- the next thing of a set, against the best so far; lt: is the first of less worth -/
def bs1 (lt : Int32 → Int32 → Bool) (s : Int32) (w : Nat → Int32) (j : Nat) (best : Int32) : Int32 := if bt s j = true ∧ (best < 0 ∨ lt (w best.toNatClampNeg) (w j) = true) then nI j else best
def bsL (lt : Int32 → Int32 → Bool) (s : Int32) (w : Nat → Int32) : Nat → Nat → Int32 → Int32
  | 0, _, best => best
  | k + 1, j, best => bsL lt s w k (j + 1) (bs1 lt s w j best)
def bestF (s : Int32) (w : Nat → Int32) : Int32 := bsL (fun x y => decide (x < y)) s w 16 0 (-1)
def worstF (s : Int32) (w : Nat → Int32) : Int32 := bsL (fun x y => decide (y < x)) s w 16 0 (-1)
def bsOk (best : Int32) : Prop := best = -1 ∨ ∃ i, i < 16 ∧ best = nI i
theorem bs1_ok {lt : Int32 → Int32 → Bool} {s : Int32} {w : Nat → Int32} {j : Nat} {best : Int32} (hj : j < 16) (h : bsOk best) : bsOk (bs1 lt s w j best) := by
  unfold bs1
  split
  · exact Or.inr ⟨j, hj, rfl⟩
  · exact h
theorem bsL_ok {lt : Int32 → Int32 → Bool} {s : Int32} {w : Nat → Int32} : ∀ (k j : Nat) (best : Int32), j + k = 16 → bsOk best → bsOk (bsL lt s w k j best)
  | 0, _, _, _, h => h
  | k + 1, j, best, hj, h => bsL_ok k (j + 1) _ (by omega) (bs1_ok (by omega) h)
def cI (n : Nat) (f : Nat → Int32) : mx_C := .inl (.int, n, .inl f)
section
variable {sc : mx_X} {d : Nat} {g : mx_G} {s : Int32} {w : Nat → Int32} {a : Nat}
theorem lp_bestIn (hg : g.1 a = some (cI 16 w)) : ∀ (k j : Nat) (best : Int32), j + k = 16 → bsOk best → den sc d MX10_bestIn 4 [some (.int s), some (.ref a), some (.int best), some (.int (nI j))] [] g = some (some (.int (bsL (fun x y => decide (x < y)) s w k j best)), g)
  | 0, j, best, hj, hb => by
    obtain rfl : j = 16 := by omega
    rw [s_X10_bestIn_4]
    simp only [s_X10_bestIn_0, s_X10_bestIn_1, s_X10_bestIn_2, s_X10_bestIn_3, s_X10_bestIn_5, s_X10_bestIn_7, s_X10_bestIn_10, s_X10_bestIn_11, s_X10_bestIn_12, s_X10_bestIn_13, s_X10_bestIn_14, s_X10_bestIn_15, s_X10_bestIn_18, s_X10_bestIn_19, s_X10_bestIn_22, s_X10_bestIn_23, s_X10_bestIn_24, s_X10_bestIn_25, s_X10_bestIn_26, s_X10_bestIn_27, s_X10_bestIn_28, s_X10_bestIn_31, s_X10_bestIn_32, s_X10_bestIn_33, s_X10_bestIn_36, s_X10_bestIn_39, s_X10_bestIn_40, ge16, if_true, bsL]
  | k + 1, j, best, hj, hb => by
    have hlt : j < 16 := by omega
    have ih := lp_bestIn hg k (j + 1) (bs1 (fun x y => decide (x < y)) s w j best) (by omega) (bs1_ok hlt hb)
    rw [s_X10_bestIn_4]
    simp only [s_X10_bestIn_0, s_X10_bestIn_1, s_X10_bestIn_2, s_X10_bestIn_3, s_X10_bestIn_5, s_X10_bestIn_7, s_X10_bestIn_10, s_X10_bestIn_11, s_X10_bestIn_12, s_X10_bestIn_13, s_X10_bestIn_14, s_X10_bestIn_15, s_X10_bestIn_18, s_X10_bestIn_19, s_X10_bestIn_22, s_X10_bestIn_23, s_X10_bestIn_24, s_X10_bestIn_25, s_X10_bestIn_26, s_X10_bestIn_27, s_X10_bestIn_28, s_X10_bestIn_31, s_X10_bestIn_32, s_X10_bestIn_33, s_X10_bestIn_36, s_X10_bestIn_39, s_X10_bestIn_40, ng16 hlt, if_false, ctl (show j < 32 by omega), av_hit hg, cI, ai_hit, in_nI hlt (by decide), if_true, cl_nI hlt (by decide), nI_1, bsL]
    rw [← ih]
    rcases hb with rfl | ⟨i, hi, rfl⟩
    · cases hbt : bt s j <;> simp [bs1, hbt]
    · simp only [in_nI hi (by decide), if_true, nn_nI (show i < 2 ^ 31 by omega), if_false, cl_nI hi (by decide), bs1, false_or]
      cases hbt : bt s j
      · simp
      · by_cases hw : w i < w j
        · simp [hw, Int32.not_le.mpr hw]
        · simp [hw, Int32.not_lt.mp hw]
theorem sp_bestIn (hg : g.1 a = some (cI 16 w)) : call sc d MX10_bestIn [.int s, .ref a] g = some (some (.int (bestF s w)), g) := by
  simp only [c_X10_bestIn, s_X10_bestIn_0, s_X10_bestIn_1, s_X10_bestIn_2, s_X10_bestIn_3]
  exact lp_bestIn hg 16 0 (-1) rfl (Or.inl rfl)
theorem lp_worstIn (hg : g.1 a = some (cI 16 w)) : ∀ (k j : Nat) (best : Int32), j + k = 16 → bsOk best → den sc d MX10_worstIn 4 [some (.int s), some (.ref a), some (.int best), some (.int (nI j))] [] g = some (some (.int (bsL (fun x y => decide (y < x)) s w k j best)), g)
  | 0, j, best, hj, hb => by
    obtain rfl : j = 16 := by omega
    rw [s_X10_worstIn_4]
    simp only [s_X10_worstIn_0, s_X10_worstIn_1, s_X10_worstIn_2, s_X10_worstIn_3, s_X10_worstIn_5, s_X10_worstIn_7, s_X10_worstIn_10, s_X10_worstIn_11, s_X10_worstIn_12, s_X10_worstIn_13, s_X10_worstIn_14, s_X10_worstIn_15, s_X10_worstIn_18, s_X10_worstIn_19, s_X10_worstIn_22, s_X10_worstIn_23, s_X10_worstIn_24, s_X10_worstIn_25, s_X10_worstIn_26, s_X10_worstIn_27, s_X10_worstIn_28, s_X10_worstIn_31, s_X10_worstIn_32, s_X10_worstIn_33, s_X10_worstIn_36, s_X10_worstIn_39, s_X10_worstIn_40, ge16, if_true, bsL]
  | k + 1, j, best, hj, hb => by
    have hlt : j < 16 := by omega
    have ih := lp_worstIn hg k (j + 1) (bs1 (fun x y => decide (y < x)) s w j best) (by omega) (bs1_ok hlt hb)
    rw [s_X10_worstIn_4]
    simp only [s_X10_worstIn_0, s_X10_worstIn_1, s_X10_worstIn_2, s_X10_worstIn_3, s_X10_worstIn_5, s_X10_worstIn_7, s_X10_worstIn_10, s_X10_worstIn_11, s_X10_worstIn_12, s_X10_worstIn_13, s_X10_worstIn_14, s_X10_worstIn_15, s_X10_worstIn_18, s_X10_worstIn_19, s_X10_worstIn_22, s_X10_worstIn_23, s_X10_worstIn_24, s_X10_worstIn_25, s_X10_worstIn_26, s_X10_worstIn_27, s_X10_worstIn_28, s_X10_worstIn_31, s_X10_worstIn_32, s_X10_worstIn_33, s_X10_worstIn_36, s_X10_worstIn_39, s_X10_worstIn_40, ng16 hlt, if_false, ctl (show j < 32 by omega), av_hit hg, cI, ai_hit, in_nI hlt (by decide), if_true, cl_nI hlt (by decide), nI_1, bsL]
    rw [← ih]
    rcases hb with rfl | ⟨i, hi, rfl⟩
    · cases hbt : bt s j <;> simp [bs1, hbt]
    · simp only [in_nI hi (by decide), if_true, nn_nI (show i < 2 ^ 31 by omega), if_false, cl_nI hi (by decide), bs1, false_or]
      cases hbt : bt s j
      · simp
      · by_cases hw : w j < w i
        · simp [hw, Int32.not_le.mpr hw]
        · simp [hw, Int32.not_lt.mp hw]
theorem sp_worstIn (hg : g.1 a = some (cI 16 w)) : call sc d MX10_worstIn [.int s, .ref a] g = some (some (.int (worstF s w)), g) := by
  simp only [c_X10_worstIn, s_X10_worstIn_0, s_X10_worstIn_1, s_X10_worstIn_2, s_X10_worstIn_3]
  exact lp_worstIn hg 16 0 (-1) rfl (Or.inl rfl)

/-- the greatest number of a set, from j things on downwards -/
def lastL (s : Int32) : Nat → Int32
  | 0 => -1
  | j + 1 => if bt s j = true then nI j else lastL s j
def lastF (s : Int32) : Int32 := lastL s 16
theorem nIm1 (j : Nat) : nI (j + 1) + (-1) = nI j := pk_m1 j
theorem lp_greatestIn : ∀ (j : Nat), j ≤ 16 → den sc d MX10_greatestIn 3 [some (.int s), some (.int (nI j + (-1)))] [] g = some (some (.int (lastL s j)), g)
  | 0, _ => by
    rw [s_X10_greatestIn_3]
    simp only [s_X10_greatestIn_0, s_X10_greatestIn_2, s_X10_greatestIn_4, s_X10_greatestIn_7, s_X10_greatestIn_8, s_X10_greatestIn_9, s_X10_greatestIn_10, s_X10_greatestIn_11, s_X10_greatestIn_12, s_X10_greatestIn_15, s_X10_greatestIn_16, s_X10_greatestIn_17, s_X10_greatestIn_20, s_X10_greatestIn_23, s_X10_greatestIn_24, show nI 0 + (-1) < 0 from by decide, if_true, lastL]
  | j + 1, hj => by
    have ih := lp_greatestIn j (by omega)
    rw [s_X10_greatestIn_3]
    simp only [s_X10_greatestIn_0, s_X10_greatestIn_2, s_X10_greatestIn_4, s_X10_greatestIn_7, s_X10_greatestIn_8, s_X10_greatestIn_9, s_X10_greatestIn_10, s_X10_greatestIn_11, s_X10_greatestIn_12, s_X10_greatestIn_15, s_X10_greatestIn_16, s_X10_greatestIn_17, s_X10_greatestIn_20, s_X10_greatestIn_23, s_X10_greatestIn_24, nIm1, nn_nI (show j < 2 ^ 31 by omega), if_false, ctl (show j < 32 by omega), lastL, ih]
    cases bt s j <;> simp
theorem sp_greatestIn : call sc d MX10_greatestIn [.int s] g = some (some (.int (lastF s)), g) := by
  simp only [c_X10_greatestIn, s_X10_greatestIn_0, s_X10_greatestIn_2]
  exact lp_greatestIn 16 (by omega)
theorem sp_setOf {t : Int32} : call sc d MX10_setOf [.int t] g = some (some (.int (so t)), g) := by
  by_cases h : t < 0
  · simp only [c_X10_setOf, s_X10_setOf_0, s_X10_setOf_1, s_X10_setOf_4, s_X10_setOf_5, s_X10_setOf_8, s_X10_setOf_9, s_X10_setOf_10, s_X10_setOf_11, so_neg h, Int32.not_le.mpr h, if_false]
  · simp only [c_X10_setOf, s_X10_setOf_0, s_X10_setOf_1, s_X10_setOf_4, s_X10_setOf_5, s_X10_setOf_8, s_X10_setOf_9, s_X10_setOf_10, s_X10_setOf_11, so_pos h, Int32.not_lt.mp h, if_true]
theorem sp_contains {j : Nat} (hj : j < 32) : call sc d MX10_contains [.int s, .int (nI j)] g = some (some (.int (b2 (bt s j))), g) := by
  cases hb : bt s j <;> simp [c_X10_contains, s_X10_contains_0, s_X10_contains_1, s_X10_contains_2, s_X10_contains_3, s_X10_contains_4, s_X10_contains_5, s_X10_contains_8, s_X10_contains_9, s_X10_contains_12, s_X10_contains_13, s_X10_contains_13_0, s_X10_contains_13_1, ctl hj, hb, b2]
end
