/-! BEST, WORST, the greatest: class and model -/
/-- the next thing of a set, against the best so far; lt: is the first of less worth -/
def bs1 (lt : Int32 → Int32 → Bool) (s : Int32) (w : Nat → Int32) (j : Nat) (best : Int32) : Int32 := if bt s j = true ∧ (best < 0 ∨ lt (w best.toNatClampNeg) (w j) = true) then nI j else best
def bsL (lt : Int32 → Int32 → Bool) (s : Int32) (w : Nat → Int32) : Nat → Nat → Int32 → Int32
  | 0, _, best => best
  | k + 1, j, best => bsL lt s w k (j + 1) (bs1 lt s w j best)
def bestF (s : Int32) (w : Nat → Int32) : Int32 := bsL (fun x y => decide (x < y)) s w 16 0 (-1)
def worstF (s : Int32) (w : Nat → Int32) : Int32 := bsL (fun x y => decide (y < x)) s w 16 0 (-1)
def bsOk (best : Int32) : Prop := best = -1 ∨ ∃ i, i < 16 ∧ best = nI i
theorem bs1_ok {lt : Int32 → Int32 → Bool} {s : Int32} {w : Nat → Int32} {j : Nat} {best : Int32} (hj : j < 16) (h : bsOk best) : bsOk (bs1 lt s w j best) := by
  unfold bs1
  split
  · exact Or.inr ⟨j, hj, rfl⟩
  · exact h
theorem bsL_ok {lt : Int32 → Int32 → Bool} {s : Int32} {w : Nat → Int32} : ∀ (k j : Nat) (best : Int32), j + k = 16 → bsOk best → bsOk (bsL lt s w k j best)
  | 0, _, _, _, h => h
  | k + 1, j, best, hj, h => bsL_ok k (j + 1) _ (by omega) (bs1_ok (by omega) h)
def cI (n : Nat) (f : Nat → Int32) : mx_C := .inl (.int, n, .inl f)
section
variable {sc : mx_X} {d : Nat} {g : mx_G} {s : Int32} {w : Nat → Int32} {a : Nat}
theorem lp_bestIn (hg : g.1 a = some (cI 16 w)) : ∀ (k j : Nat) (best : Int32), j + k = 16 → bsOk best → den sc d MX10_bestIn 4 [some (.int s), some (.ref a), some (.int best), some (.int (nI j))] [] g = some (some (.int (bsL (fun x y => decide (x < y)) s w k j best)), g)
  | 0, j, best, hj, hb => by
    obtain rfl : j = 16 := by omega
    rw [s_X10_bestIn_4]
    simp only [s_X10_bestIn_0, s_X10_bestIn_1, s_X10_bestIn_2, s_X10_bestIn_3, s_X10_bestIn_5, s_X10_bestIn_7, s_X10_bestIn_10, s_X10_bestIn_11, s_X10_bestIn_12, s_X10_bestIn_13, s_X10_bestIn_14, s_X10_bestIn_15, s_X10_bestIn_18, s_X10_bestIn_19, s_X10_bestIn_22, s_X10_bestIn_23, s_X10_bestIn_24, s_X10_bestIn_25, s_X10_bestIn_26, s_X10_bestIn_27, s_X10_bestIn_28, s_X10_bestIn_31, s_X10_bestIn_32, s_X10_bestIn_33, s_X10_bestIn_36, s_X10_bestIn_39, s_X10_bestIn_40, ge16, if_true, bsL]
  | k + 1, j, best, hj, hb => by
    have hlt : j < 16 := by omega
    have ih := lp_bestIn hg k (j + 1) (bs1 (fun x y => decide (x < y)) s w j best) (by omega) (bs1_ok hlt hb)
    rw [s_X10_bestIn_4]
    simp only [s_X10_bestIn_0, s_X10_bestIn_1, s_X10_bestIn_2, s_X10_bestIn_3, s_X10_bestIn_5, s_X10_bestIn_7, s_X10_bestIn_10, s_X10_bestIn_11, s_X10_bestIn_12, s_X10_bestIn_13, s_X10_bestIn_14, s_X10_bestIn_15, s_X10_bestIn_18, s_X10_bestIn_19, s_X10_bestIn_22, s_X10_bestIn_23, s_X10_bestIn_24, s_X10_bestIn_25, s_X10_bestIn_26, s_X10_bestIn_27, s_X10_bestIn_28, s_X10_bestIn_31, s_X10_bestIn_32, s_X10_bestIn_33, s_X10_bestIn_36, s_X10_bestIn_39, s_X10_bestIn_40, ng16 hlt, if_false, ctl (show j < 32 by omega), av_hit hg, cI, ai_hit, in_nI hlt (by decide), if_true, cl_nI hlt (by decide), nI_1, bsL]
    rw [← ih]
    rcases hb with rfl | ⟨i, hi, rfl⟩
    · cases hbt : bt s j <;> simp [bs1, hbt]
    · simp only [in_nI hi (by decide), if_true, nn_nI (show i < 2 ^ 31 by omega), if_false, cl_nI hi (by decide), bs1, false_or]
      cases hbt : bt s j
      · simp
      · by_cases hw : w i < w j
        · simp [hw, Int32.not_le.mpr hw]
        · simp [hw, Int32.not_lt.mp hw]
theorem sp_bestIn (hg : g.1 a = some (cI 16 w)) : call sc d MX10_bestIn [.int s, .ref a] g = some (some (.int (bestF s w)), g) := by
  simp only [c_X10_bestIn, s_X10_bestIn_0, s_X10_bestIn_1, s_X10_bestIn_2, s_X10_bestIn_3]
  exact lp_bestIn hg 16 0 (-1) rfl (Or.inl rfl)
end
