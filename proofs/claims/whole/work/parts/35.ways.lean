/-! THE KINDS -/
def fi0 (age : Int32) : Int32 := 5 * age - 5 * age / 16 * 16
def hid (s : Int32) (w : Nat → Int32) : Int32 := rm s (bestF s w)
def showF (kd age p : Int32) (w : Nat → Int32) : Int32 := if kd = 1 then hid p w else if kd = 4 then hid (hid p w) w else if kd = 5 then (if age < 49 then 0 else p) else p
def takeF (kd s : Int32) (w : Nat → Int32) : Int32 := if kd = 2 then worstF s w else if kd = 3 then lastF s else if kd = 5 then (if rm s (worstF s w) = 0 then worstF s w else worstF (rm s (worstF s w)) w) else bestF s w
def findF (kd age : Int32) : Int32 := if kd = 2 then (if age - age / 2 * 2 = 0 then fi0 age else -1) else if kd = 3 then (fi0 age + 1) - (fi0 age + 1) / 16 * 16 else if kd = 5 then -1 else fi0 age
theorem hid_eq (s : Int32) (w : Nat → Int32) : s &&& (so (bestF s w) ^^^ (-1)) = hid s w := rfl
theorem rm_eq (s t : Int32) : s &&& (so t ^^^ (-1)) = rm s t := rfl
section
variable {sc : mx_X} {d : Nat} {g : mx_G} {s age : Int32} {w : Nat → Int32} {a t ci : Nat} {fs : List Value}
theorem sp_X3_shows : call sc d MX3_shows [.ref t, .int s, .int age, .ref a] g = some (some (.int s), g) := by
  simp only [c_X3_shows, s_X3_shows_0, s_X3_shows_1]
theorem sp_X3_taken (hg : g.1 a = some (cI 16 w)) : call sc (d + 1) MX3_taken [.ref t, .int s, .ref a] g = some (some (.int (bestF s w)), g) := by
  simp only [c_X3_taken, s_X3_taken_0, s_X3_taken_1, s_X3_taken_2, s_X3_taken_5, sp_bestIn hg, ck0, ck1, ck2, ck3, ck4, Option.toList_some, Option.toList_none, List.cons_append, List.nil_append, gf_hit, pf_hit, ai_hit, al_hit, ar_hit, ob_hit, if_true, if_false, reduceIte, reduceCtorEq]
theorem sp_X3_finds : call sc d MX3_finds [.ref t, .int age] g = some (some (.int (fi0 age)), g) := by
  simp only [c_X3_finds, s_X3_finds_0, s_X3_finds_1, s_X3_finds_2, s_X3_finds_3, s_X3_finds_5, s_X3_finds_6, show ¬ (16 : Int32) = 0 from by decide, if_false, fi0]
theorem sp_X2_shows (hg : g.1 a = some (cI 16 w)) (ht : g.1 t = some (.inr (ci, fs))) : call sc (d + 1) MX2_shows [.ref t, .int s, .int age, .ref a] g = some (some (.int (hid s w)), g) := by
  simp only [c_X2_shows, s_X2_shows_0, s_X2_shows_1, s_X2_shows_2, s_X2_shows_3, s_X2_shows_4, s_X2_shows_7, s_X2_shows_9, s_X2_shows_11, s_X2_shows_13, s_X2_shows_14, s_X2_shows_17, s_X2_shows_20, s_X2_shows_21, s_X2_shows_22, s_X2_shows_23, ht, sp_X3_shows, sp_bestIn hg, sp_setOf, hid_eq, ck0, ck1, ck2, ck3, ck4, Option.toList_some, Option.toList_none, List.cons_append, List.nil_append, gf_hit, pf_hit, ai_hit, al_hit, ar_hit, ob_hit, if_true, if_false, reduceIte, reduceCtorEq]
theorem sp_X6_shows (hg : g.1 a = some (cI 16 w)) (ht : g.1 t = some (.inr (ci, fs))) : call sc (d + 2) MX6_shows [.ref t, .int s, .int age, .ref a] g = some (some (.int (hid (hid s w) w)), g) := by
  simp only [c_X6_shows, s_X6_shows_0, s_X6_shows_1, s_X6_shows_2, s_X6_shows_3, s_X6_shows_4, s_X6_shows_7, s_X6_shows_9, s_X6_shows_11, s_X6_shows_13, s_X6_shows_14, s_X6_shows_17, s_X6_shows_20, s_X6_shows_21, s_X6_shows_22, s_X6_shows_23, ht, sp_X2_shows hg ht, sp_bestIn hg, sp_setOf, hid_eq, ck0, ck1, ck2, ck3, ck4, Option.toList_some, Option.toList_none, List.cons_append, List.nil_append, gf_hit, pf_hit, ai_hit, al_hit, ar_hit, ob_hit, if_true, if_false, reduceIte, reduceCtorEq]
theorem sp_X9_shows (ht : g.1 t = some (.inr (ci, fs))) : call sc (d + 1) MX9_shows [.ref t, .int s, .int age, .ref a] g = some (some (.int (if age < 49 then 0 else s)), g) := by
  by_cases h : age < 49
  · simp only [c_X9_shows, s_X9_shows_0, s_X9_shows_1, s_X9_shows_3, s_X9_shows_6, s_X9_shows_7, s_X9_shows_10, s_X9_shows_11, s_X9_shows_12, s_X9_shows_13, s_X9_shows_14, s_X9_shows_17, ht, h, Int32.not_le.mpr h, if_true, if_false]
  · simp only [c_X9_shows, s_X9_shows_0, s_X9_shows_1, s_X9_shows_3, s_X9_shows_6, s_X9_shows_7, s_X9_shows_10, s_X9_shows_11, s_X9_shows_12, s_X9_shows_13, s_X9_shows_14, s_X9_shows_17, ht, h, Int32.not_lt.mp h, sp_X3_shows, ck0, ck1, ck2, ck3, ck4, Option.toList_some, Option.toList_none, List.cons_append, List.nil_append, gf_hit, pf_hit, ai_hit, al_hit, ar_hit, ob_hit, if_true, if_false, reduceIte, reduceCtorEq]
theorem sp_X4_taken (hg : g.1 a = some (cI 16 w)) : call sc (d + 1) MX4_taken [.ref t, .int s, .ref a] g = some (some (.int (worstF s w)), g) := by
  simp only [c_X4_taken, s_X4_taken_0, s_X4_taken_1, s_X4_taken_2, s_X4_taken_5, sp_worstIn hg, ck0, ck1, ck2, ck3, ck4, Option.toList_some, Option.toList_none, List.cons_append, List.nil_append, gf_hit, pf_hit, ai_hit, al_hit, ar_hit, ob_hit, if_true, if_false, reduceIte, reduceCtorEq]
theorem sp_X4_finds (ht : g.1 t = some (.inr (ci, fs))) : call sc (d + 1) MX4_finds [.ref t, .int age] g = some (some (.int (if age - age / 2 * 2 = 0 then fi0 age else -1)), g) := by
  by_cases h : age - age / 2 * 2 = 0
  · simp only [c_X4_finds, s_X4_finds_0, s_X4_finds_1, s_X4_finds_2, s_X4_finds_3, s_X4_finds_6, s_X4_finds_7, s_X4_finds_10, s_X4_finds_11, s_X4_finds_12, s_X4_finds_15, show ¬ (2 : Int32) = 0 from by decide, if_false, h, ht, sp_X3_finds, ck0, ck1, ck2, ck3, ck4, Option.toList_some, Option.toList_none, List.cons_append, List.nil_append, gf_hit, pf_hit, ai_hit, al_hit, ar_hit, ob_hit, if_true, if_false, reduceIte, reduceCtorEq]
  · simp only [c_X4_finds, s_X4_finds_0, s_X4_finds_1, s_X4_finds_2, s_X4_finds_3, s_X4_finds_6, s_X4_finds_7, s_X4_finds_10, s_X4_finds_11, s_X4_finds_12, s_X4_finds_15, show ¬ (2 : Int32) = 0 from by decide, if_false, h]
theorem sp_X0_taken : call sc (d + 1) MX0_taken [.ref t, .int s, .ref a] g = some (some (.int (lastF s)), g) := by
  simp only [c_X0_taken, s_X0_taken_0, s_X0_taken_1, s_X0_taken_4, sp_greatestIn, ck0, ck1, ck2, ck3, ck4, Option.toList_some, Option.toList_none, List.cons_append, List.nil_append, gf_hit, pf_hit, ai_hit, al_hit, ar_hit, ob_hit, if_true, if_false, reduceIte, reduceCtorEq]
theorem sp_X0_finds (ht : g.1 t = some (.inr (ci, fs))) : call sc (d + 1) MX0_finds [.ref t, .int age] g = some (some (.int ((fi0 age + 1) - (fi0 age + 1) / 16 * 16)), g) := by
  simp only [c_X0_finds, s_X0_finds_0, s_X0_finds_1, s_X0_finds_2, s_X0_finds_5, s_X0_finds_6, s_X0_finds_7, s_X0_finds_9, s_X0_finds_10, ht, sp_X3_finds, show ¬ (16 : Int32) = 0 from by decide, ck0, ck1, ck2, ck3, ck4, Option.toList_some, Option.toList_none, List.cons_append, List.nil_append, gf_hit, pf_hit, ai_hit, al_hit, ar_hit, ob_hit, if_true, if_false, reduceIte, reduceCtorEq]
theorem sp_X9_taken (hg : g.1 a = some (cI 16 w)) (ht : g.1 t = some (.inr (ci, fs))) : call sc (d + 2) MX9_taken [.ref t, .int s, .ref a] g = some (some (.int (if rm s (worstF s w) = 0 then worstF s w else worstF (rm s (worstF s w)) w)), g) := by
  by_cases h : rm s (worstF s w) = 0
  · simp only [c_X9_taken, s_X9_taken_0, s_X9_taken_1, s_X9_taken_2, s_X9_taken_3, s_X9_taken_6, s_X9_taken_7, s_X9_taken_8, s_X9_taken_9, s_X9_taken_12, s_X9_taken_13, s_X9_taken_14, s_X9_taken_15, s_X9_taken_17, s_X9_taken_19, s_X9_taken_22, s_X9_taken_23, s_X9_taken_26, s_X9_taken_28, s_X9_taken_29, s_X9_taken_32, ht, sp_X4_taken hg, sp_setOf, rm_eq, h, ck0, ck1, ck2, ck3, ck4, Option.toList_some, Option.toList_none, List.cons_append, List.nil_append, gf_hit, pf_hit, ai_hit, al_hit, ar_hit, ob_hit, if_true, if_false, reduceIte, reduceCtorEq]
  · simp only [c_X9_taken, s_X9_taken_0, s_X9_taken_1, s_X9_taken_2, s_X9_taken_3, s_X9_taken_6, s_X9_taken_7, s_X9_taken_8, s_X9_taken_9, s_X9_taken_12, s_X9_taken_13, s_X9_taken_14, s_X9_taken_15, s_X9_taken_17, s_X9_taken_19, s_X9_taken_22, s_X9_taken_23, s_X9_taken_26, s_X9_taken_28, s_X9_taken_29, s_X9_taken_32, ht, sp_X4_taken hg, sp_setOf, rm_eq, h, sp_worstIn hg, ck0, ck1, ck2, ck3, ck4, Option.toList_some, Option.toList_none, List.cons_append, List.nil_append, gf_hit, pf_hit, ai_hit, al_hit, ar_hit, ob_hit, if_true, if_false, reduceIte, reduceCtorEq]
theorem sp_X9_finds : call sc d MX9_finds [.ref t, .int age] g = some (some (.int (-1)), g) := by
  simp only [c_X9_finds, s_X9_finds_0, s_X9_finds_1]
end
/-- the row of the kinds' ways -/
def wayRow : Nat → Option Nat := fun i => if i < 6 then some (i + 2) else none
def WY (g : mx_G) : Prop := g.1 1 = some (.inl (.object "PocketBorders$PersonWays", 6, .inr (.inr (.inr (.inr wayRow))))) ∧ g.1 2 = some (.inr (3, [])) ∧ g.1 3 = some (.inr (2, [])) ∧ g.1 4 = some (.inr (4, [])) ∧ g.1 5 = some (.inr (0, [])) ∧ g.1 6 = some (.inr (6, [])) ∧ g.1 7 = some (.inr (9, []))
theorem WY.put {g : mx_G} {o : Nat} {F : Fam} (h : WY g) (ho : 8 ≤ o) : WY (putF g o F) := by
  unfold WY
  rw [pF_o (by omega), pF_o (by omega), pF_o (by omega), pF_o (by omega), pF_o (by omega), pF_o (by omega), pF_o (by omega)]
  exact h
theorem in8 {j : Nat} (h : j < 8) : mx_in (nI j) 8 = true := in_nI h (by decide)
theorem cl8 {j : Nat} (h : j < 8) : (nI j).toNatClampNeg = j := cl_nI h (by decide)
theorem i60 : mx_in 0 6 = true := by decide
theorem i61 : mx_in 1 6 = true := by decide
theorem i62 : mx_in 2 6 = true := by decide
theorem i63 : mx_in 3 6 = true := by decide
theorem i64 : mx_in 4 6 = true := by decide
theorem i65 : mx_in 5 6 = true := by decide
theorem six {k : Nat} (h : k < 6) : k = 0 ∨ k = 1 ∨ k = 2 ∨ k = 3 ∨ k = 4 ∨ k = 5 := by omega
section
variable {sc : mx_X} {d : Nat} {g : mx_G} {o i kk : Nat} {F : Fam}
theorem av_w : mx_av sc (putF g o F) (o + 1) = some (cI 16 (gw F)) := av_hit pF_w
theorem av_k : mx_av sc (putF g o F) (o + 2) = some (cI 8 (gk F)) := av_hit pF_k
theorem av_a : mx_av sc (putF g o F) (o + 3) = some (cI 8 (ga F)) := av_hit pF_a
theorem av_p : mx_av sc (putF g o F) (o + 4) = some (cI 8 (gp F)) := av_hit pF_p
theorem av_c : mx_av sc (putF g o F) (o + 5) = some (cI 8 (gc F)) := av_hit pF_c
theorem av_l : mx_av sc (putF g o F) (o + 6) = some (cI 8 (gl F)) := av_hit pF_l
theorem sp_has (hi : i < 8) {j : Nat} (hj : j < 32) : call sc (d + 1) MX1_has [.ref o, .int (nI i), .int (nI j)] (putF g o F) = some (some (.int (b2 (bt (gp F i) j))), putF g o F) := by
  simp only [c_X1_has, s_X1_has_0, s_X1_has_1, s_X1_has_4, s_X1_has_5, s_X1_has_6, s_X1_has_7, s_X1_has_10, s_X1_has_10_0, s_X1_has_10_1, pF_0, cF, gf_hit, List.getElem?_cons_zero, List.getElem?_cons_succ, ob1_s, av_p, cI, ai_hit, in8 hi, cl8 hi, sp_contains hj, b2_nar, ck0, ck1, ck2, ck3, ck4, Option.toList_some, Option.toList_none, List.cons_append, List.nil_append, gf_hit, pf_hit, ai_hit, al_hit, ar_hit, ob_hit, if_true, if_false, reduceIte, reduceCtorEq]
theorem sp_shownBy (hW : WY g) (ho : 8 ≤ o) (hi : i < 8) (hk : gk F i = nI kk) (hkk : kk < 6) : call sc (d + 3) MX1_shownBy [.ref o, .int (nI i)] (putF g o F) = some (some (.int (showF (gk F i) (ga F i) (gp F i) (gw F))), putF g o F) := by
  obtain ⟨w1, w2, w3, w4, w5, w6, w7⟩ := hW.put (F := F) ho
  have r2 := rc_hit w2; have r3 := rc_hit w3; have r4 := rc_hit w4; have r5 := rc_hit w5; have r6 := rc_hit w6; have r7 := rc_hit w7
  rcases six hkk with rfl | rfl | rfl | rfl | rfl | rfl <;>
  simp [c_X1_shownBy, s_X1_shownBy_0, s_X1_shownBy_1, s_X1_shownBy_4, s_X1_shownBy_5, s_X1_shownBy_8, s_X1_shownBy_9, s_X1_shownBy_10, s_X1_shownBy_11, s_X1_shownBy_12, s_X1_shownBy_15, s_X1_shownBy_16, s_X1_shownBy_17, s_X1_shownBy_18, s_X1_shownBy_21, s_X1_shownBy_22, s_X1_shownBy_23, s_X1_shownBy_24, s_X1_shownBy_27_0, s_X1_shownBy_27_2, s_X1_shownBy_27_3, s_X1_shownBy_27_4, s_X1_shownBy_27_6, s_X1_shownBy_27_9, s_X1_shownBy_30, pF_0, cF, gf_hit, ob1_s, av_k, av_p, av_a, cI, ai_hit, ar_hit, in8 hi, cl8 hi, hk, w1, in_nI, cl_nI, wayRow, va_rf, i60, i61, i62, i63, i64, i65, r2, r3, r4, r5, r6, r7, sp_X3_shows, sp_X2_shows pF_w w3, sp_X6_shows pF_w w6, sp_X9_shows w7, ck0, showF, show (nI 0 : Int32) = 0 from rfl, show (nI 1 : Int32) = 1 from rfl, show (nI 2 : Int32) = 2 from rfl, show (nI 3 : Int32) = 3 from rfl, show (nI 4 : Int32) = 4 from rfl, show (nI 5 : Int32) = 5 from rfl]
theorem sp_takenFrom (hW : WY g) (ho : 8 ≤ o) (hi : i < 8) (hk : gk F i = nI kk) (hkk : kk < 6) : call sc (d + 3) MX1_takenFrom [.ref o, .int (nI i)] (putF g o F) = some (some (.int (takeF (gk F i) (showF (gk F i) (ga F i) (gp F i) (gw F)) (gw F))), putF g o F) := by
  obtain ⟨w1, w2, w3, w4, w5, w6, w7⟩ := hW.put (F := F) ho
  have r2 := rc_hit w2; have r3 := rc_hit w3; have r4 := rc_hit w4; have r5 := rc_hit w5; have r6 := rc_hit w6; have r7 := rc_hit w7
  rcases six hkk with rfl | rfl | rfl | rfl | rfl | rfl <;>
  simp [c_X1_takenFrom, s_X1_takenFrom_0, s_X1_takenFrom_1, s_X1_takenFrom_4, s_X1_takenFrom_5, s_X1_takenFrom_8, s_X1_takenFrom_9, s_X1_takenFrom_10, s_X1_takenFrom_11, s_X1_takenFrom_12, s_X1_takenFrom_13, s_X1_takenFrom_14, s_X1_takenFrom_15, s_X1_takenFrom_18, s_X1_takenFrom_19, s_X1_takenFrom_20, s_X1_takenFrom_21, s_X1_takenFrom_24, s_X1_takenFrom_25, s_X1_takenFrom_26, s_X1_takenFrom_27, s_X1_takenFrom_30_0, s_X1_takenFrom_30_2, s_X1_takenFrom_30_3, s_X1_takenFrom_30_4, s_X1_takenFrom_30_6, s_X1_takenFrom_30_9, s_X1_takenFrom_33, s_X1_takenFrom_34, s_X1_takenFrom_37_0, s_X1_takenFrom_37_2, s_X1_takenFrom_37_3, s_X1_takenFrom_37_4, s_X1_takenFrom_37_6, s_X1_takenFrom_37_9, s_X1_takenFrom_40, pF_0, cF, gf_hit, ob1_s, av_k, av_p, av_a, cI, ai_hit, ar_hit, in8 hi, cl8 hi, hk, w1, in_nI, cl_nI, wayRow, va_rf, i60, i61, i62, i63, i64, i65, r2, r3, r4, r5, r6, r7, sp_X3_shows, sp_X2_shows pF_w w3, sp_X6_shows pF_w w6, sp_X9_shows w7, sp_X3_taken pF_w, sp_X4_taken pF_w, sp_X0_taken, sp_X9_taken pF_w w7, ck0, ck1, showF, takeF, show (nI 0 : Int32) = 0 from rfl, show (nI 1 : Int32) = 1 from rfl, show (nI 2 : Int32) = 2 from rfl, show (nI 3 : Int32) = 3 from rfl, show (nI 4 : Int32) = 4 from rfl, show (nI 5 : Int32) = 5 from rfl]
end
