/-! THE MODEL'S LEAVES -/
theorem ix_c (i c : Nat) : (19 : Int32) + 5 * nI i + nI c = nI (19 + 5 * i + c) := by
  show nI 19 + nI 5 * nI i + nI c = _
  rw [pk_mul, nI_add, nI_add]
theorem ix_0 (i : Nat) : (19 : Int32) + 5 * nI i + 0 = nI (19 + 5 * i + 0) := ix_c i 0
theorem ix_1 (i : Nat) : (19 : Int32) + 5 * nI i + 1 = nI (19 + 5 * i + 1) := ix_c i 1
theorem ix_2 (i : Nat) : (19 : Int32) + 5 * nI i + 2 = nI (19 + 5 * i + 2) := ix_c i 2
theorem ix_3 (i : Nat) : (19 : Int32) + 5 * nI i + 3 = nI (19 + 5 * i + 3) := ix_c i 3
theorem ix_4 (i : Nat) : (19 : Int32) + 5 * nI i + 4 = nI (19 + 5 * i + 4) := ix_c i 4
theorem ix_w (t : Nat) : (3 : Int32) + nI t = nI (3 + t) := nI_add 3 t
theorem in59 {j : Nat} (h : j < 59) : mx_in (nI j) 59 = true := in_nI h (by decide)
theorem cl59 {j : Nat} (h : j < 59) : (nI j).toNatClampNeg = j := cl_nI h (by decide)
section
variable {sc : mx_X} {d : Nat} {g : mx_G} {s : Int32} {F : Fam} {fr : List Value} {i : Nat}
theorem sp_in {v lo hi : Int32} : call sc d MX11_in [.int v, .int lo, .int hi] g = some (some (.int (b2 (wi v lo hi))), g) := by
  by_cases h1 : lo ≤ v <;> by_cases h2 : v ≤ hi <;> simp [c_X11_in, wi, b2, h1, h2, s_X11_in_0, s_X11_in_1, s_X11_in_2, s_X11_in_5, s_X11_in_6, s_X11_in_7, s_X11_in_10, s_X11_in_11, s_X11_in_14, s_X11_in_15, s_X11_in_15_0, s_X11_in_15_1, Int32.not_le.symm, Int32.not_lt]
theorem sp_mKind {t : Int32} : call sc (d + 1) MX11_isKind [.int t] g = some (some (.int (b2 (wi t 0 5))), g) := by
  simp only [c_X11_isKind, s_X11_isKind_0, s_X11_isKind_1, s_X11_isKind_2, s_X11_isKind_3, s_X11_isKind_6, s_X11_isKind_6_0, s_X11_isKind_6_1, sp_in, b2_nar, ck0, ck1, ck2, ck3, ck4, Option.toList_some, Option.toList_none, List.cons_append, List.nil_append, gf_hit, pf_hit, ai_hit, al_hit, ar_hit, ob_hit, if_true, if_false, reduceIte, reduceCtorEq]
theorem sp_mThing {t : Int32} : call sc (d + 1) MX11_isThing [.int t] g = some (some (.int (b2 (wi t 0 15))), g) := by
  simp only [c_X11_isThing, s_X11_isThing_0, s_X11_isThing_1, s_X11_isThing_2, s_X11_isThing_4, s_X11_isThing_7, s_X11_isThing_7_0, s_X11_isThing_7_1, sp_in, b2_nar, ck0, ck1, ck2, ck3, ck4, Option.toList_some, Option.toList_none, List.cons_append, List.nil_append, gf_hit, pf_hit, ai_hit, al_hit, ar_hit, ob_hit, if_true, if_false, reduceIte, reduceCtorEq]
theorem sp_mSheet {t : Int32} : call sc (d + 1) MX11_isSheet [.int t] g = some (some (.int (b2 (wi t 0 3))), g) := by
  simp only [c_X11_isSheet, s_X11_isSheet_0, s_X11_isSheet_1, s_X11_isSheet_2, s_X11_isSheet_3, s_X11_isSheet_6, s_X11_isSheet_6_0, s_X11_isSheet_6_1, sp_in, b2_nar, ck0, ck1, ck2, ck3, ck4, Option.toList_some, Option.toList_none, List.cons_append, List.nil_append, gf_hit, pf_hit, ai_hit, al_hit, ar_hit, ob_hit, if_true, if_false, reduceIte, reduceCtorEq]
theorem sp_but {t : Int32} : call sc d MX11_but [.int s, .int t] g = some (some (.int (rm s t)), g) := by
  by_cases h : t < 0
  · simp only [c_X11_but, s_X11_but_0, s_X11_but_1, s_X11_but_4, s_X11_but_5, s_X11_but_8, s_X11_but_9, s_X11_but_10, s_X11_but_11, s_X11_but_12, s_X11_but_13, s_X11_but_14, s_X11_but_15, rm_neg h, Int32.not_le.mpr h, if_false]
  · simp only [c_X11_but, s_X11_but_0, s_X11_but_1, s_X11_but_4, s_X11_but_5, s_X11_but_8, s_X11_but_9, s_X11_but_10, s_X11_but_11, s_X11_but_12, s_X11_but_13, s_X11_but_14, s_X11_but_15, rm_pos h, Int32.not_lt.mp h, if_true]
theorem lp_lastOf : ∀ (j : Nat), j ≤ 16 → den sc d MX11_lastOf 3 [some (.int s), some (.int (nI j + (-1)))] [] g = some (some (.int (lastL s j)), g)
  | 0, _ => by
    rw [s_X11_lastOf_3]
    simp only [s_X11_lastOf_0, s_X11_lastOf_2, s_X11_lastOf_4, s_X11_lastOf_7, s_X11_lastOf_8, s_X11_lastOf_9, s_X11_lastOf_10, s_X11_lastOf_11, s_X11_lastOf_12, s_X11_lastOf_15, s_X11_lastOf_18, s_X11_lastOf_21, s_X11_lastOf_22, show nI 0 + (-1) < 0 from by decide, if_true, lastL]
    rfl
  | j + 1, hj => by
    have ih := lp_lastOf j (by omega)
    rw [s_X11_lastOf_3]
    simp only [s_X11_lastOf_0, s_X11_lastOf_2, s_X11_lastOf_4, s_X11_lastOf_7, s_X11_lastOf_8, s_X11_lastOf_9, s_X11_lastOf_10, s_X11_lastOf_11, s_X11_lastOf_12, s_X11_lastOf_15, s_X11_lastOf_18, s_X11_lastOf_21, s_X11_lastOf_22, nIm1, nn_nI (show j < 2 ^ 31 by omega), if_false, ctm0 (show j < 32 by omega), lastL, ih]
    cases bt s j <;> simp
theorem sp_lastOf : call sc d MX11_lastOf [.int s] g = some (some (.int (lastF s)), g) := by
  simp only [c_X11_lastOf, s_X11_lastOf_0, s_X11_lastOf_2]
  exact lp_lastOf 16 (by omega)
theorem sp_its (hm : g.1 42 = some (.inr (11, .ref 43 :: fr))) {c : Nat} (hi : i < 8) (hc : c < 5) : call sc d MX11_its [.ref 42, .int (nI i), .int (nI c)] (RF g F) = some (some (.int (rowO F (19 + 5 * i + c))), RF g F) := by
  simp only [c_X11_its, s_X11_its_0, s_X11_its_1, s_X11_its_4, s_X11_its_6, s_X11_its_7, s_X11_its_8, s_X11_its_9, s_X11_its_10, s_X11_its_11, s_X11_its_12, s_X11_its_13, rF_o (show 42 ≠ 43 by decide), hm, gf_hit, List.getElem?_cons_zero, ob1_s, ix_c, av_hit rF_43, cI, ai_hit, in59 (show 19 + 5 * i + c < 59 by omega), cl59 (show 19 + 5 * i + c < 59 by omega), if_true]
theorem sp_its0 (hm : g.1 42 = some (.inr (11, .ref 43 :: fr))) (hi : i < 8) : call sc d MX11_its [.ref 42, .int (nI i), .int 0] (RF g F) = some (some (.int (gk F i)), RF g F) := by rw [← ro_k F hi]; exact sp_its hm hi (c := 0) (by decide)
theorem sp_its1 (hm : g.1 42 = some (.inr (11, .ref 43 :: fr))) (hi : i < 8) : call sc d MX11_its [.ref 42, .int (nI i), .int 1] (RF g F) = some (some (.int (ga F i)), RF g F) := by rw [← ro_a F hi]; exact sp_its hm hi (c := 1) (by decide)
theorem sp_its2 (hm : g.1 42 = some (.inr (11, .ref 43 :: fr))) (hi : i < 8) : call sc d MX11_its [.ref 42, .int (nI i), .int 2] (RF g F) = some (some (.int (gp F i)), RF g F) := by rw [← ro_p F hi]; exact sp_its hm hi (c := 2) (by decide)
theorem sp_its3 (hm : g.1 42 = some (.inr (11, .ref 43 :: fr))) (hi : i < 8) : call sc d MX11_its [.ref 42, .int (nI i), .int 3] (RF g F) = some (some (.int (gc F i)), RF g F) := by rw [← ro_c F hi]; exact sp_its hm hi (c := 3) (by decide)
theorem sp_its4 (hm : g.1 42 = some (.inr (11, .ref 43 :: fr))) (hi : i < 8) : call sc d MX11_its [.ref 42, .int (nI i), .int 4] (RF g F) = some (some (.int (gl F i)), RF g F) := by rw [← ro_l F hi]; exact sp_its hm hi (c := 4) (by decide)
theorem sp_puts (hm : g.1 42 = some (.inr (11, .ref 43 :: fr))) {c : Nat} (hi : i < 8) (hc : c < 5) {v : Int32} {G : Fam} (hG : upd (rowO F) (19 + 5 * i + c) v = rowO G) : call sc d MX11_puts [.ref 42, .int (nI i), .int (nI c), .int v] (RF g F) = some (none, RF g G) := by
  simp only [c_X11_puts, s_X11_puts_0, s_X11_puts_1, s_X11_puts_4, s_X11_puts_6, s_X11_puts_7, s_X11_puts_8, s_X11_puts_9, s_X11_puts_10, s_X11_puts_11, s_X11_puts_12, s_X11_puts_13, s_X11_puts_14, rF_o (show 42 ≠ 43 by decide), hm, gf_hit, List.getElem?_cons_zero, ob1_s, ix_c, rF_43, cI, ai_hit, in59 (show 19 + 5 * i + c < 59 by omega), cl59 (show 19 + 5 * i + c < 59 by omega), if_true]
  rw [← rF_up hG]
  rfl
theorem sp_puts0 (hm : g.1 42 = some (.inr (11, .ref 43 :: fr))) (hi : i < 8) {v : Int32} : call sc d MX11_puts [.ref 42, .int (nI i), .int 0, .int v] (RF g F) = some (none, RF g (wk F (upd (gk F) i v))) := sp_puts hm hi (c := 0) (by decide) (ru_k F hi v)
theorem sp_puts1 (hm : g.1 42 = some (.inr (11, .ref 43 :: fr))) (hi : i < 8) {v : Int32} : call sc d MX11_puts [.ref 42, .int (nI i), .int 1, .int v] (RF g F) = some (none, RF g (wa F (upd (ga F) i v))) := sp_puts hm hi (c := 1) (by decide) (ru_a F hi v)
theorem sp_puts2 (hm : g.1 42 = some (.inr (11, .ref 43 :: fr))) (hi : i < 8) {v : Int32} : call sc d MX11_puts [.ref 42, .int (nI i), .int 2, .int v] (RF g F) = some (none, RF g (wp F (upd (gp F) i v))) := sp_puts hm hi (c := 2) (by decide) (ru_p F hi v)
theorem sp_puts3 (hm : g.1 42 = some (.inr (11, .ref 43 :: fr))) (hi : i < 8) {v : Int32} : call sc d MX11_puts [.ref 42, .int (nI i), .int 3, .int v] (RF g F) = some (none, RF g (wc F (upd (gc F) i v))) := sp_puts hm hi (c := 3) (by decide) (ru_c F hi v)
theorem sp_puts4 (hm : g.1 42 = some (.inr (11, .ref 43 :: fr))) (hi : i < 8) {v : Int32} : call sc d MX11_puts [.ref 42, .int (nI i), .int 4, .int v] (RF g F) = some (none, RF g (wl F (upd (gl F) i v))) := sp_puts hm hi (c := 4) (by decide) (ru_l F hi v)
theorem lp_bestOf (hm : g.1 42 = some (.inr (11, .ref 43 :: fr))) : ∀ (k j : Nat) (best : Int32), j + k = 16 → bsOk best → den sc d MX11_bestOf 4 [some (.ref 42), some (.int s), some (.int best), some (.int (nI j))] [] (RF g F) = some (some (.int (bsL (fun x y => decide (x < y)) s (gw F) k j best)), RF g F)
  | 0, j, best, hj, hb => by
    obtain rfl : j = 16 := by omega
    rw [s_X11_bestOf_4]
    simp only [s_X11_bestOf_0, s_X11_bestOf_1, s_X11_bestOf_2, s_X11_bestOf_3, s_X11_bestOf_5, s_X11_bestOf_7, s_X11_bestOf_10, s_X11_bestOf_11, s_X11_bestOf_12, s_X11_bestOf_13, s_X11_bestOf_14, s_X11_bestOf_15, s_X11_bestOf_16, s_X11_bestOf_19, s_X11_bestOf_20, s_X11_bestOf_23, s_X11_bestOf_24, s_X11_bestOf_27, s_X11_bestOf_28, s_X11_bestOf_29, s_X11_bestOf_30, s_X11_bestOf_31, s_X11_bestOf_32, s_X11_bestOf_35, s_X11_bestOf_36, s_X11_bestOf_37, s_X11_bestOf_38, s_X11_bestOf_39, s_X11_bestOf_42, s_X11_bestOf_43, s_X11_bestOf_46, s_X11_bestOf_47, s_X11_bestOf_48, s_X11_bestOf_51, s_X11_bestOf_54, s_X11_bestOf_55, ge16, if_true, bsL]
  | k + 1, j, best, hj, hb => by
    have hlt : j < 16 := by omega
    have ih := lp_bestOf hm k (j + 1) (bs1 (fun x y => decide (x < y)) s (gw F) j best) (by omega) (bs1_ok hlt hb)
    rw [s_X11_bestOf_4]
    simp only [s_X11_bestOf_0, s_X11_bestOf_1, s_X11_bestOf_2, s_X11_bestOf_3, s_X11_bestOf_5, s_X11_bestOf_7, s_X11_bestOf_10, s_X11_bestOf_11, s_X11_bestOf_12, s_X11_bestOf_13, s_X11_bestOf_14, s_X11_bestOf_15, s_X11_bestOf_16, s_X11_bestOf_19, s_X11_bestOf_20, s_X11_bestOf_23, s_X11_bestOf_24, s_X11_bestOf_27, s_X11_bestOf_28, s_X11_bestOf_29, s_X11_bestOf_30, s_X11_bestOf_31, s_X11_bestOf_32, s_X11_bestOf_35, s_X11_bestOf_36, s_X11_bestOf_37, s_X11_bestOf_38, s_X11_bestOf_39, s_X11_bestOf_42, s_X11_bestOf_43, s_X11_bestOf_46, s_X11_bestOf_47, s_X11_bestOf_48, s_X11_bestOf_51, s_X11_bestOf_54, s_X11_bestOf_55, ng16 hlt, if_false, ctm (show j < 32 by omega), rF_o (show 42 ≠ 43 by decide), hm, gf_hit, List.getElem?_cons_zero, ob1_s, ix_w, av_hit rF_43, cI, ai_hit, in59 (show 3 + j < 59 by omega), cl59 (show 3 + j < 59 by omega), ro_w F hlt, if_true, nI_1, bsL]
    rw [← ih]
    rcases hb with rfl | ⟨i, hi, rfl⟩
    · cases hbt : bt s j <;> simp [bs1, hbt]
    · simp only [ix_w, in59 (show 3 + i < 59 by omega), cl59 (show 3 + i < 59 by omega), ro_w F hi, if_true, nn_nI (show i < 2 ^ 31 by omega), if_false, cl_nI hi (by decide), bs1, false_or]
      cases hbt : bt s j
      · simp
      · by_cases hw : gw F i < gw F j
        · simp [hw, Int32.not_le.mpr hw]
        · simp [hw, Int32.not_lt.mp hw]
theorem sp_bestOf (hm : g.1 42 = some (.inr (11, .ref 43 :: fr))) : call sc d MX11_bestOf [.ref 42, .int s] (RF g F) = some (some (.int (bestF s (gw F))), RF g F) := by
  simp only [c_X11_bestOf, s_X11_bestOf_0, s_X11_bestOf_1, s_X11_bestOf_2, s_X11_bestOf_3]
  exact lp_bestOf hm 16 0 (-1) rfl (Or.inl rfl)
theorem lp_worstOf (hm : g.1 42 = some (.inr (11, .ref 43 :: fr))) : ∀ (k j : Nat) (best : Int32), j + k = 16 → bsOk best → den sc d MX11_worstOf 4 [some (.ref 42), some (.int s), some (.int best), some (.int (nI j))] [] (RF g F) = some (some (.int (bsL (fun x y => decide (y < x)) s (gw F) k j best)), RF g F)
  | 0, j, best, hj, hb => by
    obtain rfl : j = 16 := by omega
    rw [s_X11_worstOf_4]
    simp only [s_X11_worstOf_0, s_X11_worstOf_1, s_X11_worstOf_2, s_X11_worstOf_3, s_X11_worstOf_5, s_X11_worstOf_7, s_X11_worstOf_10, s_X11_worstOf_11, s_X11_worstOf_12, s_X11_worstOf_13, s_X11_worstOf_14, s_X11_worstOf_15, s_X11_worstOf_16, s_X11_worstOf_19, s_X11_worstOf_20, s_X11_worstOf_23, s_X11_worstOf_24, s_X11_worstOf_27, s_X11_worstOf_28, s_X11_worstOf_29, s_X11_worstOf_30, s_X11_worstOf_31, s_X11_worstOf_32, s_X11_worstOf_35, s_X11_worstOf_36, s_X11_worstOf_37, s_X11_worstOf_38, s_X11_worstOf_39, s_X11_worstOf_42, s_X11_worstOf_43, s_X11_worstOf_46, s_X11_worstOf_47, s_X11_worstOf_48, s_X11_worstOf_51, s_X11_worstOf_54, s_X11_worstOf_55, ge16, if_true, bsL]
  | k + 1, j, best, hj, hb => by
    have hlt : j < 16 := by omega
    have ih := lp_worstOf hm k (j + 1) (bs1 (fun x y => decide (y < x)) s (gw F) j best) (by omega) (bs1_ok hlt hb)
    rw [s_X11_worstOf_4]
    simp only [s_X11_worstOf_0, s_X11_worstOf_1, s_X11_worstOf_2, s_X11_worstOf_3, s_X11_worstOf_5, s_X11_worstOf_7, s_X11_worstOf_10, s_X11_worstOf_11, s_X11_worstOf_12, s_X11_worstOf_13, s_X11_worstOf_14, s_X11_worstOf_15, s_X11_worstOf_16, s_X11_worstOf_19, s_X11_worstOf_20, s_X11_worstOf_23, s_X11_worstOf_24, s_X11_worstOf_27, s_X11_worstOf_28, s_X11_worstOf_29, s_X11_worstOf_30, s_X11_worstOf_31, s_X11_worstOf_32, s_X11_worstOf_35, s_X11_worstOf_36, s_X11_worstOf_37, s_X11_worstOf_38, s_X11_worstOf_39, s_X11_worstOf_42, s_X11_worstOf_43, s_X11_worstOf_46, s_X11_worstOf_47, s_X11_worstOf_48, s_X11_worstOf_51, s_X11_worstOf_54, s_X11_worstOf_55, ng16 hlt, if_false, ctm (show j < 32 by omega), rF_o (show 42 ≠ 43 by decide), hm, gf_hit, List.getElem?_cons_zero, ob1_s, ix_w, av_hit rF_43, cI, ai_hit, in59 (show 3 + j < 59 by omega), cl59 (show 3 + j < 59 by omega), ro_w F hlt, if_true, nI_1, bsL]
    rw [← ih]
    rcases hb with rfl | ⟨i, hi, rfl⟩
    · cases hbt : bt s j <;> simp [bs1, hbt]
    · simp only [ix_w, in59 (show 3 + i < 59 by omega), cl59 (show 3 + i < 59 by omega), ro_w F hi, if_true, nn_nI (show i < 2 ^ 31 by omega), if_false, cl_nI hi (by decide), bs1, false_or]
      cases hbt : bt s j
      · simp
      · by_cases hw : gw F j < gw F i
        · simp [hw, Int32.not_le.mpr hw]
        · simp [hw, Int32.not_lt.mp hw]
theorem sp_worstOf (hm : g.1 42 = some (.inr (11, .ref 43 :: fr))) : call sc d MX11_worstOf [.ref 42, .int s] (RF g F) = some (some (.int (worstF s (gw F))), RF g F) := by
  simp only [c_X11_worstOf, s_X11_worstOf_0, s_X11_worstOf_1, s_X11_worstOf_2, s_X11_worstOf_3]
  exact lp_worstOf hm 16 0 (-1) rfl (Or.inl rfl)
/-- WORTH of a set -/
def valL (s : Int32) (w : Nat → Int32) : Nat → Nat → Int32 → Int32
  | 0, _, v => v
  | k + 1, j, v => valL s w k (j + 1) (if bt s j = true then v + w j else v)
def valF (s : Int32) (w : Nat → Int32) : Int32 := valL s w 16 0 0
theorem lp_valueOf (hm : g.1 42 = some (.inr (11, .ref 43 :: fr))) : ∀ (k j : Nat) (v : Int32), j + k = 16 → den sc d MX11_valueOf 4 [some (.ref 42), some (.int s), some (.int v), some (.int (nI j))] [] (RF g F) = some (some (.int (valL s (gw F) k j v)), RF g F)
  | 0, j, v, hj => by
    obtain rfl : j = 16 := by omega
    rw [s_X11_valueOf_4]
    simp only [s_X11_valueOf_0, s_X11_valueOf_1, s_X11_valueOf_2, s_X11_valueOf_3, s_X11_valueOf_5, s_X11_valueOf_7, s_X11_valueOf_10, s_X11_valueOf_11, s_X11_valueOf_12, s_X11_valueOf_13, s_X11_valueOf_14, s_X11_valueOf_15, s_X11_valueOf_16, s_X11_valueOf_17, s_X11_valueOf_20, s_X11_valueOf_21, s_X11_valueOf_24, s_X11_valueOf_25, s_X11_valueOf_26, s_X11_valueOf_27, s_X11_valueOf_28, s_X11_valueOf_31, s_X11_valueOf_32, s_X11_valueOf_33, s_X11_valueOf_34, s_X11_valueOf_37, s_X11_valueOf_40, s_X11_valueOf_41, ge16, if_true, valL]
  | k + 1, j, v, hj => by
    have hlt : j < 16 := by omega
    have ih := lp_valueOf hm k (j + 1) (if bt s j = true then v + gw F j else v) (by omega)
    rw [s_X11_valueOf_4]
    simp only [s_X11_valueOf_0, s_X11_valueOf_1, s_X11_valueOf_2, s_X11_valueOf_3, s_X11_valueOf_5, s_X11_valueOf_7, s_X11_valueOf_10, s_X11_valueOf_11, s_X11_valueOf_12, s_X11_valueOf_13, s_X11_valueOf_14, s_X11_valueOf_15, s_X11_valueOf_16, s_X11_valueOf_17, s_X11_valueOf_20, s_X11_valueOf_21, s_X11_valueOf_24, s_X11_valueOf_25, s_X11_valueOf_26, s_X11_valueOf_27, s_X11_valueOf_28, s_X11_valueOf_31, s_X11_valueOf_32, s_X11_valueOf_33, s_X11_valueOf_34, s_X11_valueOf_37, s_X11_valueOf_40, s_X11_valueOf_41, ng16 hlt, if_false, ctm (show j < 32 by omega), rF_o (show 42 ≠ 43 by decide), hm, gf_hit, List.getElem?_cons_zero, ob1_s, ix_w, av_hit rF_43, cI, ai_hit, in59 (show 3 + j < 59 by omega), cl59 (show 3 + j < 59 by omega), ro_w F hlt, if_true, nI_1, valL]
    rw [← ih]
    cases bt s j <;> simp
theorem sp_valueOf (hm : g.1 42 = some (.inr (11, .ref 43 :: fr))) : call sc d MX11_valueOf [.ref 42, .int s] (RF g F) = some (some (.int (valF s (gw F))), RF g F) := by
  simp only [c_X11_valueOf, s_X11_valueOf_0, s_X11_valueOf_1, s_X11_valueOf_2, s_X11_valueOf_3]
  exact lp_valueOf hm 16 0 0 rfl
theorem sp_mhas (hm : g.1 42 = some (.inr (11, .ref 43 :: fr))) (hi : i < 8) {j : Nat} (hj : j < 32) : call sc (d + 1) MX11_has [.ref 42, .int (nI i), .int (nI j)] (RF g F) = some (some (.int (b2 (bt (gp F i) j))), RF g F) := by
  have hrc : mx_rc (RF g F) 42 = some 11 := rc_hit (by rw [rF_o (by decide)]; exact hm)
  cases hb : bt (gp F i) j <;> simp [c_X11_has, s_X11_has_0, s_X11_has_1, s_X11_has_2, s_X11_has_3, s_X11_has_6, s_X11_has_7, s_X11_has_8, s_X11_has_9, s_X11_has_10, s_X11_has_11, s_X11_has_14, s_X11_has_15, s_X11_has_18, s_X11_has_19, s_X11_has_19_0, s_X11_has_19_1, hrc, sp_its2 hm hi, ck0, ck1, ck2, ctm hj, hb, b2]
theorem sp_isOne (hm : g.1 42 = some (.inr (11, .ref 43 :: fr))) {p : Int32} : call sc (d + 1) MX11_isOne [.ref 42, .int p] (RF g F) = some (some (.int (b2 (wi p 0 (gn F - 1)))), RF g F) := by
  simp only [c_X11_isOne, s_X11_isOne_0, s_X11_isOne_1, s_X11_isOne_2, s_X11_isOne_3, s_X11_isOne_6, s_X11_isOne_7, s_X11_isOne_8, s_X11_isOne_9, s_X11_isOne_10, s_X11_isOne_13, s_X11_isOne_13_0, s_X11_isOne_13_1, rF_o (show 42 ≠ 43 by decide), hm, gf_hit, List.getElem?_cons_zero, ob1_s, av_hit rF_43, cI, ai_hit, show mx_in 2 59 = true from by decide, if_true, show (2 : Int32).toNatClampNeg = 2 from by decide, ro_n, sp_in, b2_nar, ck0, ck1, ck2, ck3, ck4, Option.toList_some, Option.toList_none, List.cons_append, List.nil_append, gf_hit, pf_hit, ai_hit, al_hit, ar_hit, ob_hit, if_true, if_false, reduceIte, reduceCtorEq]
theorem sp_becomes (hm : g.1 42 = some (.inr (11, .ref 43 :: fr))) {j : Nat} (hj : j < 59) {v : Int32} {G : Fam} (hG : upd (rowO F) j v = rowO G) : call sc d MX11_becomes [.ref 42, .int (nI j), .int v] (RF g F) = some (some (.int (rowO F j)), RF g G) := by
  simp only [c_X11_becomes, s_X11_becomes_0, s_X11_becomes_1, s_X11_becomes_4, s_X11_becomes_5, s_X11_becomes_6, s_X11_becomes_7, s_X11_becomes_8, s_X11_becomes_11, s_X11_becomes_12, s_X11_becomes_13, s_X11_becomes_14, s_X11_becomes_15, rF_o (show 42 ≠ 43 by decide), hm, gf_hit, List.getElem?_cons_zero, ob1_s, av_hit rF_43, rF_43, cI, ai_hit, in59 hj, cl59 hj, if_true]
  rw [← rF_up hG]
  rfl
theorem sp_held {v lo hi : Int32} : call sc d MX11_held [.int v, .int lo, .int hi] g = some (some (.int (if v < lo then lo else if hi < v then hi else v)), g) := by
  by_cases h1 : v < lo
  · simp [c_X11_held, s_X11_held_0, s_X11_held_1, s_X11_held_2, s_X11_held_5, s_X11_held_6, s_X11_held_9, s_X11_held_10, s_X11_held_11, s_X11_held_14, s_X11_held_15, s_X11_held_18, s_X11_held_19, h1, Int32.not_le.mpr h1]
  · by_cases h2 : hi < v
    · simp [c_X11_held, s_X11_held_0, s_X11_held_1, s_X11_held_2, s_X11_held_5, s_X11_held_6, s_X11_held_9, s_X11_held_10, s_X11_held_11, s_X11_held_14, s_X11_held_15, s_X11_held_18, s_X11_held_19, h1, Int32.not_lt.mp h1, h2, Int32.not_le.mpr h2]
    · simp [c_X11_held, s_X11_held_0, s_X11_held_1, s_X11_held_2, s_X11_held_5, s_X11_held_6, s_X11_held_9, s_X11_held_10, s_X11_held_11, s_X11_held_14, s_X11_held_15, s_X11_held_18, s_X11_held_19, h1, Int32.not_lt.mp h1, h2, Int32.not_lt.mp h2]
end
