/-! FAMILY: the class -/
section
variable {sc : mx_X} {d : Nat} {h : mx_G} {A : AS} {q : Nat} {T : Fam}
theorem pc_person (p : PC h A q T) (hI : AI A) (hq : q ≤ aL A) {kk : Nat} (hkk : kk < 6) : RD h A (call sc (d + 6) MX8_readPerson [.ref 31, .int (nI kk)] h) (pPer (aT A) (aL A) (nI kk) q T) := by
  have hT := p.2.2.1
  have y := p.2.1
  obtain ⟨n0, e0, _⟩ := p.2.2.2
  obtain ⟨n, hn, hg⟩ := hT.n
  unfold pPer
  by_cases h8 : gn T < 8
  · have hn8 : n < 8 := by rw [hg] at h8; exact (nI_ltI (by omega) (show 8 < 2 ^ 31 by decide)).mp h8
    have ha := fa_addPerson (sc := sc) (d := d + 5) y (k := nI kk) hn8 hg
    have hG : FI (addF T n (nI kk) 0 0 (-1)) := add_ok hT hn8 hkk (a := 0) (by decide) (p := 0) (by decide) (Or.inl rfl)
    have p1 := p.put hG
    obtain ⟨h2, e2, p2, s2⟩ := pc_next (sc := sc) (d := d + 3) p1 hI hq
    have s02 : same 42 54 h h2 := (same.put (by omega)).trans s2
    have q1 := en_q (t := aT A) hq
    have hd : call sc (d + 6) MX8_readPerson [.ref 31, .int (nI kk)] h = den sc (d + 6) MX8_readPerson 27 [some (.ref 31), some (.int (nI kk)), some (.int (nI n))] [] h2 := by
      simp only [c_X8_readPerson, s_X8_readPerson_0, s_X8_readPerson_1, s_X8_readPerson_4, s_X8_readPerson_7, s_X8_readPerson_9, s_X8_readPerson_12, s_X8_readPerson_13, s_X8_readPerson_13_0, s_X8_readPerson_13_1, s_X8_readPerson_14, s_X8_readPerson_15, s_X8_readPerson_18, s_X8_readPerson_19, s_X8_readPerson_22, s_X8_readPerson_23, s_X8_readPerson_24, e0, y.t0, h8, y.rc, ha, p1.rc, e2, List.getElem?_cons_zero, List.getElem?_cons_succ, ob1_s, b2_t, b2_f, z1, cI, List.set_cons_zero, List.set_cons_succ, List.length_cons, List.length_nil, Nat.reduceAdd, Nat.reduceLT, Nat.zero_lt_succ, Bool.false_and, Bool.and_false, Bool.true_and, Bool.and_true, Bool.false_eq_true, ck0, ck1, ck2, ck3, ck4, Option.toList_some, Option.toList_none, List.cons_append, List.nil_append, gf_hit, pf_hit, ai_hit, al_hit, ar_hit, ob_hit, if_true, if_false, reduceIte, reduceCtorEq]
    rw [if_pos h8, hg, nI_clamp (show n < 2 ^ 31 by omega), hd]
    have a1 := sg_age (sc := sc) (d := d) (k1 := nI kk) hI hn8 hkk hT q1.2 p2
    have l1 := pNum_le (t := aT A) (L := aL A) (q := en (aT A) (aL A) q) (a := 6) (m := 70) (df := 0) q1.2
    cases c1 : pNum (aT A) (aL A) 6 70 0 (en (aT A) (aL A) q) with
    | mk o1 r1 =>
      rw [c1] at a1 l1
      cases o1 with
      | none =>
        obtain ⟨h3, x1, ⟨T1, x2⟩, x3⟩ := a1
        exact RD.no x1 x2 (s02.trans x3)
      | some v1 =>
        obtain ⟨h3, ag, x1, x2, rfl, hag, x3⟩ := a1
        rw [x1]
        have a2 := sg_has (sc := sc) (d := d) (k1 := nI kk) hI hn8 hkk hag hT l1.2 x2
        have l2 := pHav_le (t := aT A) (L := aL A) (q := r1) l1.2
        dsimp only
        cases c2 : pHav (aT A) (aL A) r1 with
        | mk o2 r2 =>
          rw [c2] at a2 l2
          cases o2 with
          | none =>
            obtain ⟨h4, z1, ⟨T1, z2⟩, z3⟩ := a2
            exact RD.no z1 z2 ((s02.trans x3).trans z3)
          | some v2 =>
            obtain ⟨h4, z1, z2, z3⟩ := a2
            obtain ⟨sv, hsv, rfl⟩ := pHav_ok c2
            rw [z1]
            have a3 := sg_cou (sc := sc) (d := d) (k1 := nI kk) hI hn8 hkk hag hsv hT l2.2 z2
            dsimp only
            cases c3 : pNum (aT A) (aL A) 8 n (-1) r2 with
            | mk o3 r3 =>
              rw [c3] at a3
              cases o3 with
              | none =>
                obtain ⟨h5, w1, ⟨T1, w2⟩, w3⟩ := a3
                exact RD.no w1 w2 (((s02.trans x3).trans z3).trans w3)
              | some v3 =>
                obtain ⟨h5, w1, w2, w3⟩ := a3
                exact RD.yes w1 w2 (((s02.trans x3).trans z3).trans w3)
  · rw [if_neg h8]
    refine RD.no (h1 := h) ?_ p same.refl
    simp only [c_X8_readPerson, s_X8_readPerson_0, s_X8_readPerson_1, s_X8_readPerson_4, s_X8_readPerson_7, s_X8_readPerson_9, s_X8_readPerson_12, s_X8_readPerson_13, s_X8_readPerson_13_0, s_X8_readPerson_13_1, s_X8_readPerson_14, s_X8_readPerson_15, s_X8_readPerson_18, s_X8_readPerson_19, s_X8_readPerson_22, s_X8_readPerson_23, s_X8_readPerson_24, e0, y.t0, h8, List.getElem?_cons_zero, List.getElem?_cons_succ, ob1_s, b2_t, b2_f, z1, cI, List.set_cons_zero, List.set_cons_succ, List.length_cons, List.length_nil, Nat.reduceAdd, Nat.reduceLT, Nat.zero_lt_succ, Bool.false_and, Bool.and_false, Bool.true_and, Bool.and_true, Bool.false_eq_true, ck0, ck1, ck2, ck3, ck4, Option.toList_some, Option.toList_none, List.cons_append, List.nil_append, gf_hit, pf_hit, ai_hit, al_hit, ar_hit, ob_hit, if_true, if_false, reduceIte, reduceCtorEq]
theorem pc_item (p : PC h A q T) (hI : AI A) (hq : q ≤ aL A) : RD h A (call sc (d + 7) MX8_readItem [.ref 31] h) (pItm (aT A) (aL A) q T) := by
  have hk := pc_kindNamed (sc := sc) (d := d) p hI hq
  unfold pItm
  cases ck : kn (aT A) (aL A) q with
  | some k =>
    rw [ck] at hk
    have hk6 := (kn_lt ck).1
    have hk' : call sc (d + 6) MX8_kindNamed [.ref 31] h = some (some (.int (nI k)), h) := hk
    obtain ⟨h1, T1, e1, p1, f1, s1⟩ := pc_person (sc := sc) (d := d) p hI hq hk6
    refine ⟨h1, T1, ?_, p1, f1, s1⟩
    simp only [c_X8_readItem, s_X8_readItem_0, s_X8_readItem_1, s_X8_readItem_4, s_X8_readItem_5, s_X8_readItem_6, s_X8_readItem_9, s_X8_readItem_10, s_X8_readItem_11, s_X8_readItem_14, s_X8_readItem_14_0, s_X8_readItem_14_1, s_X8_readItem_15, s_X8_readItem_16, s_X8_readItem_18, s_X8_readItem_21, s_X8_readItem_24, s_X8_readItem_25, s_X8_readItem_28, s_X8_readItem_28_0, s_X8_readItem_28_1, s_X8_readItem_29, s_X8_readItem_30, s_X8_readItem_32, s_X8_readItem_35, s_X8_readItem_38, s_X8_readItem_39, s_X8_readItem_42, s_X8_readItem_42_0, s_X8_readItem_42_1, s_X8_readItem_43, s_X8_readItem_44, s_X8_readItem_44_0, s_X8_readItem_44_1, p.rc, hk', nn_nI (show k < 2 ^ 31 by omega), e1, b2_nar, List.getElem?_cons_zero, List.getElem?_cons_succ, ob1_s, b2_t, b2_f, z1, cI, List.set_cons_zero, List.set_cons_succ, List.length_cons, List.length_nil, Nat.reduceAdd, Nat.reduceLT, Nat.zero_lt_succ, Bool.false_and, Bool.and_false, Bool.true_and, Bool.and_true, Bool.false_eq_true, ck0, ck1, ck2, ck3, ck4, Option.toList_some, Option.toList_none, List.cons_append, List.nil_append, gf_hit, pf_hit, ai_hit, al_hit, ar_hit, ob_hit, if_true, if_false, reduceIte, reduceCtorEq]
  | none =>
    rw [ck] at hk
    have hk' : call sc (d + 6) MX8_kindNamed [.ref 31] h = some (some (.int (-1)), h) := hk
    have b9 : call sc (d + 6) MX8_isWord [.ref 31, .ref 1009] h = some (some (.int (b2 (isW (aT A) (aL A) 9 q))), h) := pc_isWord (sc := sc) (d := d + 1) p hI hq (w := 9) (by decide)
    have b10 : call sc (d + 6) MX8_isWord [.ref 31, .ref 1010] h = some (some (.int (b2 (isW (aT A) (aL A) 10 q))), h) := pc_isWord (sc := sc) (d := d + 1) p hI hq (w := 10) (by decide)
    dsimp only
    cases c9 : isW (aT A) (aL A) 9 q
    · rw [c9] at b9
      cases c10 : isW (aT A) (aL A) 10 q
      · rw [c10] at b10
        rw [if_neg (by decide), if_neg (by decide)]
        refine RD.no (h1 := h) ?_ p same.refl
        simp only [c_X8_readItem, s_X8_readItem_0, s_X8_readItem_1, s_X8_readItem_4, s_X8_readItem_5, s_X8_readItem_6, s_X8_readItem_9, s_X8_readItem_10, s_X8_readItem_11, s_X8_readItem_14, s_X8_readItem_14_0, s_X8_readItem_14_1, s_X8_readItem_15, s_X8_readItem_16, s_X8_readItem_18, s_X8_readItem_21, s_X8_readItem_24, s_X8_readItem_25, s_X8_readItem_28, s_X8_readItem_28_0, s_X8_readItem_28_1, s_X8_readItem_29, s_X8_readItem_30, s_X8_readItem_32, s_X8_readItem_35, s_X8_readItem_38, s_X8_readItem_39, s_X8_readItem_42, s_X8_readItem_42_0, s_X8_readItem_42_1, s_X8_readItem_43, s_X8_readItem_44, s_X8_readItem_44_0, s_X8_readItem_44_1, p.rc, hk', show (-1 : Int32) < 0 from by decide, b9, b10, List.getElem?_cons_zero, List.getElem?_cons_succ, ob1_s, b2_t, b2_f, z1, cI, List.set_cons_zero, List.set_cons_succ, List.length_cons, List.length_nil, Nat.reduceAdd, Nat.reduceLT, Nat.zero_lt_succ, Bool.false_and, Bool.and_false, Bool.true_and, Bool.and_true, Bool.false_eq_true, ck0, ck1, ck2, ck3, ck4, Option.toList_some, Option.toList_none, List.cons_append, List.nil_append, gf_hit, pf_hit, ai_hit, al_hit, ar_hit, ob_hit, if_true, if_false, reduceIte, reduceCtorEq]
      · rw [c10] at b10
        rw [if_neg (by decide), if_pos rfl]
        obtain ⟨h1, T1, e1, p1, f1, s1⟩ := pc_burned (sc := sc) (d := d + 3) p hI hq
        refine ⟨h1, T1, ?_, p1, f1, s1⟩
        simp only [c_X8_readItem, s_X8_readItem_0, s_X8_readItem_1, s_X8_readItem_4, s_X8_readItem_5, s_X8_readItem_6, s_X8_readItem_9, s_X8_readItem_10, s_X8_readItem_11, s_X8_readItem_14, s_X8_readItem_14_0, s_X8_readItem_14_1, s_X8_readItem_15, s_X8_readItem_16, s_X8_readItem_18, s_X8_readItem_21, s_X8_readItem_24, s_X8_readItem_25, s_X8_readItem_28, s_X8_readItem_28_0, s_X8_readItem_28_1, s_X8_readItem_29, s_X8_readItem_30, s_X8_readItem_32, s_X8_readItem_35, s_X8_readItem_38, s_X8_readItem_39, s_X8_readItem_42, s_X8_readItem_42_0, s_X8_readItem_42_1, s_X8_readItem_43, s_X8_readItem_44, s_X8_readItem_44_0, s_X8_readItem_44_1, p.rc, hk', show (-1 : Int32) < 0 from by decide, b9, b10, e1, b2_nar, List.getElem?_cons_zero, List.getElem?_cons_succ, ob1_s, b2_t, b2_f, z1, cI, List.set_cons_zero, List.set_cons_succ, List.length_cons, List.length_nil, Nat.reduceAdd, Nat.reduceLT, Nat.zero_lt_succ, Bool.false_and, Bool.and_false, Bool.true_and, Bool.and_true, Bool.false_eq_true, ck0, ck1, ck2, ck3, ck4, Option.toList_some, Option.toList_none, List.cons_append, List.nil_append, gf_hit, pf_hit, ai_hit, al_hit, ar_hit, ob_hit, if_true, if_false, reduceIte, reduceCtorEq]
    · rw [c9] at b9
      rw [if_pos rfl]
      obtain ⟨h1, T1, e1, p1, f1, s1⟩ := pc_worth (sc := sc) (d := d + 3) p hI hq
      refine ⟨h1, T1, ?_, p1, f1, s1⟩
      simp only [c_X8_readItem, s_X8_readItem_0, s_X8_readItem_1, s_X8_readItem_4, s_X8_readItem_5, s_X8_readItem_6, s_X8_readItem_9, s_X8_readItem_10, s_X8_readItem_11, s_X8_readItem_14, s_X8_readItem_14_0, s_X8_readItem_14_1, s_X8_readItem_15, s_X8_readItem_16, s_X8_readItem_18, s_X8_readItem_21, s_X8_readItem_24, s_X8_readItem_25, s_X8_readItem_28, s_X8_readItem_28_0, s_X8_readItem_28_1, s_X8_readItem_29, s_X8_readItem_30, s_X8_readItem_32, s_X8_readItem_35, s_X8_readItem_38, s_X8_readItem_39, s_X8_readItem_42, s_X8_readItem_42_0, s_X8_readItem_42_1, s_X8_readItem_43, s_X8_readItem_44, s_X8_readItem_44_0, s_X8_readItem_44_1, p.rc, hk', show (-1 : Int32) < 0 from by decide, b9, e1, b2_nar, List.getElem?_cons_zero, List.getElem?_cons_succ, ob1_s, b2_t, b2_f, z1, cI, List.set_cons_zero, List.set_cons_succ, List.length_cons, List.length_nil, Nat.reduceAdd, Nat.reduceLT, Nat.zero_lt_succ, Bool.false_and, Bool.and_false, Bool.true_and, Bool.and_true, Bool.false_eq_true, ck0, ck1, ck2, ck3, ck4, Option.toList_some, Option.toList_none, List.cons_append, List.nil_append, gf_hit, pf_hit, ai_hit, al_hit, ar_hit, ob_hit, if_true, if_false, reduceIte, reduceCtorEq]
theorem PC.cell (p : PC h A q T) : ∃ n, h.1 31 = some (.inr (8, [.ref 29, .ref 15, .int (nI (kd (aT A) (aL A) q)), .int (nI (sk (aT A) (aL A) q)), .int (nI (en (aT A) (aL A) q)), .int n])) := by
  obtain ⟨n, e, _⟩ := p.2.2.2
  exact ⟨n, e⟩
theorem lp_text (hI : AI A) (k : Nat) : ∀ (n q : Nat) (T : Fam) (h : mx_G), n + k = 121 → q ≤ aL A → PC h A q T → ∃ h1 T1, den sc (d + 8) MX8_readText 11 [some (.ref 31), some (.int (nI n))] [] h = some (some (.int (txL (aT A) (aL A) k n q T).1), h1) ∧ CA h1 A ∧ FA h1 15 T1 ∧ FI T1 ∧ (∀ G, (txL (aT A) (aL A) k n q T).2 = some G → T1 = G) ∧ same 42 54 h h1 := by
  induction k with
  | zero =>
    intro n q T h hn hq p
    obtain rfl : n = 121 := by omega
    obtain ⟨n0, e0⟩ := p.cell
    rw [txL_0]
    refine ⟨h, T, ?_, p.1, p.2.1, p.2.2.1, (by intro G w; cases w), same.refl⟩
    rw [s_X8_readText_11]
    simp only [s_X8_readText_12, s_X8_readText_14, s_X8_readText_17, s_X8_readText_18, s_X8_readText_21, s_X8_readText_24, s_X8_readText_25, s_X8_readText_26, s_X8_readText_29, s_X8_readText_30, s_X8_readText_31, s_X8_readText_32, s_X8_readText_35, s_X8_readText_38, s_X8_readText_39, s_X8_readText_40, s_X8_readText_41, s_X8_readText_44, s_X8_readText_45, s_X8_readText_48, s_X8_readText_49, s_X8_readText_50, s_X8_readText_53, s_X8_readText_54, s_X8_readText_55, s_X8_readText_56, s_X8_readText_59, s_X8_readText_62, s_X8_readText_65, s_X8_readText_66, s_X8_readText_67, s_X8_readText_70, s_X8_readText_71, show (120 : Int32) < nI 121 from by decide, e0, List.getElem?_cons_zero, List.getElem?_cons_succ, ob1_s, b2_t, b2_f, z1, cI, List.set_cons_zero, List.set_cons_succ, List.length_cons, List.length_nil, Nat.reduceAdd, Nat.reduceLT, Nat.zero_lt_succ, Bool.false_and, Bool.and_false, Bool.true_and, Bool.and_true, Bool.false_eq_true, ck0, ck1, ck2, ck3, ck4, Option.toList_some, Option.toList_none, List.cons_append, List.nil_append, gf_hit, pf_hit, ai_hit, al_hit, ar_hit, ob_hit, if_true, if_false, reduceIte, reduceCtorEq]
  | succ k ih =>
    intro n q T h hn hq p
    have hgt : ¬ (120 : Int32) < nI n := nI_nlt (a := 120) (b := n) (by omega) (by decide)
    obtain ⟨h1, T1, e1, p1, f1, s1⟩ := pc_item (sc := sc) (d := d) p hI hq
    have l1 := pItm_le (t := aT A) (L := aL A) (q := q) (F := T) hq
    rw [txL_s]
    cases c1 : pItm (aT A) (aL A) q T with
    | mk o r =>
      rw [c1] at e1 p1 f1 l1
      obtain ⟨n1, g1⟩ := p1.cell
      cases o with
      | none =>
        have e1' : call sc (d + 7) MX8_readItem [.ref 31] h = some (some (.int 0), h1) := e1
        refine ⟨h1, T1, ?_, p1.1, p1.2.1, p1.2.2.1, (by intro G w; cases w), s1⟩
        rw [s_X8_readText_11]
        simp only [s_X8_readText_12, s_X8_readText_14, s_X8_readText_17, s_X8_readText_18, s_X8_readText_21, s_X8_readText_24, s_X8_readText_25, s_X8_readText_26, s_X8_readText_29, s_X8_readText_30, s_X8_readText_31, s_X8_readText_32, s_X8_readText_35, s_X8_readText_38, s_X8_readText_39, s_X8_readText_40, s_X8_readText_41, s_X8_readText_44, s_X8_readText_45, s_X8_readText_48, s_X8_readText_49, s_X8_readText_50, s_X8_readText_53, s_X8_readText_54, s_X8_readText_55, s_X8_readText_56, s_X8_readText_59, s_X8_readText_62, s_X8_readText_65, s_X8_readText_66, s_X8_readText_67, s_X8_readText_70, s_X8_readText_71, hgt, p.rc, e1', g1, List.getElem?_cons_zero, List.getElem?_cons_succ, ob1_s, b2_t, b2_f, z1, cI, List.set_cons_zero, List.set_cons_succ, List.length_cons, List.length_nil, Nat.reduceAdd, Nat.reduceLT, Nat.zero_lt_succ, Bool.false_and, Bool.and_false, Bool.true_and, Bool.and_true, Bool.false_eq_true, ck0, ck1, ck2, ck3, ck4, Option.toList_some, Option.toList_none, List.cons_append, List.nil_append, gf_hit, pf_hit, ai_hit, al_hit, ar_hit, ob_hit, if_true, if_false, reduceIte, reduceCtorEq]
      | some G =>
        have e1' : call sc (d + 7) MX8_readItem [.ref 31] h = some (some (.int 1), h1) := e1
        obtain rfl := f1 G rfl
        dsimp only
        by_cases k0 : kd (aT A) (aL A) r = 0
        · have k0' : nI (kd (aT A) (aL A) r) = 0 := by rw [k0]; rfl
          rw [if_pos k0]
          refine ⟨h1, T1, ?_, p1.1, p1.2.1, p1.2.2.1, fun G w => Option.some.inj w, s1⟩
          rw [s_X8_readText_11]
          simp only [s_X8_readText_12, s_X8_readText_14, s_X8_readText_17, s_X8_readText_18, s_X8_readText_21, s_X8_readText_24, s_X8_readText_25, s_X8_readText_26, s_X8_readText_29, s_X8_readText_30, s_X8_readText_31, s_X8_readText_32, s_X8_readText_35, s_X8_readText_38, s_X8_readText_39, s_X8_readText_40, s_X8_readText_41, s_X8_readText_44, s_X8_readText_45, s_X8_readText_48, s_X8_readText_49, s_X8_readText_50, s_X8_readText_53, s_X8_readText_54, s_X8_readText_55, s_X8_readText_56, s_X8_readText_59, s_X8_readText_62, s_X8_readText_65, s_X8_readText_66, s_X8_readText_67, s_X8_readText_70, s_X8_readText_71, hgt, p.rc, e1', g1, k0', List.getElem?_cons_zero, List.getElem?_cons_succ, ob1_s, b2_t, b2_f, z1, cI, List.set_cons_zero, List.set_cons_succ, List.length_cons, List.length_nil, Nat.reduceAdd, Nat.reduceLT, Nat.zero_lt_succ, Bool.false_and, Bool.and_false, Bool.true_and, Bool.and_true, Bool.false_eq_true, ck0, ck1, ck2, ck3, ck4, Option.toList_some, Option.toList_none, List.cons_append, List.nil_append, gf_hit, pf_hit, ai_hit, al_hit, ar_hit, ob_hit, if_true, if_false, reduceIte, reduceCtorEq]
        · have k0' : ¬ nI (kd (aT A) (aL A) r) = 0 := fun w => k0 ((kdI (m := 0) (by omega)).mp w)
          rw [if_neg k0]
          by_cases k3 : kd (aT A) (aL A) r = 3
          · have k3' : nI (kd (aT A) (aL A) r) = 3 := by rw [k3]; rfl
            rw [if_pos k3]
            obtain ⟨h2, e2, p2, s2⟩ := pc_next (sc := sc) (d := d + 5) p1 hI l1.2
            obtain ⟨h3, T3, e3, x3, y3, z3, f3, s3⟩ := ih (n + 1) _ _ h2 (by omega) (en_q l1.2).2 p2
            refine ⟨h3, T3, ?_, x3, y3, z3, f3, s1.trans (s2.trans s3)⟩
            rw [← e3, s_X8_readText_11]
            simp only [s_X8_readText_12, s_X8_readText_14, s_X8_readText_17, s_X8_readText_18, s_X8_readText_21, s_X8_readText_24, s_X8_readText_25, s_X8_readText_26, s_X8_readText_29, s_X8_readText_30, s_X8_readText_31, s_X8_readText_32, s_X8_readText_35, s_X8_readText_38, s_X8_readText_39, s_X8_readText_40, s_X8_readText_41, s_X8_readText_44, s_X8_readText_45, s_X8_readText_48, s_X8_readText_49, s_X8_readText_50, s_X8_readText_53, s_X8_readText_54, s_X8_readText_55, s_X8_readText_56, s_X8_readText_59, s_X8_readText_62, s_X8_readText_65, s_X8_readText_66, s_X8_readText_67, s_X8_readText_70, s_X8_readText_71, hgt, p.rc, e1', g1, k3', ne30, p1.rc, e2, nI_1, List.getElem?_cons_zero, List.getElem?_cons_succ, ob1_s, b2_t, b2_f, z1, cI, List.set_cons_zero, List.set_cons_succ, List.length_cons, List.length_nil, Nat.reduceAdd, Nat.reduceLT, Nat.zero_lt_succ, Bool.false_and, Bool.and_false, Bool.true_and, Bool.and_true, Bool.false_eq_true, ck0, ck1, ck2, ck3, ck4, Option.toList_some, Option.toList_none, List.cons_append, List.nil_append, gf_hit, pf_hit, ai_hit, al_hit, ar_hit, ob_hit, if_true, if_false, reduceIte, reduceCtorEq]
          · have k3' : ¬ nI (kd (aT A) (aL A) r) = 3 := fun w => k3 ((kdI (m := 3) (by omega)).mp w)
            rw [if_neg k3]
            refine ⟨h1, T1, ?_, p1.1, p1.2.1, p1.2.2.1, (by intro G w; cases w), s1⟩
            rw [s_X8_readText_11]
            simp only [s_X8_readText_12, s_X8_readText_14, s_X8_readText_17, s_X8_readText_18, s_X8_readText_21, s_X8_readText_24, s_X8_readText_25, s_X8_readText_26, s_X8_readText_29, s_X8_readText_30, s_X8_readText_31, s_X8_readText_32, s_X8_readText_35, s_X8_readText_38, s_X8_readText_39, s_X8_readText_40, s_X8_readText_41, s_X8_readText_44, s_X8_readText_45, s_X8_readText_48, s_X8_readText_49, s_X8_readText_50, s_X8_readText_53, s_X8_readText_54, s_X8_readText_55, s_X8_readText_56, s_X8_readText_59, s_X8_readText_62, s_X8_readText_65, s_X8_readText_66, s_X8_readText_67, s_X8_readText_70, s_X8_readText_71, hgt, p.rc, e1', g1, k0', k3', List.getElem?_cons_zero, List.getElem?_cons_succ, ob1_s, b2_t, b2_f, z1, cI, List.set_cons_zero, List.set_cons_succ, List.length_cons, List.length_nil, Nat.reduceAdd, Nat.reduceLT, Nat.zero_lt_succ, Bool.false_and, Bool.and_false, Bool.true_and, Bool.and_true, Bool.false_eq_true, ck0, ck1, ck2, ck3, ck4, Option.toList_some, Option.toList_none, List.cons_append, List.nil_append, gf_hit, pf_hit, ai_hit, al_hit, ar_hit, ob_hit, if_true, if_false, reduceIte, reduceCtorEq]
theorem neg_s : ∀ s, s < 121 → -1 - nI s < 0 := by decide +kernel
theorem txL_sign {t : Nat → Int32} {L : Nat} (hL : L ≤ 120) (k : Nat) : ∀ (n q : Nat) (T : Fam), n + k ≤ 121 → q ≤ L → ((txL t L k n q T).2 = none → (txL t L k n q T).1 < 0) ∧ (∀ G, (txL t L k n q T).2 = some G → ¬ (txL t L k n q T).1 < 0) := by
  induction k with
  | zero =>
    intro n q T hn hq
    have hs := sk_le (t := t) hq
    rw [txL_0]
    exact ⟨fun _ => neg_s _ (by omega), (by intro G w; cases w)⟩
  | succ k ih =>
    intro n q T hn hq
    have l1 := pItm_le (t := t) (L := L) (q := q) (F := T) hq
    rw [txL_s]
    cases c1 : pItm t L q T with
    | mk o r =>
      rw [c1] at l1
      have hs := sk_le (t := t) l1.2
      cases o with
      | none => exact ⟨fun _ => neg_s _ (by dsimp only at hs; omega), (by intro G w; cases w)⟩
      | some G =>
        dsimp only
        split
        · exact ⟨(by intro w; cases w), fun _ _ => nn_nI (by omega)⟩
        · split
          · exact ih (n + 1) _ _ (by omega) (en_q l1.2).2
          · exact ⟨fun _ => neg_s _ (by dsimp only at hs; omega), (by intro G w; cases w)⟩
theorem cm_family (x : CA h A) (hI : AI A) : XC h (call sc 10 MX10_family [.ref 0] h) (.int (o_family A).1) (o_family A).2 := by
  have hL := hI.2.2.1
  have x1 := x.t hI.1
  have y1 : FA (putF h 15 (aF A)) 15 (aF A) := FA.of
  obtain ⟨a, b, c, e, g1⟩ := x1.2.2.2.2.2.2.2.1
  have ht := x.try (sc := sc) (d := 9) hI.1
  have s1 : same 42 54 h (putF h 15 (aF A)) := same.put (by omega)
  have c0 := x.tc0 (G := aF A)
  generalize putF h 15 (aF A) = h1 at *
  have nx := sp_next (sc := sc) (d := 6) (a := a) (b := b) (n := e) x1.th hL (q := 0) (by omega)
  rw [nI_0] at nx
  have p2 : PC (mx_up h1 31 (.inr (8, [.ref 29, .ref 15, .int (nI (kd (aT A) (aL A) 0)), .int (nI (sk (aT A) (aL A) 0)), .int (nI (en (aT A) (aL A) 0)), .int (if kd (aT A) (aL A) 0 = 2 then nI (nm (aT A) (aL A) 0) else e)]))) A 0 (aF A) := ⟨x1.rd, y1.tr (same.up (a := 0) (b := 31) (by omega)) (by omega) (by omega), hI.1, _, up_at, fun hk => if_pos hk⟩
  obtain ⟨h3, T3, e3, x3, y3, z3, f3, s3⟩ := lp_text (sc := sc) (d := 1) hI 120 1 0 (aF A) _ (by omega) (by omega) p2
  have hrt : call sc 9 MX8_readText [.ref 31] h1 = some (some (.int (txL (aT A) (aL A) 120 1 0 (aF A)).1), h3) := by
    rw [← e3]
    simp only [c_X8_readText, s_X8_readText_0, s_X8_readText_1, s_X8_readText_2, s_X8_readText_5, s_X8_readText_6, s_X8_readText_9, s_X8_readText_10, g1, rcu, nx, List.getElem?_cons_zero, List.getElem?_cons_succ, ob1_s, b2_t, b2_f, z1, cI, List.set_cons_zero, List.set_cons_succ, List.length_cons, List.length_nil, Nat.reduceAdd, Nat.reduceLT, Nat.zero_lt_succ, Bool.false_and, Bool.and_false, Bool.true_and, Bool.and_true, Bool.false_eq_true, ck0, ck1, ck2, ck3, ck4, Option.toList_some, Option.toList_none, List.cons_append, List.nil_append, gf_hit, pf_hit, ai_hit, al_hit, ar_hit, ob_hit, if_true, if_false, reduceIte, reduceCtorEq]
    rfl
  have s13 : same 42 54 h h3 := s1.trans ((same.up (by omega)).trans s3)
  obtain ⟨g2, g3⟩ := txL_sign (t := aT A) hL 120 1 0 (aF A) (by omega) (by omega)
  unfold o_family
  cases ct : txL (aT A) (aL A) 120 1 0 (aF A) with
  | mk v o =>
    rw [ct] at hrt f3 g2 g3
    cases o with
    | none =>
      have hv : v < 0 := g2 rfl
      simp only [c_X10_family, s_X10_family_0, s_X10_family_1, s_X10_family_4, s_X10_family_5, s_X10_family_8, s_X10_family_11, s_X10_family_12, s_X10_family_15, s_X10_family_18, s_X10_family_19, s_X10_family_20, s_X10_family_23, s_X10_family_24, s_X10_family_27, s_X10_family_28, s_X10_family_31, s_X10_family_34, s_X10_family_35, s_X10_family_38, s_X10_family_39, s_X10_family_42, s_X10_family_43, x.c0, x.r15, ht, c0, rc_hit g1, hrt, hv, x3.c0, x3.c29, List.getElem?_cons_zero, List.getElem?_cons_succ, ob1_s, b2_t, b2_f, z1, cI, List.set_cons_zero, List.set_cons_succ, List.length_cons, List.length_nil, Nat.reduceAdd, Nat.reduceLT, Nat.zero_lt_succ, Bool.false_and, Bool.and_false, Bool.true_and, Bool.and_true, Bool.false_eq_true, ck0, ck1, ck2, ck3, ck4, Option.toList_some, Option.toList_none, List.cons_append, List.nil_append, gf_hit, pf_hit, ai_hit, al_hit, ar_hit, ob_hit, if_true, if_false, reduceIte, reduceCtorEq]
      exact ⟨_, rfl, x3.tl (l := 0), s13.trans (same.up (by omega))⟩
    | some G =>
      have hv : ¬ v < 0 := g3 G rfl
      obtain rfl := f3 G rfl
      have hb := fa_becomes (sc := sc) (d := 9) y3 x3.fam (by omega) z3 hI.1
      have x4 : CA (putF h3 8 T3) (sF A T3) := x3.f
      simp only [c_X10_family, s_X10_family_0, s_X10_family_1, s_X10_family_4, s_X10_family_5, s_X10_family_8, s_X10_family_11, s_X10_family_12, s_X10_family_15, s_X10_family_18, s_X10_family_19, s_X10_family_20, s_X10_family_23, s_X10_family_24, s_X10_family_27, s_X10_family_28, s_X10_family_31, s_X10_family_34, s_X10_family_35, s_X10_family_38, s_X10_family_39, s_X10_family_42, s_X10_family_43, x.c0, x.r15, ht, c0, rc_hit g1, hrt, hv, x3.c0, x3.fam.rc, hb, x4.c0, x4.c29, List.getElem?_cons_zero, List.getElem?_cons_succ, ob1_s, b2_t, b2_f, z1, cI, List.set_cons_zero, List.set_cons_succ, List.length_cons, List.length_nil, Nat.reduceAdd, Nat.reduceLT, Nat.zero_lt_succ, Bool.false_and, Bool.and_false, Bool.true_and, Bool.and_true, Bool.false_eq_true, ck0, ck1, ck2, ck3, ck4, Option.toList_some, Option.toList_none, List.cons_append, List.nil_append, gf_hit, pf_hit, ai_hit, al_hit, ar_hit, ob_hit, if_true, if_false, reduceIte, reduceCtorEq]
      exact ⟨_, rfl, x4.tl (l := 0), s13.trans ((same.put (by omega)).trans (same.up (by omega)))⟩
end
