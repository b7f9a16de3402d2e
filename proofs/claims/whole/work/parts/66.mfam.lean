/-! FAMILY: the model -/
section
variable {sc : mx_X} {d : Nat} {h : mx_G} {A : AS} {q : Nat} {g : Bool} {G : Fam}
theorem pm_kind (p : PM h A q g) : call sc (d + 1) MX11_kindHere [.ref 42] h = some (some (.int (knI (kn (aT A) (aL A) q))), h) := by
  have b0 := pm_isWord (sc := sc) (d := d) p (w := 0) (by decide) wc0
  have b1 := pm_isWord (sc := sc) (d := d) p (w := 1) (by decide) wc1
  have b2' := pm_isWord (sc := sc) (d := d) p (w := 2) (by decide) wc2
  have b3 := pm_isWord (sc := sc) (d := d) p (w := 3) (by decide) wc3
  have b4 := pm_isWord (sc := sc) (d := d) p (w := 4) (by decide) wc4
  have b5 := pm_isWord (sc := sc) (d := d) p (w := 5) (by decide) wc5
  unfold kn
  cases c0 : isW (aT A) (aL A) 0 q
  · cases c1 : isW (aT A) (aL A) 1 q
    · cases c2 : isW (aT A) (aL A) 2 q
      · cases c3 : isW (aT A) (aL A) 3 q
        · cases c4 : isW (aT A) (aL A) 4 q
          · cases c5 : isW (aT A) (aL A) 5 q
            · simp only [c_X11_kindHere, s_X11_kindHere_0, s_X11_kindHere_1, s_X11_kindHere_4, s_X11_kindHere_7, s_X11_kindHere_10, s_X11_kindHere_11, s_X11_kindHere_14, s_X11_kindHere_15, s_X11_kindHere_18, s_X11_kindHere_21, s_X11_kindHere_24, s_X11_kindHere_25, s_X11_kindHere_28, s_X11_kindHere_29, s_X11_kindHere_32, s_X11_kindHere_35, s_X11_kindHere_38, s_X11_kindHere_39, s_X11_kindHere_42, s_X11_kindHere_43, s_X11_kindHere_46, s_X11_kindHere_49, s_X11_kindHere_52, s_X11_kindHere_53, s_X11_kindHere_56, s_X11_kindHere_57, s_X11_kindHere_60, s_X11_kindHere_63, s_X11_kindHere_66, s_X11_kindHere_67, s_X11_kindHere_70, s_X11_kindHere_71, s_X11_kindHere_74, s_X11_kindHere_77, s_X11_kindHere_80, s_X11_kindHere_81, s_X11_kindHere_84, s_X11_kindHere_85, p.rc, b0, b1, b2', b3, b4, b5, c0, c1, c2, c3, c4, c5, knI, List.getElem?_cons_zero, List.getElem?_cons_succ, ob1_s, b2_t, b2_f, z1, cI, List.set_cons_zero, List.set_cons_succ, List.length_cons, List.length_nil, Nat.reduceAdd, Nat.reduceLT, Nat.zero_lt_succ, Bool.false_and, Bool.and_false, Bool.true_and, Bool.and_true, Bool.false_eq_true, ck0, ck1, ck2, ck3, ck4, Option.toList_some, Option.toList_none, List.cons_append, List.nil_append, gf_hit, pf_hit, ai_hit, al_hit, ar_hit, ob_hit, if_true, if_false, reduceIte, reduceCtorEq]
            · simp only [c_X11_kindHere, s_X11_kindHere_0, s_X11_kindHere_1, s_X11_kindHere_4, s_X11_kindHere_7, s_X11_kindHere_10, s_X11_kindHere_11, s_X11_kindHere_14, s_X11_kindHere_15, s_X11_kindHere_18, s_X11_kindHere_21, s_X11_kindHere_24, s_X11_kindHere_25, s_X11_kindHere_28, s_X11_kindHere_29, s_X11_kindHere_32, s_X11_kindHere_35, s_X11_kindHere_38, s_X11_kindHere_39, s_X11_kindHere_42, s_X11_kindHere_43, s_X11_kindHere_46, s_X11_kindHere_49, s_X11_kindHere_52, s_X11_kindHere_53, s_X11_kindHere_56, s_X11_kindHere_57, s_X11_kindHere_60, s_X11_kindHere_63, s_X11_kindHere_66, s_X11_kindHere_67, s_X11_kindHere_70, s_X11_kindHere_71, s_X11_kindHere_74, s_X11_kindHere_77, s_X11_kindHere_80, s_X11_kindHere_81, s_X11_kindHere_84, s_X11_kindHere_85, p.rc, b0, b1, b2', b3, b4, b5, c0, c1, c2, c3, c4, c5, knI, List.getElem?_cons_zero, List.getElem?_cons_succ, ob1_s, b2_t, b2_f, z1, cI, List.set_cons_zero, List.set_cons_succ, List.length_cons, List.length_nil, Nat.reduceAdd, Nat.reduceLT, Nat.zero_lt_succ, Bool.false_and, Bool.and_false, Bool.true_and, Bool.and_true, Bool.false_eq_true, ck0, ck1, ck2, ck3, ck4, Option.toList_some, Option.toList_none, List.cons_append, List.nil_append, gf_hit, pf_hit, ai_hit, al_hit, ar_hit, ob_hit, if_true, if_false, reduceIte, reduceCtorEq]
              rfl
          · simp only [c_X11_kindHere, s_X11_kindHere_0, s_X11_kindHere_1, s_X11_kindHere_4, s_X11_kindHere_7, s_X11_kindHere_10, s_X11_kindHere_11, s_X11_kindHere_14, s_X11_kindHere_15, s_X11_kindHere_18, s_X11_kindHere_21, s_X11_kindHere_24, s_X11_kindHere_25, s_X11_kindHere_28, s_X11_kindHere_29, s_X11_kindHere_32, s_X11_kindHere_35, s_X11_kindHere_38, s_X11_kindHere_39, s_X11_kindHere_42, s_X11_kindHere_43, s_X11_kindHere_46, s_X11_kindHere_49, s_X11_kindHere_52, s_X11_kindHere_53, s_X11_kindHere_56, s_X11_kindHere_57, s_X11_kindHere_60, s_X11_kindHere_63, s_X11_kindHere_66, s_X11_kindHere_67, s_X11_kindHere_70, s_X11_kindHere_71, s_X11_kindHere_74, s_X11_kindHere_77, s_X11_kindHere_80, s_X11_kindHere_81, s_X11_kindHere_84, s_X11_kindHere_85, p.rc, b0, b1, b2', b3, b4, c0, c1, c2, c3, c4, knI, List.getElem?_cons_zero, List.getElem?_cons_succ, ob1_s, b2_t, b2_f, z1, cI, List.set_cons_zero, List.set_cons_succ, List.length_cons, List.length_nil, Nat.reduceAdd, Nat.reduceLT, Nat.zero_lt_succ, Bool.false_and, Bool.and_false, Bool.true_and, Bool.and_true, Bool.false_eq_true, ck0, ck1, ck2, ck3, ck4, Option.toList_some, Option.toList_none, List.cons_append, List.nil_append, gf_hit, pf_hit, ai_hit, al_hit, ar_hit, ob_hit, if_true, if_false, reduceIte, reduceCtorEq]
            rfl
        · simp only [c_X11_kindHere, s_X11_kindHere_0, s_X11_kindHere_1, s_X11_kindHere_4, s_X11_kindHere_7, s_X11_kindHere_10, s_X11_kindHere_11, s_X11_kindHere_14, s_X11_kindHere_15, s_X11_kindHere_18, s_X11_kindHere_21, s_X11_kindHere_24, s_X11_kindHere_25, s_X11_kindHere_28, s_X11_kindHere_29, s_X11_kindHere_32, s_X11_kindHere_35, s_X11_kindHere_38, s_X11_kindHere_39, s_X11_kindHere_42, s_X11_kindHere_43, s_X11_kindHere_46, s_X11_kindHere_49, s_X11_kindHere_52, s_X11_kindHere_53, s_X11_kindHere_56, s_X11_kindHere_57, s_X11_kindHere_60, s_X11_kindHere_63, s_X11_kindHere_66, s_X11_kindHere_67, s_X11_kindHere_70, s_X11_kindHere_71, s_X11_kindHere_74, s_X11_kindHere_77, s_X11_kindHere_80, s_X11_kindHere_81, s_X11_kindHere_84, s_X11_kindHere_85, p.rc, b0, b1, b2', b3, c0, c1, c2, c3, knI, List.getElem?_cons_zero, List.getElem?_cons_succ, ob1_s, b2_t, b2_f, z1, cI, List.set_cons_zero, List.set_cons_succ, List.length_cons, List.length_nil, Nat.reduceAdd, Nat.reduceLT, Nat.zero_lt_succ, Bool.false_and, Bool.and_false, Bool.true_and, Bool.and_true, Bool.false_eq_true, ck0, ck1, ck2, ck3, ck4, Option.toList_some, Option.toList_none, List.cons_append, List.nil_append, gf_hit, pf_hit, ai_hit, al_hit, ar_hit, ob_hit, if_true, if_false, reduceIte, reduceCtorEq]
          rfl
      · simp only [c_X11_kindHere, s_X11_kindHere_0, s_X11_kindHere_1, s_X11_kindHere_4, s_X11_kindHere_7, s_X11_kindHere_10, s_X11_kindHere_11, s_X11_kindHere_14, s_X11_kindHere_15, s_X11_kindHere_18, s_X11_kindHere_21, s_X11_kindHere_24, s_X11_kindHere_25, s_X11_kindHere_28, s_X11_kindHere_29, s_X11_kindHere_32, s_X11_kindHere_35, s_X11_kindHere_38, s_X11_kindHere_39, s_X11_kindHere_42, s_X11_kindHere_43, s_X11_kindHere_46, s_X11_kindHere_49, s_X11_kindHere_52, s_X11_kindHere_53, s_X11_kindHere_56, s_X11_kindHere_57, s_X11_kindHere_60, s_X11_kindHere_63, s_X11_kindHere_66, s_X11_kindHere_67, s_X11_kindHere_70, s_X11_kindHere_71, s_X11_kindHere_74, s_X11_kindHere_77, s_X11_kindHere_80, s_X11_kindHere_81, s_X11_kindHere_84, s_X11_kindHere_85, p.rc, b0, b1, b2', c0, c1, c2, knI, List.getElem?_cons_zero, List.getElem?_cons_succ, ob1_s, b2_t, b2_f, z1, cI, List.set_cons_zero, List.set_cons_succ, List.length_cons, List.length_nil, Nat.reduceAdd, Nat.reduceLT, Nat.zero_lt_succ, Bool.false_and, Bool.and_false, Bool.true_and, Bool.and_true, Bool.false_eq_true, ck0, ck1, ck2, ck3, ck4, Option.toList_some, Option.toList_none, List.cons_append, List.nil_append, gf_hit, pf_hit, ai_hit, al_hit, ar_hit, ob_hit, if_true, if_false, reduceIte, reduceCtorEq]
        rfl
    · simp only [c_X11_kindHere, s_X11_kindHere_0, s_X11_kindHere_1, s_X11_kindHere_4, s_X11_kindHere_7, s_X11_kindHere_10, s_X11_kindHere_11, s_X11_kindHere_14, s_X11_kindHere_15, s_X11_kindHere_18, s_X11_kindHere_21, s_X11_kindHere_24, s_X11_kindHere_25, s_X11_kindHere_28, s_X11_kindHere_29, s_X11_kindHere_32, s_X11_kindHere_35, s_X11_kindHere_38, s_X11_kindHere_39, s_X11_kindHere_42, s_X11_kindHere_43, s_X11_kindHere_46, s_X11_kindHere_49, s_X11_kindHere_52, s_X11_kindHere_53, s_X11_kindHere_56, s_X11_kindHere_57, s_X11_kindHere_60, s_X11_kindHere_63, s_X11_kindHere_66, s_X11_kindHere_67, s_X11_kindHere_70, s_X11_kindHere_71, s_X11_kindHere_74, s_X11_kindHere_77, s_X11_kindHere_80, s_X11_kindHere_81, s_X11_kindHere_84, s_X11_kindHere_85, p.rc, b0, b1, c0, c1, knI, List.getElem?_cons_zero, List.getElem?_cons_succ, ob1_s, b2_t, b2_f, z1, cI, List.set_cons_zero, List.set_cons_succ, List.length_cons, List.length_nil, Nat.reduceAdd, Nat.reduceLT, Nat.zero_lt_succ, Bool.false_and, Bool.and_false, Bool.true_and, Bool.and_true, Bool.false_eq_true, ck0, ck1, ck2, ck3, ck4, Option.toList_some, Option.toList_none, List.cons_append, List.nil_append, gf_hit, pf_hit, ai_hit, al_hit, ar_hit, ob_hit, if_true, if_false, reduceIte, reduceCtorEq]
      rfl
  · simp only [c_X11_kindHere, s_X11_kindHere_0, s_X11_kindHere_1, s_X11_kindHere_4, s_X11_kindHere_7, s_X11_kindHere_10, s_X11_kindHere_11, s_X11_kindHere_14, s_X11_kindHere_15, s_X11_kindHere_18, s_X11_kindHere_21, s_X11_kindHere_24, s_X11_kindHere_25, s_X11_kindHere_28, s_X11_kindHere_29, s_X11_kindHere_32, s_X11_kindHere_35, s_X11_kindHere_38, s_X11_kindHere_39, s_X11_kindHere_42, s_X11_kindHere_43, s_X11_kindHere_46, s_X11_kindHere_49, s_X11_kindHere_52, s_X11_kindHere_53, s_X11_kindHere_56, s_X11_kindHere_57, s_X11_kindHere_60, s_X11_kindHere_63, s_X11_kindHere_66, s_X11_kindHere_67, s_X11_kindHere_70, s_X11_kindHere_71, s_X11_kindHere_74, s_X11_kindHere_77, s_X11_kindHere_80, s_X11_kindHere_81, s_X11_kindHere_84, s_X11_kindHere_85, p.rc, b0, c0, knI, List.getElem?_cons_zero, List.getElem?_cons_succ, ob1_s, b2_t, b2_f, z1, cI, List.set_cons_zero, List.set_cons_succ, List.length_cons, List.length_nil, Nat.reduceAdd, Nat.reduceLT, Nat.zero_lt_succ, Bool.false_and, Bool.and_false, Bool.true_and, Bool.and_true, Bool.false_eq_true, ck0, ck1, ck2, ck3, ck4, Option.toList_some, Option.toList_none, List.cons_append, List.nil_append, gf_hit, pf_hit, ai_hit, al_hit, ar_hit, ob_hit, if_true, if_false, reduceIte, reduceCtorEq]
    rfl
theorem pm_adv1 {so be va : Int32} {wd : Int64} (x : MA h A) (hI : AI A) (hq : q ≤ aL A) (e : h.1 42 = some (.inr (11, [.ref 43, .ref 44, .ref 45, .ref 46, .ref 47, .int (nI (aL A)), .int (so), .int (be), .int (nI q), .long (wd), .int (va), .int (1), .ref 48, .ref 49, .ref 50, .ref 51, .ref 52, .ref 53, .int (b2 (aB A))]))) : ∃ h1, call sc (d + 2) MX11_advance [.ref 42] h = some (none, h1) ∧ PM h1 A q true ∧ KP h h1 := ⟨_, pm_adv x hI hq e, ⟨x.own, up_at⟩, KP.own⟩
theorem pm_one (p : PM h A q true) (hI : AI A) (hq : q ≤ aL A) {kk : Nat} (hkk : kk < 6) : ∃ h1, call sc (d + 5) MX11_wantOne [.ref 42, .int (nI kk)] h = some (none, h1) ∧ KP h h1 ∧ (match pPer (aT A) (aL A) (nI kk) q (aF A) with
    | (none, r) => PM h1 A r false
    | (some G, r) => PM h1 (sF A G) r true) := by
  have p2 := p.2
  rw [b2_t] at p2
  obtain ⟨n, hn, hg⟩ := hI.1.n
  unfold pPer
  by_cases h8 : gn (aF A) < 8
  · have hn8 : n < 8 := by rw [hg] at h8; exact (nI_ltI (by omega) (show 8 < 2 ^ 31 by decide)).mp h8
    have h8' : ¬ 8 ≤ gn (aF A) := Int32.not_le.mpr h8
    have q1 := en_q (t := aT A) hq
    obtain ⟨h1, e1, p1, s1⟩ := pm_advance (sc := sc) (d := d + 2) p hI hq
    obtain ⟨h2, v2, e2, s2, f2⟩ := pm_mayWant (sc := sc) (d := d) p1 hI q1.2 (w := 6) (m := 70) (by decide) (by decide) wc6 (df := 0)
    rw [show (nI 70 : Int32) = 70 from rfl] at e2
    have l1 := pNum_le (t := aT A) (L := aL A) (q := en (aT A) (aL A) q) (a := 6) (m := 70) (df := 0) q1.2
    have hself := up_self p2
    rw [if_pos h8, hg, nI_clamp (show n < 2 ^ 31 by omega)]
    cases c1 : pNum (aT A) (aL A) 6 70 0 (en (aT A) (aL A) q) with
    | mk o1 r1 =>
      rw [c1] at f2 l1
      cases o1 with
      | none =>
        have f2' : PM h2 A r1 false := f2
        have z2 := f2'.2
        rw [b2_f] at z2
        refine ⟨h2, ?_, s1.trans s2, f2'⟩
        simp only [c_X11_wantOne, s_X11_wantOne_0, s_X11_wantOne_1, s_X11_wantOne_2, s_X11_wantOne_5, s_X11_wantOne_6, s_X11_wantOne_7, s_X11_wantOne_9, s_X11_wantOne_12, s_X11_wantOne_13, s_X11_wantOne_16, s_X11_wantOne_17, s_X11_wantOne_17', s_X11_wantOne_20, s_X11_wantOne_21, s_X11_wantOne_24, s_X11_wantOne_27, s_X11_wantOne_28, s_X11_wantOne_29, s_X11_wantOne_32, s_X11_wantOne_33, s_X11_wantOne_36, s_X11_wantOne_37, s_X11_wantOne_39, s_X11_wantOne_40, s_X11_wantOne_43, s_X11_wantOne_44, s_X11_wantOne_45, s_X11_wantOne_48, s_X11_wantOne_49, s_X11_wantOne_50, s_X11_wantOne_53, s_X11_wantOne_54, s_X11_wantOne_55, s_X11_wantOne_58, s_X11_wantOne_59, s_X11_wantOne_60, s_X11_wantOne_61, s_X11_wantOne_64, s_X11_wantOne_66, s_X11_wantOne_67, s_X11_wantOne_70, s_X11_wantOne_73, s_X11_wantOne_74, s_X11_wantOne_75, s_X11_wantOne_76, s_X11_wantOne_77, s_X11_wantOne_79, s_X11_wantOne_82, p2, p.1.v43, i59_2, c2, ro_n, h8', hself, p.rc, e1, p1.rc, e2, f2'.rc, pm_mayHave0 f2', z2, f2'.1.v43, pm_mayWant0 f2', List.getElem?_cons_zero, List.getElem?_cons_succ, ob1_s, b2_t, b2_f, z1, cI, List.set_cons_zero, List.set_cons_succ, List.length_cons, List.length_nil, Nat.reduceAdd, Nat.reduceLT, Nat.zero_lt_succ, Bool.false_and, Bool.and_false, Bool.true_and, Bool.and_true, Bool.false_eq_true, ck0, ck1, ck2, ck3, ck4, Option.toList_some, Option.toList_none, List.cons_append, List.nil_append, gf_hit, pf_hit, ai_hit, al_hit, ar_hit, ob_hit, if_true, if_false, reduceIte, reduceCtorEq]
      | some u1 =>
        obtain ⟨ev, f2'⟩ : u1 = v2 ∧ PM h2 A r1 true := f2
        subst ev
        have z2 := f2'.2
        rw [b2_t] at z2
        obtain ⟨h3, v3, e3, s3, f3⟩ := pm_mayHave (sc := sc) (d := d) f2' hI l1.2
        have l2 := pHav_le (t := aT A) (L := aL A) (q := r1) l1.2
        dsimp only
        cases c2' : pHav (aT A) (aL A) r1 with
        | mk o2 r2 =>
          rw [c2'] at f3 l2
          cases o2 with
          | none =>
            have f3' : PM h3 A r2 false := f3
            have z3 := f3'.2
            rw [b2_f] at z3
            refine ⟨h3, ?_, (s1.trans s2).trans s3, f3'⟩
            simp only [c_X11_wantOne, s_X11_wantOne_0, s_X11_wantOne_1, s_X11_wantOne_2, s_X11_wantOne_5, s_X11_wantOne_6, s_X11_wantOne_7, s_X11_wantOne_9, s_X11_wantOne_12, s_X11_wantOne_13, s_X11_wantOne_16, s_X11_wantOne_17, s_X11_wantOne_17', s_X11_wantOne_20, s_X11_wantOne_21, s_X11_wantOne_24, s_X11_wantOne_27, s_X11_wantOne_28, s_X11_wantOne_29, s_X11_wantOne_32, s_X11_wantOne_33, s_X11_wantOne_36, s_X11_wantOne_37, s_X11_wantOne_39, s_X11_wantOne_40, s_X11_wantOne_43, s_X11_wantOne_44, s_X11_wantOne_45, s_X11_wantOne_48, s_X11_wantOne_49, s_X11_wantOne_50, s_X11_wantOne_53, s_X11_wantOne_54, s_X11_wantOne_55, s_X11_wantOne_58, s_X11_wantOne_59, s_X11_wantOne_60, s_X11_wantOne_61, s_X11_wantOne_64, s_X11_wantOne_66, s_X11_wantOne_67, s_X11_wantOne_70, s_X11_wantOne_73, s_X11_wantOne_74, s_X11_wantOne_75, s_X11_wantOne_76, s_X11_wantOne_77, s_X11_wantOne_79, s_X11_wantOne_82, p2, p.1.v43, i59_2, c2, ro_n, h8', hself, p.rc, e1, p1.rc, e2, f2'.rc, e3, f3'.rc, z3, f3'.1.v43, pm_mayWant0 f3', List.getElem?_cons_zero, List.getElem?_cons_succ, ob1_s, b2_t, b2_f, z1, cI, List.set_cons_zero, List.set_cons_succ, List.length_cons, List.length_nil, Nat.reduceAdd, Nat.reduceLT, Nat.zero_lt_succ, Bool.false_and, Bool.and_false, Bool.true_and, Bool.and_true, Bool.false_eq_true, ck0, ck1, ck2, ck3, ck4, Option.toList_some, Option.toList_none, List.cons_append, List.nil_append, gf_hit, pf_hit, ai_hit, al_hit, ar_hit, ob_hit, if_true, if_false, reduceIte, reduceCtorEq]
          | some u2 =>
            obtain ⟨ev, f3'⟩ : u2 = v3 ∧ PM h3 A r2 true := f3
            subst ev
            have z3 := f3'.2
            rw [b2_t] at z3
            obtain ⟨h4, v4, e4, s4, f4⟩ := pm_mayWant (sc := sc) (d := d) f3' hI l2.2 (w := 8) (m := n) (by decide) (by omega) wc8 (df := -1)
            dsimp only
            cases c3 : pNum (aT A) (aL A) 8 n (-1) r2 with
            | mk o3 r3 =>
              rw [c3] at f4
              cases o3 with
              | none =>
                have f4' : PM h4 A r3 false := f4
                have z4 := f4'.2
                rw [b2_f] at z4
                refine ⟨h4, ?_, ((s1.trans s2).trans s3).trans s4, f4'⟩
                simp only [c_X11_wantOne, s_X11_wantOne_0, s_X11_wantOne_1, s_X11_wantOne_2, s_X11_wantOne_5, s_X11_wantOne_6, s_X11_wantOne_7, s_X11_wantOne_9, s_X11_wantOne_12, s_X11_wantOne_13, s_X11_wantOne_16, s_X11_wantOne_17, s_X11_wantOne_17', s_X11_wantOne_20, s_X11_wantOne_21, s_X11_wantOne_24, s_X11_wantOne_27, s_X11_wantOne_28, s_X11_wantOne_29, s_X11_wantOne_32, s_X11_wantOne_33, s_X11_wantOne_36, s_X11_wantOne_37, s_X11_wantOne_39, s_X11_wantOne_40, s_X11_wantOne_43, s_X11_wantOne_44, s_X11_wantOne_45, s_X11_wantOne_48, s_X11_wantOne_49, s_X11_wantOne_50, s_X11_wantOne_53, s_X11_wantOne_54, s_X11_wantOne_55, s_X11_wantOne_58, s_X11_wantOne_59, s_X11_wantOne_60, s_X11_wantOne_61, s_X11_wantOne_64, s_X11_wantOne_66, s_X11_wantOne_67, s_X11_wantOne_70, s_X11_wantOne_73, s_X11_wantOne_74, s_X11_wantOne_75, s_X11_wantOne_76, s_X11_wantOne_77, s_X11_wantOne_79, s_X11_wantOne_82, p2, p.1.v43, i59_2, c2, ro_n, h8', hself, p.rc, e1, p1.rc, e2, f2'.rc, e3, f3'.rc, z3, f3'.1.v43, hg, e4, z4, List.getElem?_cons_zero, List.getElem?_cons_succ, ob1_s, b2_t, b2_f, z1, cI, List.set_cons_zero, List.set_cons_succ, List.length_cons, List.length_nil, Nat.reduceAdd, Nat.reduceLT, Nat.zero_lt_succ, Bool.false_and, Bool.and_false, Bool.true_and, Bool.and_true, Bool.false_eq_true, ck0, ck1, ck2, ck3, ck4, Option.toList_some, Option.toList_none, List.cons_append, List.nil_append, gf_hit, pf_hit, ai_hit, al_hit, ar_hit, ob_hit, if_true, if_false, reduceIte, reduceCtorEq]
                try rw [hg] at h8'
                try simp only [h8', if_false]
              | some u3 =>
                obtain ⟨ev, f4'⟩ : u3 = v4 ∧ PM h4 A r3 true := f4
                subst ev
                have z4 := f4'.2
                rw [b2_t] at z4
                have had := ma_adds (sc := sc) (d := d + 3) f4'.1 hn8 hg (k := nI kk) (a := u1) (p := u2) (c := u3)
                rw [hg] at h8'
                refine ⟨_, ?_, (((s1.trans s2).trans s3).trans s4).trans KP.row, f4'.f⟩
                simp only [c_X11_wantOne, s_X11_wantOne_0, s_X11_wantOne_1, s_X11_wantOne_2, s_X11_wantOne_5, s_X11_wantOne_6, s_X11_wantOne_7, s_X11_wantOne_9, s_X11_wantOne_12, s_X11_wantOne_13, s_X11_wantOne_16, s_X11_wantOne_17, s_X11_wantOne_17', s_X11_wantOne_20, s_X11_wantOne_21, s_X11_wantOne_24, s_X11_wantOne_27, s_X11_wantOne_28, s_X11_wantOne_29, s_X11_wantOne_32, s_X11_wantOne_33, s_X11_wantOne_36, s_X11_wantOne_37, s_X11_wantOne_39, s_X11_wantOne_40, s_X11_wantOne_43, s_X11_wantOne_44, s_X11_wantOne_45, s_X11_wantOne_48, s_X11_wantOne_49, s_X11_wantOne_50, s_X11_wantOne_53, s_X11_wantOne_54, s_X11_wantOne_55, s_X11_wantOne_58, s_X11_wantOne_59, s_X11_wantOne_60, s_X11_wantOne_61, s_X11_wantOne_64, s_X11_wantOne_66, s_X11_wantOne_67, s_X11_wantOne_70, s_X11_wantOne_73, s_X11_wantOne_74, s_X11_wantOne_75, s_X11_wantOne_76, s_X11_wantOne_77, s_X11_wantOne_79, s_X11_wantOne_82, p2, p.1.v43, i59_2, c2, ro_n, hg, h8', hself, p.rc, e1, p1.rc, e2, f2'.rc, e3, f3'.rc, z3, f3'.1.v43, e4, z4, f4'.rc, had, List.getElem?_cons_zero, List.getElem?_cons_succ, ob1_s, b2_t, b2_f, z1, cI, List.set_cons_zero, List.set_cons_succ, List.length_cons, List.length_nil, Nat.reduceAdd, Nat.reduceLT, Nat.zero_lt_succ, Bool.false_and, Bool.and_false, Bool.true_and, Bool.and_true, Bool.false_eq_true, ck0, ck1, ck2, ck3, ck4, Option.toList_some, Option.toList_none, List.cons_append, List.nil_append, gf_hit, pf_hit, ai_hit, al_hit, ar_hit, ob_hit, if_true, if_false, reduceIte, reduceCtorEq]
  · have h8' : 8 ≤ gn (aF A) := Int32.not_lt.mp h8
    rw [if_neg h8]
    refine ⟨_, ?_, KP.own, ⟨p.1.own, up_at⟩⟩
    simp only [c_X11_wantOne, s_X11_wantOne_0, s_X11_wantOne_1, s_X11_wantOne_2, s_X11_wantOne_5, s_X11_wantOne_6, s_X11_wantOne_7, s_X11_wantOne_9, s_X11_wantOne_12, s_X11_wantOne_13, s_X11_wantOne_16, s_X11_wantOne_17, s_X11_wantOne_17', s_X11_wantOne_20, s_X11_wantOne_21, s_X11_wantOne_24, s_X11_wantOne_27, s_X11_wantOne_28, s_X11_wantOne_29, s_X11_wantOne_32, s_X11_wantOne_33, s_X11_wantOne_36, s_X11_wantOne_37, s_X11_wantOne_39, s_X11_wantOne_40, s_X11_wantOne_43, s_X11_wantOne_44, s_X11_wantOne_45, s_X11_wantOne_48, s_X11_wantOne_49, s_X11_wantOne_50, s_X11_wantOne_53, s_X11_wantOne_54, s_X11_wantOne_55, s_X11_wantOne_58, s_X11_wantOne_59, s_X11_wantOne_60, s_X11_wantOne_61, s_X11_wantOne_64, s_X11_wantOne_66, s_X11_wantOne_67, s_X11_wantOne_70, s_X11_wantOne_73, s_X11_wantOne_74, s_X11_wantOne_75, s_X11_wantOne_76, s_X11_wantOne_77, s_X11_wantOne_79, s_X11_wantOne_82, p2, p.1.v43, i59_2, c2, ro_n, h8', up_at, b2_f, List.getElem?_cons_zero, List.getElem?_cons_succ, ob1_s, b2_t, b2_f, z1, cI, List.set_cons_zero, List.set_cons_succ, List.length_cons, List.length_nil, Nat.reduceAdd, Nat.reduceLT, Nat.zero_lt_succ, Bool.false_and, Bool.and_false, Bool.true_and, Bool.and_true, Bool.false_eq_true, ck0, ck1, ck2, ck3, ck4, Option.toList_some, Option.toList_none, List.cons_append, List.nil_append, gf_hit, pf_hit, ai_hit, al_hit, ar_hit, ob_hit, if_true, if_false, reduceIte, reduceCtorEq]
theorem pm_item (p : PM h A q true) (hI : AI A) (hq : q ≤ aL A) : ∃ h1, call sc (d + 6) MX11_wantItem [.ref 42] h = some (none, h1) ∧ KP h h1 ∧ (match pItm (aT A) (aL A) q (aF A) with
    | (none, r) => PM h1 A r false
    | (some G, r) => PM h1 (sF A G) r true) := by
  have hk := pm_kind (sc := sc) (d := d + 4) p
  have p2 := p.2
  rw [b2_t] at p2
  have q1 := en_q (t := aT A) hq
  unfold pItm
  cases ck : kn (aT A) (aL A) q with
  | some k =>
    rw [ck] at hk
    have hk6 := (kn_lt ck).1
    have hk' : call sc (d + 5) MX11_kindHere [.ref 42] h = some (some (.int (nI k)), h) := hk
    obtain ⟨h1, e1, s1, f1⟩ := pm_one (sc := sc) (d := d) p hI hq hk6
    refine ⟨h1, ?_, s1, f1⟩
    simp only [c_X11_wantItem, s_X11_wantItem_0, s_X11_wantItem_1, s_X11_wantItem_4, s_X11_wantItem_7, s_X11_wantItem_8, s_X11_wantItem_9, s_X11_wantItem_12, s_X11_wantItem_15, s_X11_wantItem_18, s_X11_wantItem_19, s_X11_wantItem_22, s_X11_wantItem_25, s_X11_wantItem_28, s_X11_wantItem_29, s_X11_wantItem_32, s_X11_wantItem_33, s_X11_wantItem_34, s_X11_wantItem_36, s_X11_wantItem_39, s_X11_wantItem_40, s_X11_wantItem_41, s_X11_wantItem_44, s_X11_wantItem_47, s_X11_wantItem_48, s_X11_wantItem_49, s_X11_wantItem_51, s_X11_wantItem_54, s_X11_wantItem_57, s_X11_wantItem_58, s_X11_wantItem_59, s_X11_wantItem_60, s_X11_wantItem_63, s_X11_wantItem_66, s_X11_wantItem_67, s_X11_wantItem_70, s_X11_wantItem_71, s_X11_wantItem_72, s_X11_wantItem_73, s_X11_wantItem_74, s_X11_wantItem_75, s_X11_wantItem_78, s_X11_wantItem_79, s_X11_wantItem_82, s_X11_wantItem_85, s_X11_wantItem_88, s_X11_wantItem_89, s_X11_wantItem_92, s_X11_wantItem_93, s_X11_wantItem_94, s_X11_wantItem_96, s_X11_wantItem_99, s_X11_wantItem_100, s_X11_wantItem_101, s_X11_wantItem_104, s_X11_wantItem_105, s_X11_wantItem_106, s_X11_wantItem_107, s_X11_wantItem_108, s_X11_wantItem_111, s_X11_wantItem_114, s_X11_wantItem_115, s_X11_wantItem_116, s_X11_wantItem_117, s_X11_wantItem_120, s_X11_wantItem_121, s_X11_wantItem_122, s_X11_wantItem_123, s_X11_wantItem_126, s_X11_wantItem_127, s_X11_wantItem_128, s_X11_wantItem_128', s_X11_wantItem_131, p.rc, hk', nn_nI (show k < 2 ^ 31 by omega), e1, List.getElem?_cons_zero, List.getElem?_cons_succ, ob1_s, b2_t, b2_f, z1, cI, List.set_cons_zero, List.set_cons_succ, List.length_cons, List.length_nil, Nat.reduceAdd, Nat.reduceLT, Nat.zero_lt_succ, Bool.false_and, Bool.and_false, Bool.true_and, Bool.and_true, Bool.false_eq_true, ck0, ck1, ck2, ck3, ck4, Option.toList_some, Option.toList_none, List.cons_append, List.nil_append, gf_hit, pf_hit, ai_hit, al_hit, ar_hit, ob_hit, if_true, if_false, reduceIte, reduceCtorEq]
  | none =>
    rw [ck] at hk
    have hk' : call sc (d + 5) MX11_kindHere [.ref 42] h = some (some (.int (-1)), h) := hk
    have b9 := pm_isWord (sc := sc) (d := d + 5) p (w := 9) (by decide) wc9
    have b10 := pm_isWord (sc := sc) (d := d + 5) p (w := 10) (by decide) wc10
    dsimp only
    cases c9 : isW (aT A) (aL A) 9 q
    · rw [c9] at b9
      rw [if_neg (by decide)]
      cases c10 : isW (aT A) (aL A) 10 q
      · rw [c10] at b10
        rw [if_neg (by decide)]
        refine ⟨_, ?_, KP.own, ⟨p.1.own, up_at⟩⟩
        simp only [c_X11_wantItem, s_X11_wantItem_0, s_X11_wantItem_1, s_X11_wantItem_4, s_X11_wantItem_7, s_X11_wantItem_8, s_X11_wantItem_9, s_X11_wantItem_12, s_X11_wantItem_15, s_X11_wantItem_18, s_X11_wantItem_19, s_X11_wantItem_22, s_X11_wantItem_25, s_X11_wantItem_28, s_X11_wantItem_29, s_X11_wantItem_32, s_X11_wantItem_33, s_X11_wantItem_34, s_X11_wantItem_36, s_X11_wantItem_39, s_X11_wantItem_40, s_X11_wantItem_41, s_X11_wantItem_44, s_X11_wantItem_47, s_X11_wantItem_48, s_X11_wantItem_49, s_X11_wantItem_51, s_X11_wantItem_54, s_X11_wantItem_57, s_X11_wantItem_58, s_X11_wantItem_59, s_X11_wantItem_60, s_X11_wantItem_63, s_X11_wantItem_66, s_X11_wantItem_67, s_X11_wantItem_70, s_X11_wantItem_71, s_X11_wantItem_72, s_X11_wantItem_73, s_X11_wantItem_74, s_X11_wantItem_75, s_X11_wantItem_78, s_X11_wantItem_79, s_X11_wantItem_82, s_X11_wantItem_85, s_X11_wantItem_88, s_X11_wantItem_89, s_X11_wantItem_92, s_X11_wantItem_93, s_X11_wantItem_94, s_X11_wantItem_96, s_X11_wantItem_99, s_X11_wantItem_100, s_X11_wantItem_101, s_X11_wantItem_104, s_X11_wantItem_105, s_X11_wantItem_106, s_X11_wantItem_107, s_X11_wantItem_108, s_X11_wantItem_111, s_X11_wantItem_114, s_X11_wantItem_115, s_X11_wantItem_116, s_X11_wantItem_117, s_X11_wantItem_120, s_X11_wantItem_121, s_X11_wantItem_122, s_X11_wantItem_123, s_X11_wantItem_126, s_X11_wantItem_127, s_X11_wantItem_128, s_X11_wantItem_128', s_X11_wantItem_131, p.rc, hk', show (-1 : Int32) < 0 from by decide, b9, b10, p2, b2_f, List.getElem?_cons_zero, List.getElem?_cons_succ, ob1_s, b2_t, b2_f, z1, cI, List.set_cons_zero, List.set_cons_succ, List.length_cons, List.length_nil, Nat.reduceAdd, Nat.reduceLT, Nat.zero_lt_succ, Bool.false_and, Bool.and_false, Bool.true_and, Bool.and_true, Bool.false_eq_true, ck0, ck1, ck2, ck3, ck4, Option.toList_some, Option.toList_none, List.cons_append, List.nil_append, gf_hit, pf_hit, ai_hit, al_hit, ar_hit, ob_hit, if_true, if_false, reduceIte, reduceCtorEq]
      · rw [c10] at b10
        rw [if_pos rfl]
        obtain ⟨h1, e1, p1, s1⟩ := pm_advance (sc := sc) (d := d + 3) p hI hq
        obtain ⟨h2, v, e2, s2, f1, f2⟩ := pm_want (sc := sc) (d := d + 2) p1 hI q1.2 (m := 15) (by decide)
        rw [show (nI 15 : Int32) = 15 from rfl] at e2
        unfold pBur
        cases cn : isN (aT A) (aL A) (en (aT A) (aL A) q) 15
        · have pf := f2 cn
          have pf2 := pf.2
          rw [b2_f] at pf2
          rw [if_neg (by decide)]
          have hrow : mx_up h2 43 (.inl (.int, 59, .inl (upd (rowO (aF A)) 1 (gb (aF A))))) = h2 := by
            rw [pf.1.u43 (ru_b (aF A) (gb (aF A))), wb_gb]
            exact pf.1.eq
          refine ⟨h2, ?_, s1.trans s2, pf⟩
          simp only [c_X11_wantItem, s_X11_wantItem_0, s_X11_wantItem_1, s_X11_wantItem_4, s_X11_wantItem_7, s_X11_wantItem_8, s_X11_wantItem_9, s_X11_wantItem_12, s_X11_wantItem_15, s_X11_wantItem_18, s_X11_wantItem_19, s_X11_wantItem_22, s_X11_wantItem_25, s_X11_wantItem_28, s_X11_wantItem_29, s_X11_wantItem_32, s_X11_wantItem_33, s_X11_wantItem_34, s_X11_wantItem_36, s_X11_wantItem_39, s_X11_wantItem_40, s_X11_wantItem_41, s_X11_wantItem_44, s_X11_wantItem_47, s_X11_wantItem_48, s_X11_wantItem_49, s_X11_wantItem_51, s_X11_wantItem_54, s_X11_wantItem_57, s_X11_wantItem_58, s_X11_wantItem_59, s_X11_wantItem_60, s_X11_wantItem_63, s_X11_wantItem_66, s_X11_wantItem_67, s_X11_wantItem_70, s_X11_wantItem_71, s_X11_wantItem_72, s_X11_wantItem_73, s_X11_wantItem_74, s_X11_wantItem_75, s_X11_wantItem_78, s_X11_wantItem_79, s_X11_wantItem_82, s_X11_wantItem_85, s_X11_wantItem_88, s_X11_wantItem_89, s_X11_wantItem_92, s_X11_wantItem_93, s_X11_wantItem_94, s_X11_wantItem_96, s_X11_wantItem_99, s_X11_wantItem_100, s_X11_wantItem_101, s_X11_wantItem_104, s_X11_wantItem_105, s_X11_wantItem_106, s_X11_wantItem_107, s_X11_wantItem_108, s_X11_wantItem_111, s_X11_wantItem_114, s_X11_wantItem_115, s_X11_wantItem_116, s_X11_wantItem_117, s_X11_wantItem_120, s_X11_wantItem_121, s_X11_wantItem_122, s_X11_wantItem_123, s_X11_wantItem_126, s_X11_wantItem_127, s_X11_wantItem_128, s_X11_wantItem_128', s_X11_wantItem_131, p.rc, hk', show (-1 : Int32) < 0 from by decide, b9, b10, e1, p1.rc, e2, pf2, pf.1.c43, pf.1.v43, i59_1, c1, ro_b, or_z, hrow, List.getElem?_cons_zero, List.getElem?_cons_succ, ob1_s, b2_t, b2_f, z1, cI, List.set_cons_zero, List.set_cons_succ, List.length_cons, List.length_nil, Nat.reduceAdd, Nat.reduceLT, Nat.zero_lt_succ, Bool.false_and, Bool.and_false, Bool.true_and, Bool.and_true, Bool.false_eq_true, ck0, ck1, ck2, ck3, ck4, Option.toList_some, Option.toList_none, List.cons_append, List.nil_append, gf_hit, pf_hit, ai_hit, al_hit, ar_hit, ob_hit, if_true, if_false, reduceIte, reduceCtorEq]
        · obtain ⟨ev, pt⟩ := f1 cn
          subst ev
          have pt2 := pt.2
          rw [b2_t] at pt2
          have hnm := (isN_k cn).2
          rw [if_pos rfl]
          refine ⟨RF h2 (wb (aF A) (gb (aF A) ||| so (nI (nm (aT A) (aL A) (en (aT A) (aL A) q))))), ?_, (s1.trans s2).trans KP.row, pt.f⟩
          simp only [c_X11_wantItem, s_X11_wantItem_0, s_X11_wantItem_1, s_X11_wantItem_4, s_X11_wantItem_7, s_X11_wantItem_8, s_X11_wantItem_9, s_X11_wantItem_12, s_X11_wantItem_15, s_X11_wantItem_18, s_X11_wantItem_19, s_X11_wantItem_22, s_X11_wantItem_25, s_X11_wantItem_28, s_X11_wantItem_29, s_X11_wantItem_32, s_X11_wantItem_33, s_X11_wantItem_34, s_X11_wantItem_36, s_X11_wantItem_39, s_X11_wantItem_40, s_X11_wantItem_41, s_X11_wantItem_44, s_X11_wantItem_47, s_X11_wantItem_48, s_X11_wantItem_49, s_X11_wantItem_51, s_X11_wantItem_54, s_X11_wantItem_57, s_X11_wantItem_58, s_X11_wantItem_59, s_X11_wantItem_60, s_X11_wantItem_63, s_X11_wantItem_66, s_X11_wantItem_67, s_X11_wantItem_70, s_X11_wantItem_71, s_X11_wantItem_72, s_X11_wantItem_73, s_X11_wantItem_74, s_X11_wantItem_75, s_X11_wantItem_78, s_X11_wantItem_79, s_X11_wantItem_82, s_X11_wantItem_85, s_X11_wantItem_88, s_X11_wantItem_89, s_X11_wantItem_92, s_X11_wantItem_93, s_X11_wantItem_94, s_X11_wantItem_96, s_X11_wantItem_99, s_X11_wantItem_100, s_X11_wantItem_101, s_X11_wantItem_104, s_X11_wantItem_105, s_X11_wantItem_106, s_X11_wantItem_107, s_X11_wantItem_108, s_X11_wantItem_111, s_X11_wantItem_114, s_X11_wantItem_115, s_X11_wantItem_116, s_X11_wantItem_117, s_X11_wantItem_120, s_X11_wantItem_121, s_X11_wantItem_122, s_X11_wantItem_123, s_X11_wantItem_126, s_X11_wantItem_127, s_X11_wantItem_128, s_X11_wantItem_128', s_X11_wantItem_131, p.rc, hk', show (-1 : Int32) < 0 from by decide, b9, b10, e1, p1.rc, e2, pt2, pt.1.c43, pt.1.v43, i59_1, c1, ro_b, so_nI (show nm (aT A) (aL A) (en (aT A) (aL A) q) < 16 by omega), pt.1.u43 (ru_b (aF A) _), List.getElem?_cons_zero, List.getElem?_cons_succ, ob1_s, b2_t, b2_f, z1, cI, List.set_cons_zero, List.set_cons_succ, List.length_cons, List.length_nil, Nat.reduceAdd, Nat.reduceLT, Nat.zero_lt_succ, Bool.false_and, Bool.and_false, Bool.true_and, Bool.and_true, Bool.false_eq_true, ck0, ck1, ck2, ck3, ck4, Option.toList_some, Option.toList_none, List.cons_append, List.nil_append, gf_hit, pf_hit, ai_hit, al_hit, ar_hit, ob_hit, if_true, if_false, reduceIte, reduceCtorEq]
    · rw [c9] at b9
      rw [if_pos rfl]
      obtain ⟨h1, e1, p1, s1⟩ := pm_advance (sc := sc) (d := d + 3) p hI hq
      obtain ⟨h2, v, e2, s2, f1, f2⟩ := pm_want (sc := sc) (d := d + 2) p1 hI q1.2 (m := 15) (by decide)
      rw [show (nI 15 : Int32) = 15 from rfl] at e2
      unfold pWor
      cases cn : isN (aT A) (aL A) (en (aT A) (aL A) q) 15
      · have pf := f2 cn
        have pf2 := pf.2
        rw [b2_f] at pf2
        rw [if_neg (by decide)]
        refine ⟨h2, ?_, s1.trans s2, pf⟩
        simp only [c_X11_wantItem, s_X11_wantItem_0, s_X11_wantItem_1, s_X11_wantItem_4, s_X11_wantItem_7, s_X11_wantItem_8, s_X11_wantItem_9, s_X11_wantItem_12, s_X11_wantItem_15, s_X11_wantItem_18, s_X11_wantItem_19, s_X11_wantItem_22, s_X11_wantItem_25, s_X11_wantItem_28, s_X11_wantItem_29, s_X11_wantItem_32, s_X11_wantItem_33, s_X11_wantItem_34, s_X11_wantItem_36, s_X11_wantItem_39, s_X11_wantItem_40, s_X11_wantItem_41, s_X11_wantItem_44, s_X11_wantItem_47, s_X11_wantItem_48, s_X11_wantItem_49, s_X11_wantItem_51, s_X11_wantItem_54, s_X11_wantItem_57, s_X11_wantItem_58, s_X11_wantItem_59, s_X11_wantItem_60, s_X11_wantItem_63, s_X11_wantItem_66, s_X11_wantItem_67, s_X11_wantItem_70, s_X11_wantItem_71, s_X11_wantItem_72, s_X11_wantItem_73, s_X11_wantItem_74, s_X11_wantItem_75, s_X11_wantItem_78, s_X11_wantItem_79, s_X11_wantItem_82, s_X11_wantItem_85, s_X11_wantItem_88, s_X11_wantItem_89, s_X11_wantItem_92, s_X11_wantItem_93, s_X11_wantItem_94, s_X11_wantItem_96, s_X11_wantItem_99, s_X11_wantItem_100, s_X11_wantItem_101, s_X11_wantItem_104, s_X11_wantItem_105, s_X11_wantItem_106, s_X11_wantItem_107, s_X11_wantItem_108, s_X11_wantItem_111, s_X11_wantItem_114, s_X11_wantItem_115, s_X11_wantItem_116, s_X11_wantItem_117, s_X11_wantItem_120, s_X11_wantItem_121, s_X11_wantItem_122, s_X11_wantItem_123, s_X11_wantItem_126, s_X11_wantItem_127, s_X11_wantItem_128, s_X11_wantItem_128', s_X11_wantItem_131, p.rc, hk', show (-1 : Int32) < 0 from by decide, b9, e1, p1.rc, e2, pf2, List.getElem?_cons_zero, List.getElem?_cons_succ, ob1_s, b2_t, b2_f, z1, cI, List.set_cons_zero, List.set_cons_succ, List.length_cons, List.length_nil, Nat.reduceAdd, Nat.reduceLT, Nat.zero_lt_succ, Bool.false_and, Bool.and_false, Bool.true_and, Bool.and_true, Bool.false_eq_true, ck0, ck1, ck2, ck3, ck4, Option.toList_some, Option.toList_none, List.cons_append, List.nil_append, gf_hit, pf_hit, ai_hit, al_hit, ar_hit, ob_hit, if_true, if_false, reduceIte, reduceCtorEq]
      · obtain ⟨ev, pt⟩ := f1 cn
        subst ev
        have pt2 := pt.2
        rw [b2_t] at pt2
        have hnm := (isN_k cn).2
        have q2 := en_q (t := aT A) q1.2
        rw [if_pos rfl]
        obtain ⟨h3, v3, e3, s3, g1, g2⟩ := pm_want (sc := sc) (d := d + 2) pt hI q2.2 (m := 99) (by decide)
        rw [show (nI 99 : Int32) = 99 from rfl] at e3
        cases cm : isN (aT A) (aL A) (en (aT A) (aL A) (en (aT A) (aL A) q)) 99
        · have pf := g2 cm
          have pf2 := pf.2
          rw [b2_f] at pf2
          rw [if_neg (by decide)]
          refine ⟨h3, ?_, (s1.trans s2).trans s3, pf⟩
          simp only [c_X11_wantItem, s_X11_wantItem_0, s_X11_wantItem_1, s_X11_wantItem_4, s_X11_wantItem_7, s_X11_wantItem_8, s_X11_wantItem_9, s_X11_wantItem_12, s_X11_wantItem_15, s_X11_wantItem_18, s_X11_wantItem_19, s_X11_wantItem_22, s_X11_wantItem_25, s_X11_wantItem_28, s_X11_wantItem_29, s_X11_wantItem_32, s_X11_wantItem_33, s_X11_wantItem_34, s_X11_wantItem_36, s_X11_wantItem_39, s_X11_wantItem_40, s_X11_wantItem_41, s_X11_wantItem_44, s_X11_wantItem_47, s_X11_wantItem_48, s_X11_wantItem_49, s_X11_wantItem_51, s_X11_wantItem_54, s_X11_wantItem_57, s_X11_wantItem_58, s_X11_wantItem_59, s_X11_wantItem_60, s_X11_wantItem_63, s_X11_wantItem_66, s_X11_wantItem_67, s_X11_wantItem_70, s_X11_wantItem_71, s_X11_wantItem_72, s_X11_wantItem_73, s_X11_wantItem_74, s_X11_wantItem_75, s_X11_wantItem_78, s_X11_wantItem_79, s_X11_wantItem_82, s_X11_wantItem_85, s_X11_wantItem_88, s_X11_wantItem_89, s_X11_wantItem_92, s_X11_wantItem_93, s_X11_wantItem_94, s_X11_wantItem_96, s_X11_wantItem_99, s_X11_wantItem_100, s_X11_wantItem_101, s_X11_wantItem_104, s_X11_wantItem_105, s_X11_wantItem_106, s_X11_wantItem_107, s_X11_wantItem_108, s_X11_wantItem_111, s_X11_wantItem_114, s_X11_wantItem_115, s_X11_wantItem_116, s_X11_wantItem_117, s_X11_wantItem_120, s_X11_wantItem_121, s_X11_wantItem_122, s_X11_wantItem_123, s_X11_wantItem_126, s_X11_wantItem_127, s_X11_wantItem_128, s_X11_wantItem_128', s_X11_wantItem_131, p.rc, hk', show (-1 : Int32) < 0 from by decide, b9, e1, p1.rc, e2, pt2, pt.rc, e3, pf2, List.getElem?_cons_zero, List.getElem?_cons_succ, ob1_s, b2_t, b2_f, z1, cI, List.set_cons_zero, List.set_cons_succ, List.length_cons, List.length_nil, Nat.reduceAdd, Nat.reduceLT, Nat.zero_lt_succ, Bool.false_and, Bool.and_false, Bool.true_and, Bool.and_true, Bool.false_eq_true, ck0, ck1, ck2, ck3, ck4, Option.toList_some, Option.toList_none, List.cons_append, List.nil_append, gf_hit, pf_hit, ai_hit, al_hit, ar_hit, ob_hit, if_true, if_false, reduceIte, reduceCtorEq]
        · obtain ⟨ev, ps⟩ := g1 cm
          subst ev
          have ps2 := ps.2
          rw [b2_t] at ps2
          rw [if_pos rfl]
          refine ⟨RF h3 (ww (aF A) (upd (gw (aF A)) (nm (aT A) (aL A) (en (aT A) (aL A) q)) (nI (nm (aT A) (aL A) (en (aT A) (aL A) (en (aT A) (aL A) q)))))), ?_, ((s1.trans s2).trans s3).trans KP.row, ps.f⟩
          simp only [c_X11_wantItem, s_X11_wantItem_0, s_X11_wantItem_1, s_X11_wantItem_4, s_X11_wantItem_7, s_X11_wantItem_8, s_X11_wantItem_9, s_X11_wantItem_12, s_X11_wantItem_15, s_X11_wantItem_18, s_X11_wantItem_19, s_X11_wantItem_22, s_X11_wantItem_25, s_X11_wantItem_28, s_X11_wantItem_29, s_X11_wantItem_32, s_X11_wantItem_33, s_X11_wantItem_34, s_X11_wantItem_36, s_X11_wantItem_39, s_X11_wantItem_40, s_X11_wantItem_41, s_X11_wantItem_44, s_X11_wantItem_47, s_X11_wantItem_48, s_X11_wantItem_49, s_X11_wantItem_51, s_X11_wantItem_54, s_X11_wantItem_57, s_X11_wantItem_58, s_X11_wantItem_59, s_X11_wantItem_60, s_X11_wantItem_63, s_X11_wantItem_66, s_X11_wantItem_67, s_X11_wantItem_70, s_X11_wantItem_71, s_X11_wantItem_72, s_X11_wantItem_73, s_X11_wantItem_74, s_X11_wantItem_75, s_X11_wantItem_78, s_X11_wantItem_79, s_X11_wantItem_82, s_X11_wantItem_85, s_X11_wantItem_88, s_X11_wantItem_89, s_X11_wantItem_92, s_X11_wantItem_93, s_X11_wantItem_94, s_X11_wantItem_96, s_X11_wantItem_99, s_X11_wantItem_100, s_X11_wantItem_101, s_X11_wantItem_104, s_X11_wantItem_105, s_X11_wantItem_106, s_X11_wantItem_107, s_X11_wantItem_108, s_X11_wantItem_111, s_X11_wantItem_114, s_X11_wantItem_115, s_X11_wantItem_116, s_X11_wantItem_117, s_X11_wantItem_120, s_X11_wantItem_121, s_X11_wantItem_122, s_X11_wantItem_123, s_X11_wantItem_126, s_X11_wantItem_127, s_X11_wantItem_128, s_X11_wantItem_128', s_X11_wantItem_131, p.rc, hk', show (-1 : Int32) < 0 from by decide, b9, e1, p1.rc, e2, pt2, pt.rc, e3, ps2, ps.1.c43, ix_w, in59 (show 3 + nm (aT A) (aL A) (en (aT A) (aL A) q) < 59 by omega), cl59 (show 3 + nm (aT A) (aL A) (en (aT A) (aL A) q) < 59 by omega), ps.1.u43 (ru_w (aF A) (show nm (aT A) (aL A) (en (aT A) (aL A) q) < 16 by omega) _), List.getElem?_cons_zero, List.getElem?_cons_succ, ob1_s, b2_t, b2_f, z1, cI, List.set_cons_zero, List.set_cons_succ, List.length_cons, List.length_nil, Nat.reduceAdd, Nat.reduceLT, Nat.zero_lt_succ, Bool.false_and, Bool.and_false, Bool.true_and, Bool.and_true, Bool.false_eq_true, ck0, ck1, ck2, ck3, ck4, Option.toList_some, Option.toList_none, List.cons_append, List.nil_append, gf_hit, pf_hit, ai_hit, al_hit, ar_hit, ob_hit, if_true, if_false, reduceIte, reduceCtorEq]
/-- the end of the text -/
theorem fam_end {F : Fam} {r : Nat} (p : PM h (sF A F) r g) (h53 : h.1 53 = some (cI 59 (rowO (aF A)))) {l1 : Int32} : XM h (den sc (d + 7) MX11_family 71 [some (.ref 42), some (.int l1), some (.int 0)] [] h) (.int (if g = true ∧ kd (aT A) (aL A) r = 0 then l1 else -1 - nI (sk (aT A) (aL A) r))) (if g = true ∧ kd (aT A) (aL A) r = 0 then sT (sF A F) (aT A) 0 else sT A (aT A) 0) := by
  have hno : g = true → ¬ kd (aT A) (aL A) r = 0 → XM h (den sc (d + 7) MX11_family 71 [some (.ref 42), some (.int l1), some (.int 0)] [] h) (.int (-1 - nI (sk (aT A) (aL A) r))) (sT A (aT A) 0) := by
    intro hg hk
    subst hg
    have p2 : h.1 42 = some (.inr (11, [.ref 43, .ref 44, .ref 45, .ref 46, .ref 47, .int (nI (aL A)), .int (nI (soQ (aT A) (aL A) r)), .int (nI (sk (aT A) (aL A) r)), .int (nI (en (aT A) (aL A) r)), .long (wdQ (aT A) (aL A) r), .int (vaQ (aT A) (aL A) r), .int 1, .ref 48, .ref 49, .ref 50, .ref 51, .ref 52, .ref 53, .int (b2 (aB A))])) := p.2
    have x3 := p.1.tl (l := 0) (so := nI (soQ (aT A) (aL A) r)) (be := nI (sk (aT A) (aL A) r)) (te := nI (en (aT A) (aL A) r)) (wd := wdQ (aT A) (aL A) r) (va := vaQ (aT A) (aL A) r) (go := 0)
    have hb := ma_back (sc := sc) (d := d + 6) x3 (s := 53) (G := aF A) (by omega) ((up_o (by decide)).trans h53)
    have hb' : call sc (d + 6) MX11_moveAll [.ref 42, .int 0, .ref 53] (mx_up h 42 (.inr (11, [.ref 43, .ref 44, .ref 45, .ref 46, .ref 47, .int 0, .int (nI (soQ (aT A) (aL A) r)), .int (nI (sk (aT A) (aL A) r)), .int (nI (en (aT A) (aL A) r)), .long (wdQ (aT A) (aL A) r), .int (vaQ (aT A) (aL A) r), .int 0, .ref 48, .ref 49, .ref 50, .ref 51, .ref 52, .ref 53, .int (b2 (aB A))]))) = _ := hb
    simp only [s_X11_family_71, s_X11_family_72, s_X11_family_73, s_X11_family_76, s_X11_family_79, s_X11_family_80, s_X11_family_83, s_X11_family_86, s_X11_family_87, s_X11_family_90, s_X11_family_91, s_X11_family_91', s_X11_family_94, s_X11_family_95, s_X11_family_96, s_X11_family_99, s_X11_family_100, s_X11_family_103, s_X11_family_106, s_X11_family_107, s_X11_family_108, s_X11_family_109, s_X11_family_112, s_X11_family_115, s_X11_family_116, s_X11_family_117, s_X11_family_120, s_X11_family_121, s_X11_family_122, s_X11_family_123, p2, so0, hk, up_at, up_up, mcu, hb', rF_c up_at, List.getElem?_cons_zero, List.getElem?_cons_succ, ob1_s, b2_t, b2_f, z1, cI, List.set_cons_zero, List.set_cons_succ, List.length_cons, List.length_nil, Nat.reduceAdd, Nat.reduceLT, Nat.zero_lt_succ, Bool.false_and, Bool.and_false, Bool.true_and, Bool.and_true, Bool.false_eq_true, ck0, ck1, ck2, ck3, ck4, Option.toList_some, Option.toList_none, List.cons_append, List.nil_append, gf_hit, pf_hit, ai_hit, al_hit, ar_hit, ob_hit, if_true, if_false, reduceIte, reduceCtorEq]
    exact ⟨_, rfl, x3.f, (same.up (by omega)).trans (rF_same (by omega))⟩
  cases g with
  | false =>
    have p2 : h.1 42 = some (.inr (11, [.ref 43, .ref 44, .ref 45, .ref 46, .ref 47, .int (nI (aL A)), .int (nI (soQ (aT A) (aL A) r)), .int (nI (sk (aT A) (aL A) r)), .int (nI (en (aT A) (aL A) r)), .long (wdQ (aT A) (aL A) r), .int (vaQ (aT A) (aL A) r), .int 0, .ref 48, .ref 49, .ref 50, .ref 51, .ref 52, .ref 53, .int (b2 (aB A))])) := p.2
    have x3 := p.1.tl (l := 0) (so := nI (soQ (aT A) (aL A) r)) (be := nI (sk (aT A) (aL A) r)) (te := nI (en (aT A) (aL A) r)) (wd := wdQ (aT A) (aL A) r) (va := vaQ (aT A) (aL A) r) (go := 0)
    have hb := ma_back (sc := sc) (d := d + 6) x3 (s := 53) (G := aF A) (by omega) ((up_o (by decide)).trans h53)
    have hb' : call sc (d + 6) MX11_moveAll [.ref 42, .int 0, .ref 53] (mx_up h 42 (.inr (11, [.ref 43, .ref 44, .ref 45, .ref 46, .ref 47, .int 0, .int (nI (soQ (aT A) (aL A) r)), .int (nI (sk (aT A) (aL A) r)), .int (nI (en (aT A) (aL A) r)), .long (wdQ (aT A) (aL A) r), .int (vaQ (aT A) (aL A) r), .int 0, .ref 48, .ref 49, .ref 50, .ref 51, .ref 52, .ref 53, .int (b2 (aB A))]))) = _ := hb
    rw [if_neg (fun z => absurd z.1 (by decide)), if_neg (fun z => absurd z.1 (by decide))]
    simp only [s_X11_family_71, s_X11_family_72, s_X11_family_73, s_X11_family_76, s_X11_family_79, s_X11_family_80, s_X11_family_83, s_X11_family_86, s_X11_family_87, s_X11_family_90, s_X11_family_91, s_X11_family_91', s_X11_family_94, s_X11_family_95, s_X11_family_96, s_X11_family_99, s_X11_family_100, s_X11_family_103, s_X11_family_106, s_X11_family_107, s_X11_family_108, s_X11_family_109, s_X11_family_112, s_X11_family_115, s_X11_family_116, s_X11_family_117, s_X11_family_120, s_X11_family_121, s_X11_family_122, s_X11_family_123, p2, up_at, up_up, mcu, hb', rF_c up_at, List.getElem?_cons_zero, List.getElem?_cons_succ, ob1_s, b2_t, b2_f, z1, cI, List.set_cons_zero, List.set_cons_succ, List.length_cons, List.length_nil, Nat.reduceAdd, Nat.reduceLT, Nat.zero_lt_succ, Bool.false_and, Bool.and_false, Bool.true_and, Bool.and_true, Bool.false_eq_true, ck0, ck1, ck2, ck3, ck4, Option.toList_some, Option.toList_none, List.cons_append, List.nil_append, gf_hit, pf_hit, ai_hit, al_hit, ar_hit, ob_hit, if_true, if_false, reduceIte, reduceCtorEq]
    exact ⟨_, rfl, x3.f, (same.up (by omega)).trans (rF_same (by omega))⟩
  | true =>
    by_cases hk : kd (aT A) (aL A) r = 0
    · have p2 : h.1 42 = some (.inr (11, [.ref 43, .ref 44, .ref 45, .ref 46, .ref 47, .int (nI (aL A)), .int (nI (soQ (aT A) (aL A) r)), .int (nI (sk (aT A) (aL A) r)), .int (nI (en (aT A) (aL A) r)), .long (wdQ (aT A) (aL A) r), .int (vaQ (aT A) (aL A) r), .int 1, .ref 48, .ref 49, .ref 50, .ref 51, .ref 52, .ref 53, .int (b2 (aB A))])) := p.2
      rw [if_pos ⟨rfl, hk⟩, if_pos ⟨rfl, hk⟩]
      simp only [s_X11_family_71, s_X11_family_72, s_X11_family_73, s_X11_family_76, s_X11_family_79, s_X11_family_80, s_X11_family_83, s_X11_family_86, s_X11_family_87, s_X11_family_90, s_X11_family_91, s_X11_family_91', s_X11_family_94, s_X11_family_95, s_X11_family_96, s_X11_family_99, s_X11_family_100, s_X11_family_103, s_X11_family_106, s_X11_family_107, s_X11_family_108, s_X11_family_109, s_X11_family_112, s_X11_family_115, s_X11_family_116, s_X11_family_117, s_X11_family_120, s_X11_family_121, s_X11_family_122, s_X11_family_123, p2, so0, hk, up_at, up_up, List.getElem?_cons_zero, List.getElem?_cons_succ, ob1_s, b2_t, b2_f, z1, cI, List.set_cons_zero, List.set_cons_succ, List.length_cons, List.length_nil, Nat.reduceAdd, Nat.reduceLT, Nat.zero_lt_succ, Bool.false_and, Bool.and_false, Bool.true_and, Bool.and_true, Bool.false_eq_true, ck0, ck1, ck2, ck3, ck4, Option.toList_some, Option.toList_none, List.cons_append, List.nil_append, gf_hit, pf_hit, ai_hit, al_hit, ar_hit, ob_hit, if_true, if_false, reduceIte, reduceCtorEq]
      exact ⟨_, rfl, p.1.tl (l := 0), same.up (by omega)⟩
    · rw [if_neg (fun z => hk z.2), if_neg (fun z => hk z.2)]
      exact hno rfl hk
theorem kd3_v {t : Nat → Int32} {L r : Nat} (hk : kd t L r = 3) : vaQ t L r = 59 := by
  have h2 : ¬ kd t L r = 2 := by omega
  unfold vaQ bA
  rw [if_neg h2]
  unfold kd at hk
  split at hk
  · omega
  · rename_i h1
    split at hk
    · omega
    · split at hk
      · omega
      · split at hk
        · rename_i h5
          rw [if_pos (by omega), h5]
        · omega
theorem kd4_v {t : Nat → Int32} {L r : Nat} (hk : kd t L r = 4) : ¬ vaQ t L r = 59 := by
  have h2 : ¬ kd t L r = 2 := by omega
  unfold vaQ bA
  rw [if_neg h2]
  unfold kd at hk
  split at hk
  · omega
  · rename_i h1
    split at hk
    · omega
    · split at hk
      · omega
      · split at hk
        · omega
        · rename_i h5
          rw [if_pos (by omega)]
          exact h5
def famA (A : AS) (o : Option Fam) : AS := match o with
  | none => sT A (aT A) 0
  | some G => sT (sF A G) (aT A) 0
theorem lp_fam (hI : AI A) (k : Nat) : ∀ (n q : Nat) (F : Fam) (h : mx_G) (so be va : Int32) (wd : Int64), n + k = 121 → 1 ≤ n → n ≤ q + 1 → q ≤ aL A → FI F → MA h (sF A F) → h.1 42 = some (.inr (11, [.ref 43, .ref 44, .ref 45, .ref 46, .ref 47, .int (nI (aL A)), .int (so), .int (be), .int (nI q), .long (wd), .int (va), .int (1), .ref 48, .ref 49, .ref 50, .ref 51, .ref 52, .ref 53, .int (b2 (aB A))])) → h.1 53 = some (cI 59 (rowO (aF A))) → XM h (den sc (d + 7) MX11_family 23 [some (.ref 42), some (.int (nI (n - 1))), some (.int 1)] [] h) (.int (txL (aT A) (aL A) k n q F).1) (famA A (txL (aT A) (aL A) k n q F).2) := by
  induction k with
  | zero =>
    intro n q F h so be va wd hn h1n hnq hq hF x e h53
    have hI' : AI (sF A F) := ⟨hF, hI.2⟩
    have hL := hI.2.2.1
    obtain ⟨hA, e1, p1, k1⟩ := pm_adv1 (sc := sc) (d := d + 4) x hI' hq e
    obtain ⟨h2, e2, k2, f2⟩ := pm_item (sc := sc) (d := d) p1 hI' hq
    have hend : pItm (aT A) (aL A) q F = (none, q) := pItm_end (by omega)
    have f2' : PM h2 (sF A F) q false := by
      have : (match pItm (aT A) (aL A) q F with
        | (none, r) => PM h2 (sF A F) r false
        | (some G, r) => PM h2 (sF (sF A F) G) r true) := f2
      rw [hend] at this
      exact this
    have z2 : h2.1 42 = some (.inr (11, [.ref 43, .ref 44, .ref 45, .ref 46, .ref 47, .int (nI (aL A)), .int (nI (soQ (aT A) (aL A) q)), .int (nI (sk (aT A) (aL A) q)), .int (nI (en (aT A) (aL A) q)), .long (wdQ (aT A) (aL A) q), .int (vaQ (aT A) (aL A) q), .int (0), .ref 48, .ref 49, .ref 50, .ref 51, .ref 52, .ref 53, .int (b2 (aB A))])) := f2'.2
    have hen := fam_end (sc := sc) (d := d) (l1 := nI (n - 1) + 1) f2' ((k1.trans k2).2.trans h53)
    rw [if_neg (fun z => absurd z.1 (by decide)), if_neg (fun z => absurd z.1 (by decide))] at hen
    rw [txL_0, s_X11_family_23]
    have e1' : call sc (d + 6) MX11_advance [.ref 42] h = some (none, hA) := e1
    simp only [s_X11_family_24, s_X11_family_27, s_X11_family_28, s_X11_family_31, s_X11_family_32, s_X11_family_35, s_X11_family_38, s_X11_family_39, s_X11_family_42, s_X11_family_45, s_X11_family_46, s_X11_family_49, s_X11_family_50, s_X11_family_53, s_X11_family_54, s_X11_family_57, s_X11_family_59, s_X11_family_62, s_X11_family_63, s_X11_family_66, s_X11_family_67, s_X11_family_68, rc_hit e, e1', p1.rc, e2, z2, z1, List.getElem?_cons_zero, List.getElem?_cons_succ, ob1_s, b2_t, b2_f, z1, cI, List.set_cons_zero, List.set_cons_succ, List.length_cons, List.length_nil, Nat.reduceAdd, Nat.reduceLT, Nat.zero_lt_succ, Bool.false_and, Bool.and_false, Bool.true_and, Bool.and_true, Bool.false_eq_true, ck0, ck1, ck2, ck3, ck4, Option.toList_some, Option.toList_none, List.cons_append, List.nil_append, gf_hit, pf_hit, ai_hit, al_hit, ar_hit, ob_hit, if_true, if_false, reduceIte, reduceCtorEq]
    rw [s_X11_family_23]
    simp only [s_X11_family_24, List.getElem?_cons_zero, List.getElem?_cons_succ, ob1_s, b2_t, b2_f, z1, cI, List.set_cons_zero, List.set_cons_succ, List.length_cons, List.length_nil, Nat.reduceAdd, Nat.reduceLT, Nat.zero_lt_succ, Bool.false_and, Bool.and_false, Bool.true_and, Bool.and_true, Bool.false_eq_true, ck0, ck1, ck2, ck3, ck4, Option.toList_some, Option.toList_none, List.cons_append, List.nil_append, gf_hit, pf_hit, ai_hit, al_hit, ar_hit, ob_hit, if_true, if_false, reduceIte, reduceCtorEq]
    exact hen.go (k1.trans k2).1
  | succ k ih =>
    intro n q F h so be va wd hn h1n hnq hq hF x e h53
    have hI' : AI (sF A F) := ⟨hF, hI.2⟩
    have hL := hI.2.2.1
    obtain ⟨hA, e1, p1, k1⟩ := pm_adv1 (sc := sc) (d := d + 4) x hI' hq e
    obtain ⟨h2, e2, k2, f2⟩ := pm_item (sc := sc) (d := d) p1 hI' hq
    have f2' : (match pItm (aT A) (aL A) q F with
        | (none, r) => PM h2 (sF A F) r false
        | (some G, r) => PM h2 (sF A G) r true) := f2
    have h253 : h2.1 53 = some (cI 59 (rowO (aF A))) := (k1.trans k2).2.trans h53
    have hit : nI (n - 1) + 1 = nI n := by rw [nI_1]; congr 1; omega
    have e1' : call sc (d + 6) MX11_advance [.ref 42] h = some (none, hA) := e1
    have l1 := pItm_le (t := aT A) (L := aL A) (q := q) (F := F) hq
    rw [txL_s]
    cases c1 : pItm (aT A) (aL A) q F with
    | mk o r =>
      rw [c1] at f2' l1
      cases o with
      | none =>
        have f3 : PM h2 (sF A F) r false := f2'
        have z2 : h2.1 42 = some (.inr (11, [.ref 43, .ref 44, .ref 45, .ref 46, .ref 47, .int (nI (aL A)), .int (nI (soQ (aT A) (aL A) r)), .int (nI (sk (aT A) (aL A) r)), .int (nI (en (aT A) (aL A) r)), .long (wdQ (aT A) (aL A) r), .int (vaQ (aT A) (aL A) r), .int (0), .ref 48, .ref 49, .ref 50, .ref 51, .ref 52, .ref 53, .int (b2 (aB A))])) := f3.2
        have hen := fam_end (sc := sc) (d := d) (l1 := nI n) f3 h253
        rw [if_neg (fun z => absurd z.1 (by decide)), if_neg (fun z => absurd z.1 (by decide))] at hen
        rw [s_X11_family_23]
        simp only [s_X11_family_24, s_X11_family_27, s_X11_family_28, s_X11_family_31, s_X11_family_32, s_X11_family_35, s_X11_family_38, s_X11_family_39, s_X11_family_42, s_X11_family_45, s_X11_family_46, s_X11_family_49, s_X11_family_50, s_X11_family_53, s_X11_family_54, s_X11_family_57, s_X11_family_59, s_X11_family_62, s_X11_family_63, s_X11_family_66, s_X11_family_67, s_X11_family_68, rc_hit e, e1', p1.rc, e2, hit, z2, z1, List.getElem?_cons_zero, List.getElem?_cons_succ, ob1_s, b2_t, b2_f, z1, cI, List.set_cons_zero, List.set_cons_succ, List.length_cons, List.length_nil, Nat.reduceAdd, Nat.reduceLT, Nat.zero_lt_succ, Bool.false_and, Bool.and_false, Bool.true_and, Bool.and_true, Bool.false_eq_true, ck0, ck1, ck2, ck3, ck4, Option.toList_some, Option.toList_none, List.cons_append, List.nil_append, gf_hit, pf_hit, ai_hit, al_hit, ar_hit, ob_hit, if_true, if_false, reduceIte, reduceCtorEq]
        rw [s_X11_family_23]
        simp only [s_X11_family_24, List.getElem?_cons_zero, List.getElem?_cons_succ, ob1_s, b2_t, b2_f, z1, cI, List.set_cons_zero, List.set_cons_succ, List.length_cons, List.length_nil, Nat.reduceAdd, Nat.reduceLT, Nat.zero_lt_succ, Bool.false_and, Bool.and_false, Bool.true_and, Bool.and_true, Bool.false_eq_true, ck0, ck1, ck2, ck3, ck4, Option.toList_some, Option.toList_none, List.cons_append, List.nil_append, gf_hit, pf_hit, ai_hit, al_hit, ar_hit, ob_hit, if_true, if_false, reduceIte, reduceCtorEq]
        exact hen.go (k1.trans k2).1
      | some G =>
        have f3 : PM h2 (sF A G) r true := f2'
        have hG := pItm_ok hF c1
        have z2 : h2.1 42 = some (.inr (11, [.ref 43, .ref 44, .ref 45, .ref 46, .ref 47, .int (nI (aL A)), .int (nI (soQ (aT A) (aL A) r)), .int (nI (sk (aT A) (aL A) r)), .int (nI (en (aT A) (aL A) r)), .long (wdQ (aT A) (aL A) r), .int (vaQ (aT A) (aL A) r), .int (1), .ref 48, .ref 49, .ref 50, .ref 51, .ref 52, .ref 53, .int (b2 (aB A))])) := f3.2
        dsimp only
        by_cases k0 : kd (aT A) (aL A) r = 0
        · have n3 : ¬ 3 ≤ kd (aT A) (aL A) r := by omega
          have hen := fam_end (sc := sc) (d := d) (l1 := nI n) f3 h253
          rw [if_pos ⟨rfl, k0⟩, if_pos ⟨rfl, k0⟩] at hen
          rw [if_pos k0, s_X11_family_23]
          simp only [s_X11_family_24, s_X11_family_27, s_X11_family_28, s_X11_family_31, s_X11_family_32, s_X11_family_35, s_X11_family_38, s_X11_family_39, s_X11_family_42, s_X11_family_45, s_X11_family_46, s_X11_family_49, s_X11_family_50, s_X11_family_53, s_X11_family_54, s_X11_family_57, s_X11_family_59, s_X11_family_62, s_X11_family_63, s_X11_family_66, s_X11_family_67, s_X11_family_68, rc_hit e, e1', p1.rc, e2, hit, z2, z1, so3, n3, List.getElem?_cons_zero, List.getElem?_cons_succ, ob1_s, b2_t, b2_f, z1, cI, List.set_cons_zero, List.set_cons_succ, List.length_cons, List.length_nil, Nat.reduceAdd, Nat.reduceLT, Nat.zero_lt_succ, Bool.false_and, Bool.and_false, Bool.true_and, Bool.and_true, Bool.false_eq_true, ck0, ck1, ck2, ck3, ck4, Option.toList_some, Option.toList_none, List.cons_append, List.nil_append, gf_hit, pf_hit, ai_hit, al_hit, ar_hit, ob_hit, if_true, if_false, reduceIte, reduceCtorEq]
          rw [s_X11_family_23]
          simp only [s_X11_family_24, List.getElem?_cons_zero, List.getElem?_cons_succ, ob1_s, b2_t, b2_f, z1, cI, List.set_cons_zero, List.set_cons_succ, List.length_cons, List.length_nil, Nat.reduceAdd, Nat.reduceLT, Nat.zero_lt_succ, Bool.false_and, Bool.and_false, Bool.true_and, Bool.and_true, Bool.false_eq_true, ck0, ck1, ck2, ck3, ck4, Option.toList_some, Option.toList_none, List.cons_append, List.nil_append, gf_hit, pf_hit, ai_hit, al_hit, ar_hit, ob_hit, if_true, if_false, reduceIte, reduceCtorEq]
          exact hen.go (k1.trans k2).1
        · rw [if_neg k0]
          by_cases k3 : kd (aT A) (aL A) r = 3
          · have n3 : 3 ≤ kd (aT A) (aL A) r := by omega
            have hgt : r + 1 ≤ en (aT A) (aL A) r := en_gt (t := aT A) l1.2 k0
            have hn1 := ih (n + 1) (en (aT A) (aL A) r) G h2 _ _ _ _ (by omega) (by omega) (by dsimp only at l1; omega) (en_q l1.2).2 hG f3.1 z2 h253
            rw [if_pos k3, s_X11_family_23]
            simp only [s_X11_family_24, s_X11_family_27, s_X11_family_28, s_X11_family_31, s_X11_family_32, s_X11_family_35, s_X11_family_38, s_X11_family_39, s_X11_family_42, s_X11_family_45, s_X11_family_46, s_X11_family_49, s_X11_family_50, s_X11_family_53, s_X11_family_54, s_X11_family_57, s_X11_family_59, s_X11_family_62, s_X11_family_63, s_X11_family_66, s_X11_family_67, s_X11_family_68, rc_hit e, e1', p1.rc, e2, hit, z2, z1, so3, n3, kd3_v k3, List.getElem?_cons_zero, List.getElem?_cons_succ, ob1_s, b2_t, b2_f, z1, cI, List.set_cons_zero, List.set_cons_succ, List.length_cons, List.length_nil, Nat.reduceAdd, Nat.reduceLT, Nat.zero_lt_succ, Bool.false_and, Bool.and_false, Bool.true_and, Bool.and_true, Bool.false_eq_true, ck0, ck1, ck2, ck3, ck4, Option.toList_some, Option.toList_none, List.cons_append, List.nil_append, gf_hit, pf_hit, ai_hit, al_hit, ar_hit, ob_hit, if_true, if_false, reduceIte, reduceCtorEq]
            exact hn1.go (k1.trans k2).1
          · rw [if_neg k3]
            have hen := fam_end (sc := sc) (d := d) (l1 := nI n) f3 h253
            rw [if_neg (fun z => k0 z.2), if_neg (fun z => k0 z.2)] at hen
            have hk4 := kd_4 (t := aT A) (L := aL A) (q := r)
            by_cases k4 : kd (aT A) (aL A) r = 4
            · have n3 : 3 ≤ kd (aT A) (aL A) r := by omega
              rw [s_X11_family_23]
              simp only [s_X11_family_24, s_X11_family_27, s_X11_family_28, s_X11_family_31, s_X11_family_32, s_X11_family_35, s_X11_family_38, s_X11_family_39, s_X11_family_42, s_X11_family_45, s_X11_family_46, s_X11_family_49, s_X11_family_50, s_X11_family_53, s_X11_family_54, s_X11_family_57, s_X11_family_59, s_X11_family_62, s_X11_family_63, s_X11_family_66, s_X11_family_67, s_X11_family_68, rc_hit e, e1', p1.rc, e2, hit, z2, z1, so3, n3, kd4_v k4, List.getElem?_cons_zero, List.getElem?_cons_succ, ob1_s, b2_t, b2_f, z1, cI, List.set_cons_zero, List.set_cons_succ, List.length_cons, List.length_nil, Nat.reduceAdd, Nat.reduceLT, Nat.zero_lt_succ, Bool.false_and, Bool.and_false, Bool.true_and, Bool.and_true, Bool.false_eq_true, ck0, ck1, ck2, ck3, ck4, Option.toList_some, Option.toList_none, List.cons_append, List.nil_append, gf_hit, pf_hit, ai_hit, al_hit, ar_hit, ob_hit, if_true, if_false, reduceIte, reduceCtorEq]
              rw [s_X11_family_23]
              simp only [s_X11_family_24, List.getElem?_cons_zero, List.getElem?_cons_succ, ob1_s, b2_t, b2_f, z1, cI, List.set_cons_zero, List.set_cons_succ, List.length_cons, List.length_nil, Nat.reduceAdd, Nat.reduceLT, Nat.zero_lt_succ, Bool.false_and, Bool.and_false, Bool.true_and, Bool.and_true, Bool.false_eq_true, ck0, ck1, ck2, ck3, ck4, Option.toList_some, Option.toList_none, List.cons_append, List.nil_append, gf_hit, pf_hit, ai_hit, al_hit, ar_hit, ob_hit, if_true, if_false, reduceIte, reduceCtorEq]
              exact hen.go (k1.trans k2).1
            · have n3 : ¬ 3 ≤ kd (aT A) (aL A) r := by omega
              rw [s_X11_family_23]
              simp only [s_X11_family_24, s_X11_family_27, s_X11_family_28, s_X11_family_31, s_X11_family_32, s_X11_family_35, s_X11_family_38, s_X11_family_39, s_X11_family_42, s_X11_family_45, s_X11_family_46, s_X11_family_49, s_X11_family_50, s_X11_family_53, s_X11_family_54, s_X11_family_57, s_X11_family_59, s_X11_family_62, s_X11_family_63, s_X11_family_66, s_X11_family_67, s_X11_family_68, rc_hit e, e1', p1.rc, e2, hit, z2, z1, so3, n3, List.getElem?_cons_zero, List.getElem?_cons_succ, ob1_s, b2_t, b2_f, z1, cI, List.set_cons_zero, List.set_cons_succ, List.length_cons, List.length_nil, Nat.reduceAdd, Nat.reduceLT, Nat.zero_lt_succ, Bool.false_and, Bool.and_false, Bool.true_and, Bool.and_true, Bool.false_eq_true, ck0, ck1, ck2, ck3, ck4, Option.toList_some, Option.toList_none, List.cons_append, List.nil_append, gf_hit, pf_hit, ai_hit, al_hit, ar_hit, ob_hit, if_true, if_false, reduceIte, reduceCtorEq]
              rw [s_X11_family_23]
              simp only [s_X11_family_24, List.getElem?_cons_zero, List.getElem?_cons_succ, ob1_s, b2_t, b2_f, z1, cI, List.set_cons_zero, List.set_cons_succ, List.length_cons, List.length_nil, Nat.reduceAdd, Nat.reduceLT, Nat.zero_lt_succ, Bool.false_and, Bool.and_false, Bool.true_and, Bool.and_true, Bool.false_eq_true, ck0, ck1, ck2, ck3, ck4, Option.toList_some, Option.toList_none, List.cons_append, List.nil_append, gf_hit, pf_hit, ai_hit, al_hit, ar_hit, ob_hit, if_true, if_false, reduceIte, reduceCtorEq]
              exact hen.go (k1.trans k2).1
theorem mm_family (x : MA h A) (hI : AI A) : XM h (call sc 10 MX11_family [.ref 42] h) (.int (o_family A).1) (o_family A).2 := by
  obtain ⟨so', be, te, wd, va, go, m0⟩ := x.c42
  have hk := ma_keep (sc := sc) (d := 9) x (s := 53) (by omega)
  have y := x.st (G := aF A) (s := 53) (by omega)
  have m1 : (mx_up h 53 (cI 59 (rowO (aF A)))).1 42 = _ := (up_o (by decide)).trans m0
  have s1 : same 0 42 h (mx_up h 53 (cI 59 (rowO (aF A)))) := same.up (by omega)
  have s53 : (mx_up h 53 (cI 59 (rowO (aF A)))).1 53 = some (cI 59 (rowO (aF A))) := up_at
  generalize mx_up h 53 (cI 59 (rowO (aF A))) = h1 at *
  have y2 := y.own (so := so') (be := be) (te := 0) (wd := wd) (va := va) (go := 1)
  have z := lp_fam (sc := sc) (d := 3) hI 120 1 0 (aF A) _ so' be va wd (by omega) (by omega) (by omega) (by omega) hI.1 y2 up_at ((up_o (by decide)).trans s53)
  have ho : o_family A = ((txL (aT A) (aL A) 120 1 0 (aF A)).1, famA A (txL (aT A) (aL A) 120 1 0 (aF A)).2) := by
    unfold o_family
    cases txL (aT A) (aL A) 120 1 0 (aF A) with
    | mk v o => cases o <;> rfl
  rw [ho]
  simp only [c_X11_family, s_X11_family_0, s_X11_family_1, s_X11_family_2, s_X11_family_3, s_X11_family_6, s_X11_family_9, s_X11_family_10, s_X11_family_11, s_X11_family_14, s_X11_family_15, s_X11_family_16, s_X11_family_16', s_X11_family_19, s_X11_family_20, s_X11_family_21, s_X11_family_22, x.rc, m0, hk, m1, up_at, up_up, List.getElem?_cons_zero, List.getElem?_cons_succ, ob1_s, b2_t, b2_f, z1, cI, List.set_cons_zero, List.set_cons_succ, List.length_cons, List.length_nil, Nat.reduceAdd, Nat.reduceLT, Nat.zero_lt_succ, Bool.false_and, Bool.and_false, Bool.true_and, Bool.and_true, Bool.false_eq_true, ck0, ck1, ck2, ck3, ck4, Option.toList_some, Option.toList_none, List.cons_append, List.nil_append, gf_hit, pf_hit, ai_hit, al_hit, ar_hit, ob_hit, if_true, if_false, reduceIte, reduceCtorEq]
  exact (z.go (same.up (by omega))).go s1
end
