/-! THE MODEL'S READER: the grammar -/
def PM (h : mx_G) (A : AS) (q : Nat) (g : Bool) : Prop := MA h A ∧ h.1 42 = some (.inr (11, [.ref 43, .ref 44, .ref 45, .ref 46, .ref 47, .int (nI (aL A)), .int (nI (soQ (aT A) (aL A) q)), .int (nI (sk (aT A) (aL A) q)), .int (nI (en (aT A) (aL A) q)), .long (wdQ (aT A) (aL A) q), .int (vaQ (aT A) (aL A) q), .int (b2 g), .ref 48, .ref 49, .ref 50, .ref 51, .ref 52, .ref 53, .int (b2 (aB A))]))
def KP (h h1 : mx_G) : Prop := same 0 42 h h1 ∧ h1.1 53 = h.1 53
theorem KP.refl {h : mx_G} : KP h h := ⟨same.refl, rfl⟩
theorem KP.trans {h h1 h2 : mx_G} (x : KP h h1) (y : KP h1 h2) : KP h h2 := ⟨x.1.trans y.1, y.2.trans x.2⟩
theorem KP.own {h : mx_G} {c : mx_C} : KP h (mx_up h 42 c) := ⟨same.up (by omega), up_o (by decide)⟩
theorem KP.row {h : mx_G} {G : Fam} : KP h (RF h G) := ⟨rF_same (by omega), rF_o (by decide)⟩
theorem wc0 : (232608281 : Int64) = lN (hr (wdR 0)) := by decide +kernel
theorem wc1 : (4431744 : Int64) = lN (hr (wdR 1)) := by decide +kernel
theorem wc2 : (7442488432 : Int64) = lN (hr (wdR 2)) := by decide +kernel
theorem wc3 : (35390 : Int64) = lN (hr (wdR 3)) := by decide +kernel
theorem wc4 : (5607315613638 : Int64) = lN (hr (wdR 4)) := by decide +kernel
theorem wc5 : (11438339 : Int64) = lN (hr (wdR 5)) := by decide +kernel
theorem wc6 : (923 : Int64) = lN (hr (wdR 6)) := by decide +kernel
theorem wc7 : (5878 : Int64) = lN (hr (wdR 7)) := by decide +kernel
theorem wc8 : (51445787 : Int64) = lN (hr (wdR 8)) := by decide +kernel
theorem wc9 : (12532058 : Int64) = lN (hr (wdR 9)) := by decide +kernel
theorem wc10 : (40222714 : Int64) = lN (hr (wdR 10)) := by decide +kernel
section
variable {sc : mx_X} {d : Nat} {h : mx_G} {A : AS} {q : Nat} {g : Bool} {G : Fam}
theorem PM.rc (p : PM h A q g) : mx_rc h 42 = some 11 := rc_hit p.2
theorem PM.f (p : PM h A q g) : PM (RF h G) (sF A G) q g := ⟨p.1.f, (rF_o (by decide)).trans p.2⟩
theorem pm_adv {so be va go : Int32} {wd : Int64} (x : MA h A) (hI : AI A) (hq : q ≤ aL A) (e : h.1 42 = some (.inr (11, [.ref 43, .ref 44, .ref 45, .ref 46, .ref 47, .int (nI (aL A)), .int (so), .int (be), .int (nI q), .long (wd), .int (va), .int (go), .ref 48, .ref 49, .ref 50, .ref 51, .ref 52, .ref 53, .int (b2 (aB A))]))) : call sc (d + 2) MX11_advance [.ref 42] h = some (none, mx_up h 42 (.inr (11, [.ref 43, .ref 44, .ref 45, .ref 46, .ref 47, .int (nI (aL A)), .int (nI (soQ (aT A) (aL A) q)), .int (nI (sk (aT A) (aL A) q)), .int (nI (en (aT A) (aL A) q)), .long (wdQ (aT A) (aL A) q), .int (vaQ (aT A) (aL A) q), .int (go), .ref 48, .ref 49, .ref 50, .ref 51, .ref 52, .ref 53, .int (b2 (aB A))]))) := by
  have y := mp_advance (sc := sc) (d := d) (so := so) (be := be) (va := va) (go := go) (wd := wd) (kb := b2 (aB A)) x.c47 hI.2.2.1 hI.2.2.2.1 hq
  rw [up_self e] at y
  exact y
theorem pm_advance (p : PM h A q g) (hI : AI A) (hq : q ≤ aL A) : ∃ h1, call sc (d + 2) MX11_advance [.ref 42] h = some (none, h1) ∧ PM h1 A (en (aT A) (aL A) q) g ∧ KP h h1 :=
  ⟨_, pm_adv p.1 hI (en_q hq).2 p.2, ⟨p.1.own, up_at⟩, KP.own⟩
theorem so1 {t : Nat → Int32} {L q : Nat} : (nI (soQ t L q) = 1) = (kd t L q = 1) := by
  apply propext
  have hk := kd_4 (t := t) (L := L) (q := q)
  rw [show (1 : Int32) = nI 1 from rfl, nI_eq (by unfold soQ; omega) (by decide)]
  unfold soQ
  omega
theorem so2 {t : Nat → Int32} {L q : Nat} : (nI (soQ t L q) = 2) = (kd t L q = 2) := by
  apply propext
  have hk := kd_4 (t := t) (L := L) (q := q)
  rw [show (2 : Int32) = nI 2 from rfl, nI_eq (by unfold soQ; omega) (by decide)]
  unfold soQ
  omega
theorem so0 {t : Nat → Int32} {L q : Nat} : (nI (soQ t L q) = 0) = (kd t L q = 0) := by
  apply propext
  have hk := kd_4 (t := t) (L := L) (q := q)
  rw [show (0 : Int32) = nI 0 from rfl, nI_eq (by unfold soQ; omega) (by decide)]
  unfold soQ
  omega
theorem so3 {t : Nat → Int32} {L q : Nat} : (nI (soQ t L q) = 3) = (3 ≤ kd t L q) := by
  apply propext
  have hk := kd_4 (t := t) (L := L) (q := q)
  rw [show (3 : Int32) = nI 3 from rfl, nI_eq (by unfold soQ; omega) (by decide)]
  unfold soQ
  omega
theorem pm_isWord (p : PM h A q g) {w : Nat} (hw : w < 11) {c : Int64} (hc : c = lN (hr (wdR w))) : call sc d MX11_isWord [.ref 42, .long c] h = some (some (.int (b2 (isW (aT A) (aL A) w q))), h) := by
  by_cases hk : kd (aT A) (aL A) q = 1
  · have hi := wv_iff (s := sk (aT A) (aL A) q) (n := en (aT A) (aL A) q - sk (aT A) (aL A) q) hw (kd1_let hk)
    have hwd : wdQ (aT A) (aL A) q = wv (aT A) (sk (aT A) (aL A) q) (en (aT A) (aL A) q - sk (aT A) (aL A) q) := if_pos hk
    rw [← hwd, ← hc] at hi
    by_cases h1 : wdQ (aT A) (aL A) q = c
    · have h3 : isW (aT A) (aL A) w q = true := decide_eq_true ⟨hk, hi.mp h1⟩
      simp only [c_X11_isWord, s_X11_isWord_0, s_X11_isWord_1, s_X11_isWord_4, s_X11_isWord_5, s_X11_isWord_8, s_X11_isWord_9, s_X11_isWord_12, s_X11_isWord_13, s_X11_isWord_14, s_X11_isWord_17, s_X11_isWord_18, s_X11_isWord_21, s_X11_isWord_22, s_X11_isWord_22_0, s_X11_isWord_22_1, p.2, so1, hk, lg_cmp_eq, h1, h3, List.getElem?_cons_zero, List.getElem?_cons_succ, ob1_s, b2_t, b2_f, z1, cI, List.set_cons_zero, List.set_cons_succ, List.length_cons, List.length_nil, Nat.reduceAdd, Nat.reduceLT, Nat.zero_lt_succ, Bool.false_and, Bool.and_false, Bool.true_and, Bool.and_true, Bool.false_eq_true, ck0, ck1, ck2, ck3, ck4, Option.toList_some, Option.toList_none, List.cons_append, List.nil_append, gf_hit, pf_hit, ai_hit, al_hit, ar_hit, ob_hit, if_true, if_false, reduceIte, reduceCtorEq]
    · have h3 : isW (aT A) (aL A) w q = false := decide_eq_false (fun z => h1 (hi.mpr z.2))
      simp only [c_X11_isWord, s_X11_isWord_0, s_X11_isWord_1, s_X11_isWord_4, s_X11_isWord_5, s_X11_isWord_8, s_X11_isWord_9, s_X11_isWord_12, s_X11_isWord_13, s_X11_isWord_14, s_X11_isWord_17, s_X11_isWord_18, s_X11_isWord_21, s_X11_isWord_22, s_X11_isWord_22_0, s_X11_isWord_22_1, p.2, so1, hk, lg_cmp_eq, h1, h3, List.getElem?_cons_zero, List.getElem?_cons_succ, ob1_s, b2_t, b2_f, z1, cI, List.set_cons_zero, List.set_cons_succ, List.length_cons, List.length_nil, Nat.reduceAdd, Nat.reduceLT, Nat.zero_lt_succ, Bool.false_and, Bool.and_false, Bool.true_and, Bool.and_true, Bool.false_eq_true, ck0, ck1, ck2, ck3, ck4, Option.toList_some, Option.toList_none, List.cons_append, List.nil_append, gf_hit, pf_hit, ai_hit, al_hit, ar_hit, ob_hit, if_true, if_false, reduceIte, reduceCtorEq]
  · have h3 : isW (aT A) (aL A) w q = false := decide_eq_false (fun z => hk z.1)
    simp only [c_X11_isWord, s_X11_isWord_0, s_X11_isWord_1, s_X11_isWord_4, s_X11_isWord_5, s_X11_isWord_8, s_X11_isWord_9, s_X11_isWord_12, s_X11_isWord_13, s_X11_isWord_14, s_X11_isWord_17, s_X11_isWord_18, s_X11_isWord_21, s_X11_isWord_22, s_X11_isWord_22_0, s_X11_isWord_22_1, p.2, so1, hk, h3, List.getElem?_cons_zero, List.getElem?_cons_succ, ob1_s, b2_t, b2_f, z1, cI, List.set_cons_zero, List.set_cons_succ, List.length_cons, List.length_nil, Nat.reduceAdd, Nat.reduceLT, Nat.zero_lt_succ, Bool.false_and, Bool.and_false, Bool.true_and, Bool.and_true, Bool.false_eq_true, ck0, ck1, ck2, ck3, ck4, Option.toList_some, Option.toList_none, List.cons_append, List.nil_append, gf_hit, pf_hit, ai_hit, al_hit, ar_hit, ob_hit, if_true, if_false, reduceIte, reduceCtorEq]
theorem mv_le {t : Nat → Int32} {L q : Nat} : mv t L q ≤ 10000 := mvL_le _ _ 0 (by omega)
theorem mvnm {t : Nat → Int32} {L q : Nat} : min (mv t L q) 1000 = nm t L q := mv_nm _ _ 0
theorem pm_want (p : PM h A q true) (hI : AI A) (hq : q ≤ aL A) {m : Nat} (hm : m ≤ 99) : ∃ h1 v, call sc (d + 3) MX11_wantNumber [.ref 42, .int 0, .int (nI m)] h = some (some (.int v), h1) ∧ KP h h1 ∧ (isN (aT A) (aL A) q m = true → v = nI (nm (aT A) (aL A) q) ∧ PM h1 A (en (aT A) (aL A) q) true) ∧ (isN (aT A) (aL A) q m = false → PM h1 A q false) := by
  have hle := mv_le (t := aT A) (L := aL A) (q := q)
  have hmn := mvnm (t := aT A) (L := aL A) (q := q)
  by_cases hk : kd (aT A) (aL A) q = 2
  · have hva : vaQ (aT A) (aL A) q = nI (mv (aT A) (aL A) q) := if_pos hk
    have p2 := p.2
    rw [b2_t] at p2
    have hwi : wi (vaQ (aT A) (aL A) q) 0 (nI m) = isN (aT A) (aL A) q m := by
      rw [hva]
      unfold wi isN
      have h1 : (0 : Int32) ≤ nI (mv (aT A) (aL A) q) := nI_pos' (by omega)
      rw [decide_eq_true h1, Bool.true_and]
      apply decide_eq_decide.mpr
      rw [nI_leI (by omega) (by omega)]
      constructor
      · intro h2; exact ⟨hk, by omega⟩
      · intro h2; have := h2.2; omega
    cases hb : isN (aT A) (aL A) q m
    · rw [hb] at hwi
      refine ⟨_, vaQ (aT A) (aL A) q, ?_, KP.own, fun z => absurd z (by decide), fun _ => ⟨p.1.own, up_at⟩⟩
      simp only [c_X11_wantNumber, s_X11_wantNumber_0, s_X11_wantNumber_1, s_X11_wantNumber_4, s_X11_wantNumber_5, s_X11_wantNumber_6, s_X11_wantNumber_7, s_X11_wantNumber_10, s_X11_wantNumber_13, s_X11_wantNumber_14, s_X11_wantNumber_17, s_X11_wantNumber_18, s_X11_wantNumber_21, s_X11_wantNumber_22, s_X11_wantNumber_23, s_X11_wantNumber_24, s_X11_wantNumber_27, s_X11_wantNumber_30, s_X11_wantNumber_31, s_X11_wantNumber_34, s_X11_wantNumber_35, s_X11_wantNumber_35', s_X11_wantNumber_38, s_X11_wantNumber_39, s_X11_wantNumber_42, s_X11_wantNumber_45, s_X11_wantNumber_46, s_X11_wantNumber_49, s_X11_wantNumber_50, p2, so2, hk, sp_in, hwi, up_at, b2_f, List.getElem?_cons_zero, List.getElem?_cons_succ, ob1_s, b2_t, b2_f, z1, cI, List.set_cons_zero, List.set_cons_succ, List.length_cons, List.length_nil, Nat.reduceAdd, Nat.reduceLT, Nat.zero_lt_succ, Bool.false_and, Bool.and_false, Bool.true_and, Bool.and_true, Bool.false_eq_true, ck0, ck1, ck2, ck3, ck4, Option.toList_some, Option.toList_none, List.cons_append, List.nil_append, gf_hit, pf_hit, ai_hit, al_hit, ar_hit, ob_hit, if_true, if_false, reduceIte, reduceCtorEq]
    · rw [hb] at hwi
      have hnm := (isN_k hb).2
      have hv : vaQ (aT A) (aL A) q = nI (nm (aT A) (aL A) q) := by
        rw [hva]
        congr 1
        omega
      obtain ⟨h1, e1, p1, s1⟩ := pm_advance (sc := sc) (d := d) p hI hq
      refine ⟨h1, vaQ (aT A) (aL A) q, ?_, s1, fun _ => ⟨hv, p1⟩, fun z => absurd z (by decide)⟩
      have hself := up_self p2
      simp only [c_X11_wantNumber, s_X11_wantNumber_0, s_X11_wantNumber_1, s_X11_wantNumber_4, s_X11_wantNumber_5, s_X11_wantNumber_6, s_X11_wantNumber_7, s_X11_wantNumber_10, s_X11_wantNumber_13, s_X11_wantNumber_14, s_X11_wantNumber_17, s_X11_wantNumber_18, s_X11_wantNumber_21, s_X11_wantNumber_22, s_X11_wantNumber_23, s_X11_wantNumber_24, s_X11_wantNumber_27, s_X11_wantNumber_30, s_X11_wantNumber_31, s_X11_wantNumber_34, s_X11_wantNumber_35, s_X11_wantNumber_35', s_X11_wantNumber_38, s_X11_wantNumber_39, s_X11_wantNumber_42, s_X11_wantNumber_45, s_X11_wantNumber_46, s_X11_wantNumber_49, s_X11_wantNumber_50, p2, so2, hk, sp_in, hwi, hself, p.rc, e1, List.getElem?_cons_zero, List.getElem?_cons_succ, ob1_s, b2_t, b2_f, z1, cI, List.set_cons_zero, List.set_cons_succ, List.length_cons, List.length_nil, Nat.reduceAdd, Nat.reduceLT, Nat.zero_lt_succ, Bool.false_and, Bool.and_false, Bool.true_and, Bool.and_true, Bool.false_eq_true, ck0, ck1, ck2, ck3, ck4, Option.toList_some, Option.toList_none, List.cons_append, List.nil_append, gf_hit, pf_hit, ai_hit, al_hit, ar_hit, ob_hit, if_true, if_false, reduceIte, reduceCtorEq]
  · have hb : isN (aT A) (aL A) q m = false := decide_eq_false (fun z => hk z.1)
    have p2 := p.2
    rw [b2_t] at p2
    refine ⟨_, vaQ (aT A) (aL A) q, ?_, KP.own, fun z => absurd (hb.symm.trans z) (by decide), fun _ => ⟨p.1.own, up_at⟩⟩
    simp only [c_X11_wantNumber, s_X11_wantNumber_0, s_X11_wantNumber_1, s_X11_wantNumber_4, s_X11_wantNumber_5, s_X11_wantNumber_6, s_X11_wantNumber_7, s_X11_wantNumber_10, s_X11_wantNumber_13, s_X11_wantNumber_14, s_X11_wantNumber_17, s_X11_wantNumber_18, s_X11_wantNumber_21, s_X11_wantNumber_22, s_X11_wantNumber_23, s_X11_wantNumber_24, s_X11_wantNumber_27, s_X11_wantNumber_30, s_X11_wantNumber_31, s_X11_wantNumber_34, s_X11_wantNumber_35, s_X11_wantNumber_35', s_X11_wantNumber_38, s_X11_wantNumber_39, s_X11_wantNumber_42, s_X11_wantNumber_45, s_X11_wantNumber_46, s_X11_wantNumber_49, s_X11_wantNumber_50, p2, so2, hk, up_at, b2_f, List.getElem?_cons_zero, List.getElem?_cons_succ, ob1_s, b2_t, b2_f, z1, cI, List.set_cons_zero, List.set_cons_succ, List.length_cons, List.length_nil, Nat.reduceAdd, Nat.reduceLT, Nat.zero_lt_succ, Bool.false_and, Bool.and_false, Bool.true_and, Bool.and_true, Bool.false_eq_true, ck0, ck1, ck2, ck3, ck4, Option.toList_some, Option.toList_none, List.cons_append, List.nil_append, gf_hit, pf_hit, ai_hit, al_hit, ar_hit, ob_hit, if_true, if_false, reduceIte, reduceCtorEq]
/-- a number behind a word, if that is there -/
theorem pm_mayWant (p : PM h A q true) (hI : AI A) (hq : q ≤ aL A) {w m : Nat} (hw : w < 11) (hm : m ≤ 99) {c : Int64} (hc : c = lN (hr (wdR w))) {df : Int32} : ∃ h1 v, call sc (d + 4) MX11_mayWant [.ref 42, .long c, .int 0, .int (nI m), .int df] h = some (some (.int v), h1) ∧ KP h h1 ∧ (match pNum (aT A) (aL A) w m df q with
    | (none, r) => PM h1 A r false
    | (some u, r) => u = v ∧ PM h1 A r true) := by
  have bw := pm_isWord (sc := sc) (d := d + 3) p hw hc
  have p2 := p.2
  rw [b2_t] at p2
  unfold pNum
  cases cw : isW (aT A) (aL A) w q
  · rw [cw] at bw
    refine ⟨h, df, ?_, KP.refl, rfl, p⟩
    simp only [c_X11_mayWant, s_X11_mayWant_0, s_X11_mayWant_1, s_X11_mayWant_4, s_X11_mayWant_7, s_X11_mayWant_8, s_X11_mayWant_9, s_X11_mayWant_12, s_X11_mayWant_15, s_X11_mayWant_17, s_X11_mayWant_18, s_X11_mayWant_19, s_X11_mayWant_22, s_X11_mayWant_23, s_X11_mayWant_24, s_X11_mayWant_26, s_X11_mayWant_29, p2, p.rc, bw, List.getElem?_cons_zero, List.getElem?_cons_succ, ob1_s, b2_t, b2_f, z1, cI, List.set_cons_zero, List.set_cons_succ, List.length_cons, List.length_nil, Nat.reduceAdd, Nat.reduceLT, Nat.zero_lt_succ, Bool.false_and, Bool.and_false, Bool.true_and, Bool.and_true, Bool.false_eq_true, ck0, ck1, ck2, ck3, ck4, Option.toList_some, Option.toList_none, List.cons_append, List.nil_append, gf_hit, pf_hit, ai_hit, al_hit, ar_hit, ob_hit, if_true, if_false, reduceIte, reduceCtorEq]
  · rw [cw] at bw
    obtain ⟨h1, e1, p1, s1⟩ := pm_advance (sc := sc) (d := d + 1) p hI hq
    obtain ⟨h2, v, e2, s2, f1, f2⟩ := pm_want (sc := sc) (d := d) p1 hI (en_q hq).2 hm
    have e3 : call sc (d + 4) MX11_mayWant [.ref 42, .long c, .int 0, .int (nI m), .int df] h = some (some (.int v), h2) := by
      simp only [c_X11_mayWant, s_X11_mayWant_0, s_X11_mayWant_1, s_X11_mayWant_4, s_X11_mayWant_7, s_X11_mayWant_8, s_X11_mayWant_9, s_X11_mayWant_12, s_X11_mayWant_15, s_X11_mayWant_17, s_X11_mayWant_18, s_X11_mayWant_19, s_X11_mayWant_22, s_X11_mayWant_23, s_X11_mayWant_24, s_X11_mayWant_26, s_X11_mayWant_29, p2, p.rc, bw, e1, p1.rc, e2, List.getElem?_cons_zero, List.getElem?_cons_succ, ob1_s, b2_t, b2_f, z1, cI, List.set_cons_zero, List.set_cons_succ, List.length_cons, List.length_nil, Nat.reduceAdd, Nat.reduceLT, Nat.zero_lt_succ, Bool.false_and, Bool.and_false, Bool.true_and, Bool.and_true, Bool.false_eq_true, ck0, ck1, ck2, ck3, ck4, Option.toList_some, Option.toList_none, List.cons_append, List.nil_append, gf_hit, pf_hit, ai_hit, al_hit, ar_hit, ob_hit, if_true, if_false, reduceIte, reduceCtorEq]
    rw [if_pos rfl]
    cases cn : isN (aT A) (aL A) (en (aT A) (aL A) q) m
    · exact ⟨h2, v, e3, s1.trans s2, f2 cn⟩
    · exact ⟨h2, v, e3, s1.trans s2, (f1 cn).1.symm, (f1 cn).2⟩
theorem pm_mayWant0 (p : PM h A q false) {c : Int64} {m df : Int32} : call sc (d + 4) MX11_mayWant [.ref 42, .long c, .int 0, .int m, .int df] h = some (some (.int df), h) := by
  have p2 := p.2
  rw [b2_f] at p2
  simp only [c_X11_mayWant, s_X11_mayWant_0, s_X11_mayWant_1, s_X11_mayWant_4, s_X11_mayWant_7, s_X11_mayWant_8, s_X11_mayWant_9, s_X11_mayWant_12, s_X11_mayWant_15, s_X11_mayWant_17, s_X11_mayWant_18, s_X11_mayWant_19, s_X11_mayWant_22, s_X11_mayWant_23, s_X11_mayWant_24, s_X11_mayWant_26, s_X11_mayWant_29, p2, List.getElem?_cons_zero, List.getElem?_cons_succ, ob1_s, b2_t, b2_f, z1, cI, List.set_cons_zero, List.set_cons_succ, List.length_cons, List.length_nil, Nat.reduceAdd, Nat.reduceLT, Nat.zero_lt_succ, Bool.false_and, Bool.and_false, Bool.true_and, Bool.and_true, Bool.false_eq_true, ck0, ck1, ck2, ck3, ck4, Option.toList_some, Option.toList_none, List.cons_append, List.nil_append, gf_hit, pf_hit, ai_hit, al_hit, ar_hit, ob_hit, if_true, if_false, reduceIte, reduceCtorEq]
theorem pm_mayHave0 (p : PM h A q false) : call sc (d + 4) MX11_mayHave [.ref 42] h = some (some (.int 0), h) := by
  have p2 := p.2
  rw [b2_f] at p2
  simp only [c_X11_mayHave, s_X11_mayHave_0, s_X11_mayHave_1, s_X11_mayHave_4, s_X11_mayHave_7, s_X11_mayHave_8, s_X11_mayHave_11, s_X11_mayHave_14, s_X11_mayHave_17, s_X11_mayHave_18, s_X11_mayHave_19, s_X11_mayHave_20, s_X11_mayHave_23, s_X11_mayHave_24, s_X11_mayHave_25, s_X11_mayHave_26, p2, List.getElem?_cons_zero, List.getElem?_cons_succ, ob1_s, b2_t, b2_f, z1, cI, List.set_cons_zero, List.set_cons_succ, List.length_cons, List.length_nil, Nat.reduceAdd, Nat.reduceLT, Nat.zero_lt_succ, Bool.false_and, Bool.and_false, Bool.true_and, Bool.and_true, Bool.false_eq_true, ck0, ck1, ck2, ck3, ck4, Option.toList_some, Option.toList_none, List.cons_append, List.nil_append, gf_hit, pf_hit, ai_hit, al_hit, ar_hit, ob_hit, if_true, if_false, reduceIte, reduceCtorEq]
theorem lp_have (hI : AI A) : ∀ (k i q : Nat) (s : Int32) (h : mx_G) (l3 : Option Value), i + k = 4 → q ≤ aL A → PM h A q true → ∃ h1 v, den sc (d + 4) MX11_mayHave 27 [some (.ref 42), some (.int s), some (.int (nI i)), l3] [] h = some (some (.int v), h1) ∧ KP h h1 ∧ (match thL (aT A) (aL A) k i q s with
    | (none, r) => PM h1 A r false
    | (some u, r) => u = v ∧ PM h1 A r true)
  | 0, i, q, s, h, l3, hi, hq, p => by
    obtain rfl : i = 4 := by omega
    refine ⟨h, s, ?_, KP.refl, rfl, p⟩
    rw [s_X11_mayHave_27]
    simp only [s_X11_mayHave_28, s_X11_mayHave_29, s_X11_mayHave_32, s_X11_mayHave_33, s_X11_mayHave_36, s_X11_mayHave_39, s_X11_mayHave_40, s_X11_mayHave_43, s_X11_mayHave_44, s_X11_mayHave_47, s_X11_mayHave_48, s_X11_mayHave_51, s_X11_mayHave_52, s_X11_mayHave_53, s_X11_mayHave_55, s_X11_mayHave_58, s_X11_mayHave_59, s_X11_mayHave_60, s_X11_mayHave_61, s_X11_mayHave_64, s_X11_mayHave_67, s_X11_mayHave_68, s_X11_mayHave_69, s_X11_mayHave_70, s_X11_mayHave_73, s_X11_mayHave_74, s_X11_mayHave_75, s_X11_mayHave_76, s_X11_mayHave_79, s_X11_mayHave_82, s_X11_mayHave_83, show (4 : Int32) ≤ nI 4 from by decide, List.getElem?_cons_zero, List.getElem?_cons_succ, ob1_s, b2_t, b2_f, z1, cI, List.set_cons_zero, List.set_cons_succ, List.length_cons, List.length_nil, Nat.reduceAdd, Nat.reduceLT, Nat.zero_lt_succ, Bool.false_and, Bool.and_false, Bool.true_and, Bool.and_true, Bool.false_eq_true, ck0, ck1, ck2, ck3, ck4, Option.toList_some, Option.toList_none, List.cons_append, List.nil_append, gf_hit, pf_hit, ai_hit, al_hit, ar_hit, ob_hit, if_true, if_false, reduceIte, reduceCtorEq]
  | k + 1, i, q, s, h, l3, hi, hq, p => by
    have hi4 : ¬ (4 : Int32) ≤ nI i := nI_ge (b := 4) (by omega) (by decide)
    have p2 := p.2
    rw [b2_t] at p2
    obtain ⟨h2, v, e2, s2, f1, f2⟩ := pm_want (sc := sc) (d := d) p hI hq (m := 15) (by decide)
    rw [show (nI 15 : Int32) = 15 from rfl] at e2
    by_cases hk : kd (aT A) (aL A) q = 2
    · have hgo : den sc (d + 4) MX11_mayHave 27 [some (.ref 42), some (.int s), some (.int (nI i)), l3] [] h = den sc (d + 4) MX11_mayHave 51 [some (.ref 42), some (.int s), some (.int (nI i)), l3] [] h := by
        rw [s_X11_mayHave_27]
        rcases Nat.eq_zero_or_pos i with hi0 | hi0
        · subst hi0
          simp only [s_X11_mayHave_28, s_X11_mayHave_29, s_X11_mayHave_32, s_X11_mayHave_33, s_X11_mayHave_36, s_X11_mayHave_39, s_X11_mayHave_40, s_X11_mayHave_43, s_X11_mayHave_44, s_X11_mayHave_47, s_X11_mayHave_48, show ¬ (4 : Int32) ≤ 0 from by decide, p2, nI_0, List.getElem?_cons_zero, List.getElem?_cons_succ, ob1_s, b2_t, b2_f, z1, cI, List.set_cons_zero, List.set_cons_succ, List.length_cons, List.length_nil, Nat.reduceAdd, Nat.reduceLT, Nat.zero_lt_succ, Bool.false_and, Bool.and_false, Bool.true_and, Bool.and_true, Bool.false_eq_true, ck0, ck1, ck2, ck3, ck4, Option.toList_some, Option.toList_none, List.cons_append, List.nil_append, gf_hit, pf_hit, ai_hit, al_hit, ar_hit, ob_hit, if_true, if_false, reduceIte, reduceCtorEq]
        · simp only [s_X11_mayHave_28, s_X11_mayHave_29, s_X11_mayHave_32, s_X11_mayHave_33, s_X11_mayHave_36, s_X11_mayHave_39, s_X11_mayHave_40, s_X11_mayHave_43, s_X11_mayHave_44, s_X11_mayHave_47, s_X11_mayHave_48, hi4, p2, nI_ne0 hi0 (show i < 2 ^ 31 by omega), so2, hk, List.getElem?_cons_zero, List.getElem?_cons_succ, ob1_s, b2_t, b2_f, z1, cI, List.set_cons_zero, List.set_cons_succ, List.length_cons, List.length_nil, Nat.reduceAdd, Nat.reduceLT, Nat.zero_lt_succ, Bool.false_and, Bool.and_false, Bool.true_and, Bool.and_true, Bool.false_eq_true, ck0, ck1, ck2, ck3, ck4, Option.toList_some, Option.toList_none, List.cons_append, List.nil_append, gf_hit, pf_hit, ai_hit, al_hit, ar_hit, ob_hit, if_true, if_false, reduceIte, reduceCtorEq]
      cases cn : isN (aT A) (aL A) q 15
      · have e : thL (aT A) (aL A) (k + 1) i q s = (none, q) := by
          show (if _ then (if _ then _ else _) else _) = _
          rw [if_pos hk, cn]
          rfl
        rw [e]
        have pf := f2 cn
        have pf2 := pf.2
        rw [b2_f] at pf2
        refine ⟨h2, s ||| 0, ?_, s2, pf⟩
        rw [hgo]
        simp only [s_X11_mayHave_51, s_X11_mayHave_52, s_X11_mayHave_53, s_X11_mayHave_55, s_X11_mayHave_58, s_X11_mayHave_59, s_X11_mayHave_60, s_X11_mayHave_61, s_X11_mayHave_64, s_X11_mayHave_67, s_X11_mayHave_68, s_X11_mayHave_69, s_X11_mayHave_70, s_X11_mayHave_73, s_X11_mayHave_74, s_X11_mayHave_75, s_X11_mayHave_76, s_X11_mayHave_79, p.rc, e2, pf2, nI_1, List.getElem?_cons_zero, List.getElem?_cons_succ, ob1_s, b2_t, b2_f, z1, cI, List.set_cons_zero, List.set_cons_succ, List.length_cons, List.length_nil, Nat.reduceAdd, Nat.reduceLT, Nat.zero_lt_succ, Bool.false_and, Bool.and_false, Bool.true_and, Bool.and_true, Bool.false_eq_true, ck0, ck1, ck2, ck3, ck4, Option.toList_some, Option.toList_none, List.cons_append, List.nil_append, gf_hit, pf_hit, ai_hit, al_hit, ar_hit, ob_hit, if_true, if_false, reduceIte, reduceCtorEq]
        rw [s_X11_mayHave_27]
        by_cases h4 : (4 : Int32) ≤ nI (i + 1)
        · simp only [s_X11_mayHave_28, s_X11_mayHave_29, s_X11_mayHave_32, s_X11_mayHave_33, s_X11_mayHave_36, s_X11_mayHave_39, s_X11_mayHave_40, s_X11_mayHave_43, s_X11_mayHave_44, s_X11_mayHave_47, s_X11_mayHave_48, s_X11_mayHave_51, s_X11_mayHave_52, s_X11_mayHave_53, s_X11_mayHave_55, s_X11_mayHave_58, s_X11_mayHave_59, s_X11_mayHave_60, s_X11_mayHave_61, s_X11_mayHave_64, s_X11_mayHave_67, s_X11_mayHave_68, s_X11_mayHave_69, s_X11_mayHave_70, s_X11_mayHave_73, s_X11_mayHave_74, s_X11_mayHave_75, s_X11_mayHave_76, s_X11_mayHave_79, s_X11_mayHave_82, s_X11_mayHave_83, h4, List.getElem?_cons_zero, List.getElem?_cons_succ, ob1_s, b2_t, b2_f, z1, cI, List.set_cons_zero, List.set_cons_succ, List.length_cons, List.length_nil, Nat.reduceAdd, Nat.reduceLT, Nat.zero_lt_succ, Bool.false_and, Bool.and_false, Bool.true_and, Bool.and_true, Bool.false_eq_true, ck0, ck1, ck2, ck3, ck4, Option.toList_some, Option.toList_none, List.cons_append, List.nil_append, gf_hit, pf_hit, ai_hit, al_hit, ar_hit, ob_hit, if_true, if_false, reduceIte, reduceCtorEq]
        · simp only [s_X11_mayHave_28, s_X11_mayHave_29, s_X11_mayHave_32, s_X11_mayHave_33, s_X11_mayHave_36, s_X11_mayHave_39, s_X11_mayHave_40, s_X11_mayHave_43, s_X11_mayHave_44, s_X11_mayHave_47, s_X11_mayHave_48, s_X11_mayHave_51, s_X11_mayHave_52, s_X11_mayHave_53, s_X11_mayHave_55, s_X11_mayHave_58, s_X11_mayHave_59, s_X11_mayHave_60, s_X11_mayHave_61, s_X11_mayHave_64, s_X11_mayHave_67, s_X11_mayHave_68, s_X11_mayHave_69, s_X11_mayHave_70, s_X11_mayHave_73, s_X11_mayHave_74, s_X11_mayHave_75, s_X11_mayHave_76, s_X11_mayHave_79, s_X11_mayHave_82, s_X11_mayHave_83, h4, pf2, List.getElem?_cons_zero, List.getElem?_cons_succ, ob1_s, b2_t, b2_f, z1, cI, List.set_cons_zero, List.set_cons_succ, List.length_cons, List.length_nil, Nat.reduceAdd, Nat.reduceLT, Nat.zero_lt_succ, Bool.false_and, Bool.and_false, Bool.true_and, Bool.and_true, Bool.false_eq_true, ck0, ck1, ck2, ck3, ck4, Option.toList_some, Option.toList_none, List.cons_append, List.nil_append, gf_hit, pf_hit, ai_hit, al_hit, ar_hit, ob_hit, if_true, if_false, reduceIte, reduceCtorEq]
      · have e : thL (aT A) (aL A) (k + 1) i q s = thL (aT A) (aL A) k (i + 1) (en (aT A) (aL A) q) (s ||| so (nI (nm (aT A) (aL A) q))) := by
          show (if _ then (if _ then _ else _) else _) = _
          rw [if_pos hk, cn]
          rfl
        rw [e]
        obtain ⟨ev, pt⟩ := f1 cn
        have pt2 := pt.2
        rw [b2_t] at pt2
        have hnm := (isN_k cn).2
        subst ev
        obtain ⟨h5, v5, e5, s5, f5⟩ := lp_have hI k (i + 1) _ (s ||| so (nI (nm (aT A) (aL A) q))) h2 (some (.int (nI (nm (aT A) (aL A) q)))) (by omega) (en_q hq).2 pt
        refine ⟨h5, v5, ?_, s2.trans s5, f5⟩
        rw [← e5, hgo]
        simp only [s_X11_mayHave_51, s_X11_mayHave_52, s_X11_mayHave_53, s_X11_mayHave_55, s_X11_mayHave_58, s_X11_mayHave_59, s_X11_mayHave_60, s_X11_mayHave_61, s_X11_mayHave_64, s_X11_mayHave_67, s_X11_mayHave_68, s_X11_mayHave_69, s_X11_mayHave_70, s_X11_mayHave_73, s_X11_mayHave_74, s_X11_mayHave_75, s_X11_mayHave_76, s_X11_mayHave_79, p.rc, e2, pt2, so_nI (show nm (aT A) (aL A) q < 16 by omega), nI_1, List.getElem?_cons_zero, List.getElem?_cons_succ, ob1_s, b2_t, b2_f, z1, cI, List.set_cons_zero, List.set_cons_succ, List.length_cons, List.length_nil, Nat.reduceAdd, Nat.reduceLT, Nat.zero_lt_succ, Bool.false_and, Bool.and_false, Bool.true_and, Bool.and_true, Bool.false_eq_true, ck0, ck1, ck2, ck3, ck4, Option.toList_some, Option.toList_none, List.cons_append, List.nil_append, gf_hit, pf_hit, ai_hit, al_hit, ar_hit, ob_hit, if_true, if_false, reduceIte, reduceCtorEq]
    · rcases Nat.eq_zero_or_pos i with hi0 | hi0
      · subst hi0
        have e : thL (aT A) (aL A) (k + 1) 0 q s = (none, q) := by
          show (if _ then _ else (if _ then _ else _)) = _
          rw [if_neg hk]
          rfl
        have cn : isN (aT A) (aL A) q 15 = false := decide_eq_false (fun z => hk z.1)
        rw [e]
        have pf := f2 cn
        have pf2 := pf.2
        rw [b2_f] at pf2
        refine ⟨h2, s ||| 0, ?_, s2, pf⟩
        rw [s_X11_mayHave_27]
        simp only [s_X11_mayHave_28, s_X11_mayHave_29, s_X11_mayHave_32, s_X11_mayHave_33, s_X11_mayHave_36, s_X11_mayHave_39, s_X11_mayHave_40, s_X11_mayHave_43, s_X11_mayHave_44, s_X11_mayHave_47, s_X11_mayHave_48, s_X11_mayHave_51, s_X11_mayHave_52, s_X11_mayHave_53, s_X11_mayHave_55, s_X11_mayHave_58, s_X11_mayHave_59, s_X11_mayHave_60, s_X11_mayHave_61, s_X11_mayHave_64, s_X11_mayHave_67, s_X11_mayHave_68, s_X11_mayHave_69, s_X11_mayHave_70, s_X11_mayHave_73, s_X11_mayHave_74, s_X11_mayHave_75, s_X11_mayHave_76, s_X11_mayHave_79, show ¬ (4 : Int32) ≤ 0 from by decide, p2, nI_0, p.rc, e2, pf2, show (0 : Int32) + 1 = 1 from rfl, List.getElem?_cons_zero, List.getElem?_cons_succ, ob1_s, b2_t, b2_f, z1, cI, List.set_cons_zero, List.set_cons_succ, List.length_cons, List.length_nil, Nat.reduceAdd, Nat.reduceLT, Nat.zero_lt_succ, Bool.false_and, Bool.and_false, Bool.true_and, Bool.and_true, Bool.false_eq_true, ck0, ck1, ck2, ck3, ck4, Option.toList_some, Option.toList_none, List.cons_append, List.nil_append, gf_hit, pf_hit, ai_hit, al_hit, ar_hit, ob_hit, if_true, if_false, reduceIte, reduceCtorEq]
        rw [s_X11_mayHave_27]
        simp only [s_X11_mayHave_28, s_X11_mayHave_29, s_X11_mayHave_32, s_X11_mayHave_33, s_X11_mayHave_36, s_X11_mayHave_39, s_X11_mayHave_40, s_X11_mayHave_43, s_X11_mayHave_44, s_X11_mayHave_47, s_X11_mayHave_48, s_X11_mayHave_51, s_X11_mayHave_52, s_X11_mayHave_53, s_X11_mayHave_55, s_X11_mayHave_58, s_X11_mayHave_59, s_X11_mayHave_60, s_X11_mayHave_61, s_X11_mayHave_64, s_X11_mayHave_67, s_X11_mayHave_68, s_X11_mayHave_69, s_X11_mayHave_70, s_X11_mayHave_73, s_X11_mayHave_74, s_X11_mayHave_75, s_X11_mayHave_76, s_X11_mayHave_79, s_X11_mayHave_82, s_X11_mayHave_83, show ¬ (4 : Int32) ≤ 1 from by decide, pf2, List.getElem?_cons_zero, List.getElem?_cons_succ, ob1_s, b2_t, b2_f, z1, cI, List.set_cons_zero, List.set_cons_succ, List.length_cons, List.length_nil, Nat.reduceAdd, Nat.reduceLT, Nat.zero_lt_succ, Bool.false_and, Bool.and_false, Bool.true_and, Bool.and_true, Bool.false_eq_true, ck0, ck1, ck2, ck3, ck4, Option.toList_some, Option.toList_none, List.cons_append, List.nil_append, gf_hit, pf_hit, ai_hit, al_hit, ar_hit, ob_hit, if_true, if_false, reduceIte, reduceCtorEq]
      · have e : thL (aT A) (aL A) (k + 1) i q s = (some s, q) := by
          show (if _ then _ else (if _ then _ else _)) = _
          rw [if_neg hk, if_pos hi0]
        rw [e]
        refine ⟨h, s, ?_, KP.refl, rfl, p⟩
        rw [s_X11_mayHave_27]
        simp only [s_X11_mayHave_28, s_X11_mayHave_29, s_X11_mayHave_32, s_X11_mayHave_33, s_X11_mayHave_36, s_X11_mayHave_39, s_X11_mayHave_40, s_X11_mayHave_43, s_X11_mayHave_44, s_X11_mayHave_47, s_X11_mayHave_48, s_X11_mayHave_51, s_X11_mayHave_52, s_X11_mayHave_53, s_X11_mayHave_55, s_X11_mayHave_58, s_X11_mayHave_59, s_X11_mayHave_60, s_X11_mayHave_61, s_X11_mayHave_64, s_X11_mayHave_67, s_X11_mayHave_68, s_X11_mayHave_69, s_X11_mayHave_70, s_X11_mayHave_73, s_X11_mayHave_74, s_X11_mayHave_75, s_X11_mayHave_76, s_X11_mayHave_79, s_X11_mayHave_82, s_X11_mayHave_83, hi4, p2, nI_ne0 hi0 (show i < 2 ^ 31 by omega), so2, hk, List.getElem?_cons_zero, List.getElem?_cons_succ, ob1_s, b2_t, b2_f, z1, cI, List.set_cons_zero, List.set_cons_succ, List.length_cons, List.length_nil, Nat.reduceAdd, Nat.reduceLT, Nat.zero_lt_succ, Bool.false_and, Bool.and_false, Bool.true_and, Bool.and_true, Bool.false_eq_true, ck0, ck1, ck2, ck3, ck4, Option.toList_some, Option.toList_none, List.cons_append, List.nil_append, gf_hit, pf_hit, ai_hit, al_hit, ar_hit, ob_hit, if_true, if_false, reduceIte, reduceCtorEq]
theorem pm_mayHave (p : PM h A q true) (hI : AI A) (hq : q ≤ aL A) : ∃ h1 v, call sc (d + 4) MX11_mayHave [.ref 42] h = some (some (.int v), h1) ∧ KP h h1 ∧ (match pHav (aT A) (aL A) q with
    | (none, r) => PM h1 A r false
    | (some u, r) => u = v ∧ PM h1 A r true) := by
  have bw := pm_isWord (sc := sc) (d := d + 3) p (w := 7) (by decide) wc7
  have p2 := p.2
  rw [b2_t] at p2
  unfold pHav
  cases cw : isW (aT A) (aL A) 7 q
  · rw [cw] at bw
    refine ⟨h, 0, ?_, KP.refl, rfl, p⟩
    simp only [c_X11_mayHave, s_X11_mayHave_0, s_X11_mayHave_1, s_X11_mayHave_4, s_X11_mayHave_7, s_X11_mayHave_8, s_X11_mayHave_11, s_X11_mayHave_14, s_X11_mayHave_17, s_X11_mayHave_18, s_X11_mayHave_19, s_X11_mayHave_20, s_X11_mayHave_23, s_X11_mayHave_24, s_X11_mayHave_25, s_X11_mayHave_26, p2, p.rc, bw, List.getElem?_cons_zero, List.getElem?_cons_succ, ob1_s, b2_t, b2_f, z1, cI, List.set_cons_zero, List.set_cons_succ, List.length_cons, List.length_nil, Nat.reduceAdd, Nat.reduceLT, Nat.zero_lt_succ, Bool.false_and, Bool.and_false, Bool.true_and, Bool.and_true, Bool.false_eq_true, ck0, ck1, ck2, ck3, ck4, Option.toList_some, Option.toList_none, List.cons_append, List.nil_append, gf_hit, pf_hit, ai_hit, al_hit, ar_hit, ob_hit, if_true, if_false, reduceIte, reduceCtorEq]
  · rw [cw] at bw
    obtain ⟨h1, e1, p1, s1⟩ := pm_advance (sc := sc) (d := d + 1) p hI hq
    obtain ⟨h2, v, e2, s2, f2⟩ := lp_have (sc := sc) (d := d) hI 4 0 _ 0 h1 none (by omega) (en_q hq).2 p1
    rw [if_pos rfl]
    refine ⟨h2, v, ?_, s1.trans s2, f2⟩
    simp only [c_X11_mayHave, s_X11_mayHave_0, s_X11_mayHave_1, s_X11_mayHave_4, s_X11_mayHave_7, s_X11_mayHave_8, s_X11_mayHave_11, s_X11_mayHave_14, s_X11_mayHave_17, s_X11_mayHave_18, s_X11_mayHave_19, s_X11_mayHave_20, s_X11_mayHave_23, s_X11_mayHave_24, s_X11_mayHave_25, s_X11_mayHave_26, p2, p.rc, bw, e1, List.getElem?_cons_zero, List.getElem?_cons_succ, ob1_s, b2_t, b2_f, z1, cI, List.set_cons_zero, List.set_cons_succ, List.length_cons, List.length_nil, Nat.reduceAdd, Nat.reduceLT, Nat.zero_lt_succ, Bool.false_and, Bool.and_false, Bool.true_and, Bool.and_true, Bool.false_eq_true, ck0, ck1, ck2, ck3, ck4, Option.toList_some, Option.toList_none, List.cons_append, List.nil_append, gf_hit, pf_hit, ai_hit, al_hit, ar_hit, ob_hit, if_true, if_false, reduceIte, reduceCtorEq]
    exact e2
end
