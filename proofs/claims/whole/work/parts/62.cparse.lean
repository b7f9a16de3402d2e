/-! THE CLASS'S READER: the grammar -/
/-- the reader stands at the token from q on -/
def RA (h : mx_G) (A : AS) (q : Nat) : Prop := ∃ n, h.1 31 = some (.inr (8, [.ref 29, .ref 15, .int (nI (kd (aT A) (aL A) q)), .int (nI (sk (aT A) (aL A) q)), .int (nI (en (aT A) (aL A) q)), .int (n)])) ∧ (kd (aT A) (aL A) q = 2 → n = nI (nm (aT A) (aL A) q))
def PC (h : mx_G) (A : AS) (q : Nat) (T : Fam) : Prop := CA h A ∧ FA h 15 T ∧ FI T ∧ RA h A q
theorem nmL_le {t : Nat → Int32} : ∀ (k q v : Nat), v ≤ 1000 → nmL t k q v ≤ 1000
  | 0, _, _, h => h
  | k + 1, q, v, h => by
    unfold nmL
    split
    · exact nmL_le k (q + 1) _ (by omega)
    · exact h
theorem nm_le {t : Nat → Int32} {L q : Nat} : nm t L q ≤ 1000 := nmL_le _ _ 0 (by omega)
theorem upd_upd {f : Nat → Int32} {i : Nat} {v w : Int32} : upd (upd f i v) i w = upd f i w := funext fun j => by
  by_cases e : j = i
  · subst e; rw [pk_us, pk_us]
  · rw [pk_un e, pk_un e, pk_un e]
theorem add_a {F : Fam} {n : Nat} {k a s c v : Int32} : wa (addF F n k a s c) (upd (ga (addF F n k a s c)) n v) = addF F n k v s c := by
  have e : upd (ga (addF F n k a s c)) n v = upd (ga F) n v := upd_upd
  rw [e]
  rfl
theorem add_p {F : Fam} {n : Nat} {k a s c v : Int32} : wp (addF F n k a s c) (upd (gp (addF F n k a s c)) n v) = addF F n k a v c := by
  have e : upd (gp (addF F n k a s c)) n v = upd (gp F) n v := upd_upd
  rw [e]
  rfl
theorem add_c {F : Fam} {n : Nat} {k a s c v : Int32} : wc (addF F n k a s c) (upd (gc (addF F n k a s c)) n v) = addF F n k a s v := by
  have e : upd (gc (addF F n k a s c)) n v = upd (gc F) n v := upd_upd
  rw [e]
  rfl
theorem add_gp {F : Fam} {n : Nat} {k a s c : Int32} : gp (addF F n k a s c) n = s := pk_us
section
variable {sc : mx_X} {d : Nat} {h : mx_G} {A : AS} {q : Nat} {T G : Fam}
theorem CA.rd (x : CA h A) {a b c e : Int32} : CA (mx_up h 31 (.inr (8, [.ref 29, .ref 15, .int a, .int b, .int c, .int e]))) A := by
  obtain ⟨⟨T, x2, x3⟩, x4, x5, x6⟩ := x
  have s : same 0 31 h (mx_up h 31 (.inr (8, [.ref 29, .ref 15, .int a, .int b, .int c, .int e]))) := same.up (by omega)
  refine ⟨⟨T, x2, x3.tr s (by omega) (by omega)⟩, x4.tr s (by omega) (by omega), x5.tr s (by omega) (by omega), ?_⟩
  obtain ⟨y0, y1, y2, y3, _, y5, y6, y7, y8⟩ := x6
  exact ⟨by rw [up_o (by decide)]; exact y0, y1.tr s (by omega), by rw [up_o (by decide)]; exact y2, by rw [up_o (by decide)]; exact y3, ⟨a, b, c, e, up_at⟩, by rw [up_o (by decide)]; exact y5, fun i hi => ⟨by rw [up_o (by omega)]; exact (y6 i hi).1, by rw [up_o (by omega)]; exact (y6 i hi).2⟩, by rw [up_o (by decide)]; exact y7, fun j hj => (s.far j hj).trans (y8 j hj)⟩
theorem PC.rc (p : PC h A q T) : mx_rc h 31 = some 8 := by
  obtain ⟨n, e, _⟩ := p.2.2.2
  exact rc_hit e
theorem PC.num (p : PC h A q T) (hk : kd (aT A) (aL A) q = 2) : h.1 31 = some (.inr (8, [.ref 29, .ref 15, .int (nI (kd (aT A) (aL A) q)), .int (nI (sk (aT A) (aL A) q)), .int (nI (en (aT A) (aL A) q)), .int (nI (nm (aT A) (aL A) q))])) := by
  obtain ⟨n, e, hn⟩ := p.2.2.2
  rw [← hn hk]
  exact e
theorem PC.put (p : PC h A q T) (hG : FI G) : PC (putF h 15 G) A q G := by
  obtain ⟨x, y, z, n, e, hn⟩ := p
  exact ⟨x.t hG, FA.of, hG, n, (pF_o (by omega)).trans e, hn⟩
theorem pc_next (p : PC h A q T) (hI : AI A) (hq : q ≤ aL A) : ∃ h1, call sc (d + 2) MX8_next [.ref 31] h = some (none, h1) ∧ PC h1 A (en (aT A) (aL A) q) T ∧ same 42 54 h h1 := by
  obtain ⟨x, y, z, n, e, hn⟩ := p
  have hL := hI.2.2.1
  have h1 := en_q (t := aT A) hq
  have e1 := sp_next (sc := sc) (d := d) (a := nI (kd (aT A) (aL A) q)) (b := nI (sk (aT A) (aL A) q)) (n := n) x.th hL (q := en (aT A) (aL A) q) h1.2
  rw [up_self e] at e1
  exact ⟨_, e1, ⟨x.rd, y.tr (same.up (a := 0) (b := 31) (by omega)) (by omega) (by omega), z, _, up_at, fun hk => if_pos hk⟩, same.up (by omega)⟩
theorem pc_isNumber (p : PC h A q T) {m : Nat} (hm : m < 2 ^ 31) : call sc d MX8_isNumber [.ref 31, .int (nI m)] h = some (some (.int (b2 (isN (aT A) (aL A) q m))), h) := by
  by_cases hk : kd (aT A) (aL A) q = 2
  · have e := p.num hk
    rw [hk] at e
    have hle := nm_le (t := aT A) (L := aL A) (q := q)
    by_cases h2 : nm (aT A) (aL A) q ≤ m
    · have h3 : isN (aT A) (aL A) q m = true := decide_eq_true ⟨hk, h2⟩
      have h4 : ¬ nI m < nI (nm (aT A) (aL A) q) := nI_nlt h2 hm
      simp only [c_X8_isNumber, s_X8_isNumber_0, s_X8_isNumber_1, s_X8_isNumber_4, s_X8_isNumber_5, s_X8_isNumber_8, s_X8_isNumber_9, s_X8_isNumber_12, s_X8_isNumber_13, s_X8_isNumber_16, s_X8_isNumber_17, s_X8_isNumber_20, s_X8_isNumber_21, s_X8_isNumber_21_0, s_X8_isNumber_21_1, e, show (nI 2 : Int32) = 2 from rfl, h3, h4, List.getElem?_cons_zero, List.getElem?_cons_succ, ob1_s, b2_t, b2_f, z1, cI, List.set_cons_zero, List.set_cons_succ, List.length_cons, List.length_nil, Nat.reduceAdd, Nat.reduceLT, Nat.zero_lt_succ, Bool.false_and, Bool.and_false, Bool.true_and, Bool.and_true, Bool.false_eq_true, ck0, ck1, ck2, ck3, ck4, Option.toList_some, Option.toList_none, List.cons_append, List.nil_append, gf_hit, pf_hit, ai_hit, al_hit, ar_hit, ob_hit, if_true, if_false, reduceIte, reduceCtorEq]
    · have h3 : isN (aT A) (aL A) q m = false := decide_eq_false (fun w => h2 w.2)
      have h4 : nI m < nI (nm (aT A) (aL A) q) := nI_lt (by omega) (by omega)
      simp only [c_X8_isNumber, s_X8_isNumber_0, s_X8_isNumber_1, s_X8_isNumber_4, s_X8_isNumber_5, s_X8_isNumber_8, s_X8_isNumber_9, s_X8_isNumber_12, s_X8_isNumber_13, s_X8_isNumber_16, s_X8_isNumber_17, s_X8_isNumber_20, s_X8_isNumber_21, s_X8_isNumber_21_0, s_X8_isNumber_21_1, e, show (nI 2 : Int32) = 2 from rfl, h3, h4, List.getElem?_cons_zero, List.getElem?_cons_succ, ob1_s, b2_t, b2_f, z1, cI, List.set_cons_zero, List.set_cons_succ, List.length_cons, List.length_nil, Nat.reduceAdd, Nat.reduceLT, Nat.zero_lt_succ, Bool.false_and, Bool.and_false, Bool.true_and, Bool.and_true, Bool.false_eq_true, ck0, ck1, ck2, ck3, ck4, Option.toList_some, Option.toList_none, List.cons_append, List.nil_append, gf_hit, pf_hit, ai_hit, al_hit, ar_hit, ob_hit, if_true, if_false, reduceIte, reduceCtorEq]
  · obtain ⟨n, e, hn⟩ := p.2.2.2
    have h3 : isN (aT A) (aL A) q m = false := decide_eq_false (fun w => hk w.1)
    have hk4 : kd (aT A) (aL A) q ≤ 4 := by unfold kd; (repeat' split) <;> omega
    have h5 : ¬ nI (kd (aT A) (aL A) q) = 2 := fun w => hk ((nI_eq (a := kd (aT A) (aL A) q) (b := 2) (by omega) (by decide)).mp w)
    simp only [c_X8_isNumber, s_X8_isNumber_0, s_X8_isNumber_1, s_X8_isNumber_4, s_X8_isNumber_5, s_X8_isNumber_8, s_X8_isNumber_9, s_X8_isNumber_12, s_X8_isNumber_13, s_X8_isNumber_16, s_X8_isNumber_17, s_X8_isNumber_20, s_X8_isNumber_21, s_X8_isNumber_21_0, s_X8_isNumber_21_1, e, h3, h5, List.getElem?_cons_zero, List.getElem?_cons_succ, ob1_s, b2_t, b2_f, z1, cI, List.set_cons_zero, List.set_cons_succ, List.length_cons, List.length_nil, Nat.reduceAdd, Nat.reduceLT, Nat.zero_lt_succ, Bool.false_and, Bool.and_false, Bool.true_and, Bool.and_true, Bool.false_eq_true, ck0, ck1, ck2, ck3, ck4, Option.toList_some, Option.toList_none, List.cons_append, List.nil_append, gf_hit, pf_hit, ai_hit, al_hit, ar_hit, ob_hit, if_true, if_false, reduceIte, reduceCtorEq]
theorem kd_4 {t : Nat → Int32} {L q : Nat} : kd t L q ≤ 4 := by unfold kd; (repeat' split) <;> omega
theorem kdI {t : Nat → Int32} {L q m : Nat} (hm : m ≤ 4) : (nI (kd t L q) = nI m) = (kd t L q = m) := by
  have := kd_4 (t := t) (L := L) (q := q)
  exact propext (nI_eq (by omega) (by omega))
theorem pc_isWord (p : PC h A q T) (hI : AI A) (hq : q ≤ aL A) {w : Nat} (hw : w < 11) : call sc (d + 5) MX8_isWord [.ref 31, .ref (1000 + w)] h = some (some (.int (b2 (isW (aT A) (aL A) w q))), h) := by
  obtain ⟨n, e, hn⟩ := p.2.2.2
  have hL := hI.2.2.1
  have hz : ∀ j, 1000 ≤ j → h.1 j = none := fun j hj => p.1.far hj
  have hw9 := wd_n w hw
  by_cases hk : kd (aT A) (aL A) q = 1
  · have hs := sk_le (t := aT A) hq
    have he := en_le (t := aT A) hq
    have hlet := kd1_let hk
    rw [hk] at e
    have esub : nI (en (aT A) (aL A) q) - nI (sk (aT A) (aL A) q) = nI (en (aT A) (aL A) q - sk (aT A) (aL A) q) := pk_sub he.1
    by_cases hlen : en (aT A) (aL A) q - sk (aT A) (aL A) q = wdN w
    · have hl := lp_isWord (sc := sc) (d := d) (fr := [.int (nI (en (aT A) (aL A) q)), .int n]) (w := w) (s := sk (aT A) (aL A) q) p.1.th e hz hw (by omega) (wdN w) 0 (by omega)
      have hb : decide (∀ i, i < wdN w → aT A (sk (aT A) (aL A) q + (0 + i)) = wdB w (0 + i)) = isW (aT A) (aL A) w q := by
        unfold isW
        apply decide_eq_decide.mpr
        rw [hlen]
        rw [hlen] at hlet
        have hq2 := rlF_eq (f := aT A) (g := wdB w) (s := sk (aT A) (aL A) q) (u := 0) (wdN w) hlet (wd_lt w hw)
        constructor
        · intro h1
          refine ⟨hk, hq2.mpr (fun j hj => ?_)⟩
          have := h1 j hj
          rw [Nat.zero_add] at this ⊢
          exact this
        · intro h1 i hi
          have := hq2.mp h1.2 i hi
          rw [Nat.zero_add] at this ⊢
          exact this
      rw [hb] at hl
      simp only [c_X8_isWord, s_X8_isWord_0, s_X8_isWord_1, s_X8_isWord_4, s_X8_isWord_5, s_X8_isWord_8, s_X8_isWord_9, s_X8_isWord_12, s_X8_isWord_13, s_X8_isWord_16, s_X8_isWord_17, s_X8_isWord_18, s_X8_isWord_21, s_X8_isWord_24, s_X8_isWord_25, s_X8_isWord_25_0, s_X8_isWord_25_1, s_X8_isWord_26, s_X8_isWord_27, e, show (nI 1 : Int32) = 1 from rfl, st_rc hz hw, sp_length hz hw, esub, hlen, List.getElem?_cons_zero, List.getElem?_cons_succ, ob1_s, b2_t, b2_f, z1, cI, List.set_cons_zero, List.set_cons_succ, List.length_cons, List.length_nil, Nat.reduceAdd, Nat.reduceLT, Nat.zero_lt_succ, Bool.false_and, Bool.and_false, Bool.true_and, Bool.and_true, Bool.false_eq_true, ck0, ck1, ck2, ck3, ck4, Option.toList_some, Option.toList_none, List.cons_append, List.nil_append, gf_hit, pf_hit, ai_hit, al_hit, ar_hit, ob_hit, if_true, if_false, reduceIte, reduceCtorEq]
      exact hl
    · have h3 : isW (aT A) (aL A) w q = false := by
        unfold isW
        apply decide_eq_false
        intro h1
        have := congrArg List.length h1.2
        unfold wdR at this
        rw [rlF_len, rlF_len] at this
        exact hlen this
      have h4 : ¬ nI (en (aT A) (aL A) q - sk (aT A) (aL A) q) = nI (wdN w) := fun w2 => hlen ((nI_eq (by omega) (by omega)).mp w2)
      simp only [c_X8_isWord, s_X8_isWord_0, s_X8_isWord_1, s_X8_isWord_4, s_X8_isWord_5, s_X8_isWord_8, s_X8_isWord_9, s_X8_isWord_12, s_X8_isWord_13, s_X8_isWord_16, s_X8_isWord_17, s_X8_isWord_18, s_X8_isWord_21, s_X8_isWord_24, s_X8_isWord_25, s_X8_isWord_25_0, s_X8_isWord_25_1, s_X8_isWord_26, s_X8_isWord_27, e, show (nI 1 : Int32) = 1 from rfl, st_rc hz hw, sp_length hz hw, esub, h4, h3, List.getElem?_cons_zero, List.getElem?_cons_succ, ob1_s, b2_t, b2_f, z1, cI, List.set_cons_zero, List.set_cons_succ, List.length_cons, List.length_nil, Nat.reduceAdd, Nat.reduceLT, Nat.zero_lt_succ, Bool.false_and, Bool.and_false, Bool.true_and, Bool.and_true, Bool.false_eq_true, ck0, ck1, ck2, ck3, ck4, Option.toList_some, Option.toList_none, List.cons_append, List.nil_append, gf_hit, pf_hit, ai_hit, al_hit, ar_hit, ob_hit, if_true, if_false, reduceIte, reduceCtorEq]
  · have h3 : isW (aT A) (aL A) w q = false := decide_eq_false (fun w2 => hk w2.1)
    have h5 : ¬ nI (kd (aT A) (aL A) q) = 1 := fun w2 => hk ((kdI (m := 1) (by omega)).mp w2)
    simp only [c_X8_isWord, s_X8_isWord_0, s_X8_isWord_1, s_X8_isWord_4, s_X8_isWord_5, s_X8_isWord_8, s_X8_isWord_9, s_X8_isWord_12, s_X8_isWord_13, s_X8_isWord_16, s_X8_isWord_17, s_X8_isWord_18, s_X8_isWord_21, s_X8_isWord_24, s_X8_isWord_25, s_X8_isWord_25_0, s_X8_isWord_25_1, s_X8_isWord_26, s_X8_isWord_27, e, h5, h3, List.getElem?_cons_zero, List.getElem?_cons_succ, ob1_s, b2_t, b2_f, z1, cI, List.set_cons_zero, List.set_cons_succ, List.length_cons, List.length_nil, Nat.reduceAdd, Nat.reduceLT, Nat.zero_lt_succ, Bool.false_and, Bool.and_false, Bool.true_and, Bool.and_true, Bool.false_eq_true, ck0, ck1, ck2, ck3, ck4, Option.toList_some, Option.toList_none, List.cons_append, List.nil_append, gf_hit, pf_hit, ai_hit, al_hit, ar_hit, ob_hit, if_true, if_false, reduceIte, reduceCtorEq]
theorem sp_name {k : Nat} (hk : k < 6) : call sc d MX8_nameOfKind [.int (nI k)] h = some (some (.ref (1000 + k)), h) := by
  rcases six hk with rfl | rfl | rfl | rfl | rfl | rfl
  · simp only [c_X8_nameOfKind, s_X8_nameOfKind_0, s_X8_nameOfKind_1_0, s_X8_nameOfKind_1_1, s_X8_nameOfKind_1_2, s_X8_nameOfKind_1_3, s_X8_nameOfKind_1_4, s_X8_nameOfKind_36, s_X8_nameOfKind_38, s_X8_nameOfKind_39, s_X8_nameOfKind_41, s_X8_nameOfKind_42, s_X8_nameOfKind_44, s_X8_nameOfKind_45, s_X8_nameOfKind_47, s_X8_nameOfKind_48, s_X8_nameOfKind_50, s_X8_nameOfKind_51, s_X8_nameOfKind_53, show (nI 0 : Int32) = 0 from rfl, List.getElem?_cons_zero, List.getElem?_cons_succ, ob1_s, b2_t, b2_f, z1, cI, List.set_cons_zero, List.set_cons_succ, List.length_cons, List.length_nil, Nat.reduceAdd, Nat.reduceLT, Nat.zero_lt_succ, Bool.false_and, Bool.and_false, Bool.true_and, Bool.and_true, Bool.false_eq_true, ck0, ck1, ck2, ck3, ck4, Option.toList_some, Option.toList_none, List.cons_append, List.nil_append, gf_hit, pf_hit, ai_hit, al_hit, ar_hit, ob_hit, if_true, if_false, reduceIte, reduceCtorEq]
  · simp only [c_X8_nameOfKind, s_X8_nameOfKind_0, s_X8_nameOfKind_1_0, s_X8_nameOfKind_1_1, s_X8_nameOfKind_1_2, s_X8_nameOfKind_1_3, s_X8_nameOfKind_1_4, s_X8_nameOfKind_36, s_X8_nameOfKind_38, s_X8_nameOfKind_39, s_X8_nameOfKind_41, s_X8_nameOfKind_42, s_X8_nameOfKind_44, s_X8_nameOfKind_45, s_X8_nameOfKind_47, s_X8_nameOfKind_48, s_X8_nameOfKind_50, s_X8_nameOfKind_51, s_X8_nameOfKind_53, show (nI 1 : Int32) = 1 from rfl, List.getElem?_cons_zero, List.getElem?_cons_succ, ob1_s, b2_t, b2_f, z1, cI, List.set_cons_zero, List.set_cons_succ, List.length_cons, List.length_nil, Nat.reduceAdd, Nat.reduceLT, Nat.zero_lt_succ, Bool.false_and, Bool.and_false, Bool.true_and, Bool.and_true, Bool.false_eq_true, ck0, ck1, ck2, ck3, ck4, Option.toList_some, Option.toList_none, List.cons_append, List.nil_append, gf_hit, pf_hit, ai_hit, al_hit, ar_hit, ob_hit, if_true, if_false, reduceIte, reduceCtorEq]
  · simp only [c_X8_nameOfKind, s_X8_nameOfKind_0, s_X8_nameOfKind_1_0, s_X8_nameOfKind_1_1, s_X8_nameOfKind_1_2, s_X8_nameOfKind_1_3, s_X8_nameOfKind_1_4, s_X8_nameOfKind_36, s_X8_nameOfKind_38, s_X8_nameOfKind_39, s_X8_nameOfKind_41, s_X8_nameOfKind_42, s_X8_nameOfKind_44, s_X8_nameOfKind_45, s_X8_nameOfKind_47, s_X8_nameOfKind_48, s_X8_nameOfKind_50, s_X8_nameOfKind_51, s_X8_nameOfKind_53, show (nI 2 : Int32) = 2 from rfl, List.getElem?_cons_zero, List.getElem?_cons_succ, ob1_s, b2_t, b2_f, z1, cI, List.set_cons_zero, List.set_cons_succ, List.length_cons, List.length_nil, Nat.reduceAdd, Nat.reduceLT, Nat.zero_lt_succ, Bool.false_and, Bool.and_false, Bool.true_and, Bool.and_true, Bool.false_eq_true, ck0, ck1, ck2, ck3, ck4, Option.toList_some, Option.toList_none, List.cons_append, List.nil_append, gf_hit, pf_hit, ai_hit, al_hit, ar_hit, ob_hit, if_true, if_false, reduceIte, reduceCtorEq]
  · simp only [c_X8_nameOfKind, s_X8_nameOfKind_0, s_X8_nameOfKind_1_0, s_X8_nameOfKind_1_1, s_X8_nameOfKind_1_2, s_X8_nameOfKind_1_3, s_X8_nameOfKind_1_4, s_X8_nameOfKind_36, s_X8_nameOfKind_38, s_X8_nameOfKind_39, s_X8_nameOfKind_41, s_X8_nameOfKind_42, s_X8_nameOfKind_44, s_X8_nameOfKind_45, s_X8_nameOfKind_47, s_X8_nameOfKind_48, s_X8_nameOfKind_50, s_X8_nameOfKind_51, s_X8_nameOfKind_53, show (nI 3 : Int32) = 3 from rfl, List.getElem?_cons_zero, List.getElem?_cons_succ, ob1_s, b2_t, b2_f, z1, cI, List.set_cons_zero, List.set_cons_succ, List.length_cons, List.length_nil, Nat.reduceAdd, Nat.reduceLT, Nat.zero_lt_succ, Bool.false_and, Bool.and_false, Bool.true_and, Bool.and_true, Bool.false_eq_true, ck0, ck1, ck2, ck3, ck4, Option.toList_some, Option.toList_none, List.cons_append, List.nil_append, gf_hit, pf_hit, ai_hit, al_hit, ar_hit, ob_hit, if_true, if_false, reduceIte, reduceCtorEq]
  · simp only [c_X8_nameOfKind, s_X8_nameOfKind_0, s_X8_nameOfKind_1_0, s_X8_nameOfKind_1_1, s_X8_nameOfKind_1_2, s_X8_nameOfKind_1_3, s_X8_nameOfKind_1_4, s_X8_nameOfKind_36, s_X8_nameOfKind_38, s_X8_nameOfKind_39, s_X8_nameOfKind_41, s_X8_nameOfKind_42, s_X8_nameOfKind_44, s_X8_nameOfKind_45, s_X8_nameOfKind_47, s_X8_nameOfKind_48, s_X8_nameOfKind_50, s_X8_nameOfKind_51, s_X8_nameOfKind_53, show (nI 4 : Int32) = 4 from rfl, List.getElem?_cons_zero, List.getElem?_cons_succ, ob1_s, b2_t, b2_f, z1, cI, List.set_cons_zero, List.set_cons_succ, List.length_cons, List.length_nil, Nat.reduceAdd, Nat.reduceLT, Nat.zero_lt_succ, Bool.false_and, Bool.and_false, Bool.true_and, Bool.and_true, Bool.false_eq_true, ck0, ck1, ck2, ck3, ck4, Option.toList_some, Option.toList_none, List.cons_append, List.nil_append, gf_hit, pf_hit, ai_hit, al_hit, ar_hit, ob_hit, if_true, if_false, reduceIte, reduceCtorEq]
  · simp only [c_X8_nameOfKind, s_X8_nameOfKind_0, s_X8_nameOfKind_1_0, s_X8_nameOfKind_1_1, s_X8_nameOfKind_1_2, s_X8_nameOfKind_1_3, s_X8_nameOfKind_1_4, s_X8_nameOfKind_36, s_X8_nameOfKind_38, s_X8_nameOfKind_39, s_X8_nameOfKind_41, s_X8_nameOfKind_42, s_X8_nameOfKind_44, s_X8_nameOfKind_45, s_X8_nameOfKind_47, s_X8_nameOfKind_48, s_X8_nameOfKind_50, s_X8_nameOfKind_51, s_X8_nameOfKind_53, show (nI 5 : Int32) = 5 from rfl, s_X8_nameOfKind_1_d (show (5 : Int32).toInt < 0 ∨ 4 < (5 : Int32).toInt from by decide), List.getElem?_cons_zero, List.getElem?_cons_succ, ob1_s, b2_t, b2_f, z1, cI, List.set_cons_zero, List.set_cons_succ, List.length_cons, List.length_nil, Nat.reduceAdd, Nat.reduceLT, Nat.zero_lt_succ, Bool.false_and, Bool.and_false, Bool.true_and, Bool.and_true, Bool.false_eq_true, ck0, ck1, ck2, ck3, ck4, Option.toList_some, Option.toList_none, List.cons_append, List.nil_append, gf_hit, pf_hit, ai_hit, al_hit, ar_hit, ob_hit, if_true, if_false, reduceIte, reduceCtorEq]
/-- the first kind from k on that is named -/
def knL (t : Nat → Int32) (L q : Nat) : Nat → Nat → Int32
  | 0, _ => -1
  | j + 1, k => if isW t L k q = true then nI k else knL t L q j (k + 1)
theorem lp_kind (p : PC h A q T) (hI : AI A) (hq : q ≤ aL A) : ∀ (j k : Nat), k + j = 6 → den sc (d + 6) MX8_kindNamed 2 [some (.ref 31), some (.int (nI k))] [] h = some (some (.int (knL (aT A) (aL A) q j k)), h)
  | 0, k, hk => by
    obtain rfl : k = 6 := by omega
    rw [s_X8_kindNamed_2]
    simp only [s_X8_kindNamed_0, s_X8_kindNamed_1, s_X8_kindNamed_3, s_X8_kindNamed_5, s_X8_kindNamed_8, s_X8_kindNamed_9, s_X8_kindNamed_10, s_X8_kindNamed_13, s_X8_kindNamed_16, s_X8_kindNamed_19, s_X8_kindNamed_20, s_X8_kindNamed_21, s_X8_kindNamed_24, s_X8_kindNamed_27, s_X8_kindNamed_28, show (6 : Int32) ≤ nI 6 from by decide, knL, List.getElem?_cons_zero, List.getElem?_cons_succ, ob1_s, b2_t, b2_f, z1, cI, List.set_cons_zero, List.set_cons_succ, List.length_cons, List.length_nil, Nat.reduceAdd, Nat.reduceLT, Nat.zero_lt_succ, Bool.false_and, Bool.and_false, Bool.true_and, Bool.and_true, Bool.false_eq_true, ck0, ck1, ck2, ck3, ck4, Option.toList_some, Option.toList_none, List.cons_append, List.nil_append, gf_hit, pf_hit, ai_hit, al_hit, ar_hit, ob_hit, if_true, if_false, reduceIte, reduceCtorEq]
  | j + 1, k, hk => by
    rw [s_X8_kindNamed_2]
    cases hw : isW (aT A) (aL A) k q
    · have ih := lp_kind p hI hq j (k + 1) (by omega)
      simp only [s_X8_kindNamed_0, s_X8_kindNamed_1, s_X8_kindNamed_3, s_X8_kindNamed_5, s_X8_kindNamed_8, s_X8_kindNamed_9, s_X8_kindNamed_10, s_X8_kindNamed_13, s_X8_kindNamed_16, s_X8_kindNamed_19, s_X8_kindNamed_20, s_X8_kindNamed_21, s_X8_kindNamed_24, s_X8_kindNamed_27, s_X8_kindNamed_28, ng6 (show k < 6 by omega), sp_name (show k < 6 by omega), p.rc, pc_isWord p hI hq (show k < 11 by omega), hw, nI_1, knL, List.getElem?_cons_zero, List.getElem?_cons_succ, ob1_s, b2_t, b2_f, z1, cI, List.set_cons_zero, List.set_cons_succ, List.length_cons, List.length_nil, Nat.reduceAdd, Nat.reduceLT, Nat.zero_lt_succ, Bool.false_and, Bool.and_false, Bool.true_and, Bool.and_true, Bool.false_eq_true, ck0, ck1, ck2, ck3, ck4, Option.toList_some, Option.toList_none, List.cons_append, List.nil_append, gf_hit, pf_hit, ai_hit, al_hit, ar_hit, ob_hit, if_true, if_false, reduceIte, reduceCtorEq]
      exact ih
    · simp only [s_X8_kindNamed_0, s_X8_kindNamed_1, s_X8_kindNamed_3, s_X8_kindNamed_5, s_X8_kindNamed_8, s_X8_kindNamed_9, s_X8_kindNamed_10, s_X8_kindNamed_13, s_X8_kindNamed_16, s_X8_kindNamed_19, s_X8_kindNamed_20, s_X8_kindNamed_21, s_X8_kindNamed_24, s_X8_kindNamed_27, s_X8_kindNamed_28, ng6 (show k < 6 by omega), sp_name (show k < 6 by omega), p.rc, pc_isWord p hI hq (show k < 11 by omega), hw, knL, List.getElem?_cons_zero, List.getElem?_cons_succ, ob1_s, b2_t, b2_f, z1, cI, List.set_cons_zero, List.set_cons_succ, List.length_cons, List.length_nil, Nat.reduceAdd, Nat.reduceLT, Nat.zero_lt_succ, Bool.false_and, Bool.and_false, Bool.true_and, Bool.and_true, Bool.false_eq_true, ck0, ck1, ck2, ck3, ck4, Option.toList_some, Option.toList_none, List.cons_append, List.nil_append, gf_hit, pf_hit, ai_hit, al_hit, ar_hit, ob_hit, if_true, if_false, reduceIte, reduceCtorEq]
def knI (o : Option Nat) : Int32 := match o with
  | some k => nI k
  | none => -1
theorem knL_kn {t : Nat → Int32} {L q : Nat} : knL t L q 6 0 = knI (kn t L q) := by
  unfold kn
  show (if _ then _ else if _ then _ else if _ then _ else if _ then _ else if _ then _ else if _ then _ else _) = _
  split
  · rfl
  split
  · rfl
  split
  · rfl
  split
  · rfl
  split
  · rfl
  split <;> rfl
theorem pc_kindNamed (p : PC h A q T) (hI : AI A) (hq : q ≤ aL A) : call sc (d + 6) MX8_kindNamed [.ref 31] h = some (some (.int (knI (kn (aT A) (aL A) q))), h) := by
  have y := lp_kind (sc := sc) (d := d) p hI hq 6 0 rfl
  rw [knL_kn] at y
  simp only [c_X8_kindNamed, s_X8_kindNamed_0, s_X8_kindNamed_1, List.getElem?_cons_zero, List.getElem?_cons_succ, ob1_s, b2_t, b2_f, z1, cI, List.set_cons_zero, List.set_cons_succ, List.length_cons, List.length_nil, Nat.reduceAdd, Nat.reduceLT, Nat.zero_lt_succ, Bool.false_and, Bool.and_false, Bool.true_and, Bool.and_true, Bool.false_eq_true, ck0, ck1, ck2, ck3, ck4, Option.toList_some, Option.toList_none, List.cons_append, List.nil_append, gf_hit, pf_hit, ai_hit, al_hit, ar_hit, ob_hit, if_true, if_false, reduceIte, reduceCtorEq]
  exact y
/-- what a reading method comes to -/
def RD (h : mx_G) (A : AS) (c : Option (Option Value × mx_G)) (r : Option Fam × Nat) : Prop := ∃ h1 T1, c = some (some (.int (b2 r.1.isSome)), h1) ∧ PC h1 A r.2 T1 ∧ (∀ G, r.1 = some G → T1 = G) ∧ same 42 54 h h1
theorem RD.no {c : Option (Option Value × mx_G)} {h1 : mx_G} {r : Nat} {T1 : Fam} (e : c = some (some (.int 0), h1)) (p : PC h1 A r T1) (s : same 42 54 h h1) : RD h A c (none, r) := ⟨h1, T1, e, p, (by intro G w; cases w), s⟩
theorem RD.yes {c : Option (Option Value × mx_G)} {h1 : mx_G} {r : Nat} (e : c = some (some (.int 1), h1)) (p : PC h1 A r G) (s : same 42 54 h h1) : RD h A c (some G, r) := ⟨h1, G, e, p, fun G' w => (Option.some.inj w), s⟩
theorem pc_worth (p : PC h A q T) (hI : AI A) (hq : q ≤ aL A) : RD h A (call sc (d + 3) MX8_readWorth [.ref 31] h) (pWor (aT A) (aL A) q T) := by
  obtain ⟨h1, e1, p1, s1⟩ := pc_next (sc := sc) (d := d) p hI hq
  have q1 := en_q (t := aT A) hq
  have b1 := pc_isNumber (sc := sc) (d := d + 2) p1 (m := 15) (by decide)
  rw [show (nI 15 : Int32) = 15 from rfl] at b1
  unfold pWor
  cases c1 : isN (aT A) (aL A) (en (aT A) (aL A) q) 15
  · rw [c1] at b1
    refine RD.no ?_ p1 s1
    simp only [c_X8_readWorth, s_X8_readWorth_0, s_X8_readWorth_1, s_X8_readWorth_4, s_X8_readWorth_5, s_X8_readWorth_7, s_X8_readWorth_10, s_X8_readWorth_13, s_X8_readWorth_14, s_X8_readWorth_14_0, s_X8_readWorth_14_1, s_X8_readWorth_15, s_X8_readWorth_16, s_X8_readWorth_19, s_X8_readWorth_20, s_X8_readWorth_21, s_X8_readWorth_24, s_X8_readWorth_25, s_X8_readWorth_27, s_X8_readWorth_30, s_X8_readWorth_33, s_X8_readWorth_34, s_X8_readWorth_34_0, s_X8_readWorth_34_1, s_X8_readWorth_35, s_X8_readWorth_36, s_X8_readWorth_39, s_X8_readWorth_42, s_X8_readWorth_43, s_X8_readWorth_44, s_X8_readWorth_47, s_X8_readWorth_48, s_X8_readWorth_49, s_X8_readWorth_52, s_X8_readWorth_53, s_X8_readWorth_53_0, s_X8_readWorth_53_1, p.rc, e1, p1.rc, b1, List.getElem?_cons_zero, List.getElem?_cons_succ, ob1_s, b2_t, b2_f, z1, cI, List.set_cons_zero, List.set_cons_succ, List.length_cons, List.length_nil, Nat.reduceAdd, Nat.reduceLT, Nat.zero_lt_succ, Bool.false_and, Bool.and_false, Bool.true_and, Bool.and_true, Bool.false_eq_true, ck0, ck1, ck2, ck3, ck4, Option.toList_some, Option.toList_none, List.cons_append, List.nil_append, gf_hit, pf_hit, ai_hit, al_hit, ar_hit, ob_hit, if_true, if_false, reduceIte, reduceCtorEq]
  · rw [c1] at b1
    have k1 := isN_k c1
    have n1 := p1.num k1.1
    obtain ⟨h2, e2, p2, s2⟩ := pc_next (sc := sc) (d := d) p1 hI q1.2
    have q2 := en_q (t := aT A) q1.2
    have b2' := pc_isNumber (sc := sc) (d := d + 2) p2 (m := 99) (by decide)
    rw [show (nI 99 : Int32) = 99 from rfl] at b2'
    rw [if_pos rfl]
    cases c2 : isN (aT A) (aL A) (en (aT A) (aL A) (en (aT A) (aL A) q)) 99
    · rw [c2] at b2'
      refine RD.no ?_ p2 (s1.trans s2)
      simp only [c_X8_readWorth, s_X8_readWorth_0, s_X8_readWorth_1, s_X8_readWorth_4, s_X8_readWorth_5, s_X8_readWorth_7, s_X8_readWorth_10, s_X8_readWorth_13, s_X8_readWorth_14, s_X8_readWorth_14_0, s_X8_readWorth_14_1, s_X8_readWorth_15, s_X8_readWorth_16, s_X8_readWorth_19, s_X8_readWorth_20, s_X8_readWorth_21, s_X8_readWorth_24, s_X8_readWorth_25, s_X8_readWorth_27, s_X8_readWorth_30, s_X8_readWorth_33, s_X8_readWorth_34, s_X8_readWorth_34_0, s_X8_readWorth_34_1, s_X8_readWorth_35, s_X8_readWorth_36, s_X8_readWorth_39, s_X8_readWorth_42, s_X8_readWorth_43, s_X8_readWorth_44, s_X8_readWorth_47, s_X8_readWorth_48, s_X8_readWorth_49, s_X8_readWorth_52, s_X8_readWorth_53, s_X8_readWorth_53_0, s_X8_readWorth_53_1, p.rc, e1, p1.rc, b1, n1, e2, p2.rc, b2', List.getElem?_cons_zero, List.getElem?_cons_succ, ob1_s, b2_t, b2_f, z1, cI, List.set_cons_zero, List.set_cons_succ, List.length_cons, List.length_nil, Nat.reduceAdd, Nat.reduceLT, Nat.zero_lt_succ, Bool.false_and, Bool.and_false, Bool.true_and, Bool.and_true, Bool.false_eq_true, ck0, ck1, ck2, ck3, ck4, Option.toList_some, Option.toList_none, List.cons_append, List.nil_append, gf_hit, pf_hit, ai_hit, al_hit, ar_hit, ob_hit, if_true, if_false, reduceIte, reduceCtorEq]
    · rw [c2] at b2'
      have k2 := isN_k c2
      have n2 := p2.num k2.1
      have y2 := p2.2.1
      have hG : FI (ww T (upd (gw T) (nm (aT A) (aL A) (en (aT A) (aL A) q)) (nI (nm (aT A) (aL A) (en (aT A) (aL A) (en (aT A) (aL A) q)))))) := p.2.2.1.ww (p.2.2.1.w.upd (by omega) ⟨_, by omega, rfl⟩)
      have p3 := p2.put hG
      obtain ⟨h4, e4, p4, s4⟩ := pc_next (sc := sc) (d := d) p3 hI q2.2
      rw [if_pos rfl]
      refine RD.yes ?_ p4 ((s1.trans s2).trans ((same.put (by omega)).trans s4))
      simp only [c_X8_readWorth, s_X8_readWorth_0, s_X8_readWorth_1, s_X8_readWorth_4, s_X8_readWorth_5, s_X8_readWorth_7, s_X8_readWorth_10, s_X8_readWorth_13, s_X8_readWorth_14, s_X8_readWorth_14_0, s_X8_readWorth_14_1, s_X8_readWorth_15, s_X8_readWorth_16, s_X8_readWorth_19, s_X8_readWorth_20, s_X8_readWorth_21, s_X8_readWorth_24, s_X8_readWorth_25, s_X8_readWorth_27, s_X8_readWorth_30, s_X8_readWorth_33, s_X8_readWorth_34, s_X8_readWorth_34_0, s_X8_readWorth_34_1, s_X8_readWorth_35, s_X8_readWorth_36, s_X8_readWorth_39, s_X8_readWorth_42, s_X8_readWorth_43, s_X8_readWorth_44, s_X8_readWorth_47, s_X8_readWorth_48, s_X8_readWorth_49, s_X8_readWorth_52, s_X8_readWorth_53, s_X8_readWorth_53_0, s_X8_readWorth_53_1, p.rc, e1, p1.rc, b1, n1, e2, p2.rc, b2', n2, y2.t0, y2.tw, y2.utw, in16 (show nm (aT A) (aL A) (en (aT A) (aL A) q) < 16 by omega), cl16 (show nm (aT A) (aL A) (en (aT A) (aL A) q) < 16 by omega), p3.rc, e4, List.getElem?_cons_zero, List.getElem?_cons_succ, ob1_s, b2_t, b2_f, z1, cI, List.set_cons_zero, List.set_cons_succ, List.length_cons, List.length_nil, Nat.reduceAdd, Nat.reduceLT, Nat.zero_lt_succ, Bool.false_and, Bool.and_false, Bool.true_and, Bool.and_true, Bool.false_eq_true, ck0, ck1, ck2, ck3, ck4, Option.toList_some, Option.toList_none, List.cons_append, List.nil_append, gf_hit, pf_hit, ai_hit, al_hit, ar_hit, ob_hit, if_true, if_false, reduceIte, reduceCtorEq]
theorem pc_burned (p : PC h A q T) (hI : AI A) (hq : q ≤ aL A) : RD h A (call sc (d + 3) MX8_readBurned [.ref 31] h) (pBur (aT A) (aL A) q T) := by
  obtain ⟨h1, e1, p1, s1⟩ := pc_next (sc := sc) (d := d) p hI hq
  have q1 := en_q (t := aT A) hq
  have b1 := pc_isNumber (sc := sc) (d := d + 2) p1 (m := 15) (by decide)
  rw [show (nI 15 : Int32) = 15 from rfl] at b1
  unfold pBur
  cases c1 : isN (aT A) (aL A) (en (aT A) (aL A) q) 15
  · rw [c1] at b1
    refine RD.no ?_ p1 s1
    simp only [c_X8_readBurned, s_X8_readBurned_0, s_X8_readBurned_1, s_X8_readBurned_4, s_X8_readBurned_5, s_X8_readBurned_7, s_X8_readBurned_10, s_X8_readBurned_13, s_X8_readBurned_14, s_X8_readBurned_14_0, s_X8_readBurned_14_1, s_X8_readBurned_15, s_X8_readBurned_16, s_X8_readBurned_19, s_X8_readBurned_19i, s_X8_readBurned_20, s_X8_readBurned_23, s_X8_readBurned_24, s_X8_readBurned_27, s_X8_readBurned_30, s_X8_readBurned_31, s_X8_readBurned_34, s_X8_readBurned_35, s_X8_readBurned_38, s_X8_readBurned_39, s_X8_readBurned_39_0, s_X8_readBurned_39_1, p.rc, e1, p1.rc, b1, List.getElem?_cons_zero, List.getElem?_cons_succ, ob1_s, b2_t, b2_f, z1, cI, List.set_cons_zero, List.set_cons_succ, List.length_cons, List.length_nil, Nat.reduceAdd, Nat.reduceLT, Nat.zero_lt_succ, Bool.false_and, Bool.and_false, Bool.true_and, Bool.and_true, Bool.false_eq_true, ck0, ck1, ck2, ck3, ck4, Option.toList_some, Option.toList_none, List.cons_append, List.nil_append, gf_hit, pf_hit, ai_hit, al_hit, ar_hit, ob_hit, if_true, if_false, reduceIte, reduceCtorEq]
  · rw [c1] at b1
    have k1 := isN_k c1
    have n1 := p1.num k1.1
    have y1 := p1.2.1
    have hG : FI (wb T (gb T ||| so (nI (nm (aT A) (aL A) (en (aT A) (aL A) q))))) := p.2.2.1.wb
    have p3 := p1.put hG
    obtain ⟨h4, e4, p4, s4⟩ := pc_next (sc := sc) (d := d) p3 hI q1.2
    rw [if_pos rfl]
    refine RD.yes ?_ p4 (s1.trans ((same.put (by omega)).trans s4))
    simp only [c_X8_readBurned, s_X8_readBurned_0, s_X8_readBurned_1, s_X8_readBurned_4, s_X8_readBurned_5, s_X8_readBurned_7, s_X8_readBurned_10, s_X8_readBurned_13, s_X8_readBurned_14, s_X8_readBurned_14_0, s_X8_readBurned_14_1, s_X8_readBurned_15, s_X8_readBurned_16, s_X8_readBurned_19, s_X8_readBurned_19i, s_X8_readBurned_20, s_X8_readBurned_23, s_X8_readBurned_24, s_X8_readBurned_27, s_X8_readBurned_30, s_X8_readBurned_31, s_X8_readBurned_34, s_X8_readBurned_35, s_X8_readBurned_38, s_X8_readBurned_39, s_X8_readBurned_39_0, s_X8_readBurned_39_1, p.rc, e1, p1.rc, b1, n1, y1.t0, y1.utb, sp_setOf, p3.rc, e4, List.getElem?_cons_zero, List.getElem?_cons_succ, ob1_s, b2_t, b2_f, z1, cI, List.set_cons_zero, List.set_cons_succ, List.length_cons, List.length_nil, Nat.reduceAdd, Nat.reduceLT, Nat.zero_lt_succ, Bool.false_and, Bool.and_false, Bool.true_and, Bool.and_true, Bool.false_eq_true, ck0, ck1, ck2, ck3, ck4, Option.toList_some, Option.toList_none, List.cons_append, List.nil_append, gf_hit, pf_hit, ai_hit, al_hit, ar_hit, ob_hit, if_true, if_false, reduceIte, reduceCtorEq]
/-- things behind 'has' -/
theorem lp_things (hI : AI A) {n kk ag : Nat} (hn : n < 8) (hkk : kk < 6) (hag : ag < 71) (hT : FI T) : ∀ (k i q : Nat) (s : Int32) (h : mx_G), i + k = 4 → q ≤ aL A → nlt 65536 s → PC h A q (addF T n (nI kk) (nI ag) s (-1)) → ∃ h1 s1, den sc (d + 3) MX8_readThings 2 [some (.ref 31), some (.int (nI n)), some (.int (nI i))] [] h = some (some (.int (b2 (thL (aT A) (aL A) k i q s).1.isSome)), h1) ∧ PC h1 A (thL (aT A) (aL A) k i q s).2 (addF T n (nI kk) (nI ag) s1 (-1)) ∧ (∀ v, (thL (aT A) (aL A) k i q s).1 = some v → s1 = v) ∧ same 42 54 h h1
  | 0, i, q, s, h, hi, hq, hs, p => by
    obtain rfl : i = 4 := by omega
    refine ⟨h, s, ?_, p, fun v w => Option.some.inj w, same.refl⟩
    rw [s_X8_readThings_2]
    simp only [s_X8_readThings_0, s_X8_readThings_1, s_X8_readThings_3, s_X8_readThings_4, s_X8_readThings_7, s_X8_readThings_8, s_X8_readThings_11, s_X8_readThings_12, s_X8_readThings_15, s_X8_readThings_16, s_X8_readThings_19, s_X8_readThings_20, s_X8_readThings_23, s_X8_readThings_24, s_X8_readThings_24_0, s_X8_readThings_24_1, s_X8_readThings_25, s_X8_readThings_26, s_X8_readThings_28, s_X8_readThings_31, s_X8_readThings_34, s_X8_readThings_35, s_X8_readThings_35_0, s_X8_readThings_35_1, s_X8_readThings_36, s_X8_readThings_37, s_X8_readThings_40, s_X8_readThings_43, s_X8_readThings_44, s_X8_readThings_45, s_X8_readThings_46, s_X8_readThings_47, s_X8_readThings_50, s_X8_readThings_53, s_X8_readThings_54, s_X8_readThings_55, s_X8_readThings_56, s_X8_readThings_59, s_X8_readThings_62, s_X8_readThings_65, s_X8_readThings_66, s_X8_readThings_66_0, s_X8_readThings_66_1, show (4 : Int32) ≤ nI 4 from by decide, thL, Option.isSome_some, List.getElem?_cons_zero, List.getElem?_cons_succ, ob1_s, b2_t, b2_f, z1, cI, List.set_cons_zero, List.set_cons_succ, List.length_cons, List.length_nil, Nat.reduceAdd, Nat.reduceLT, Nat.zero_lt_succ, Bool.false_and, Bool.and_false, Bool.true_and, Bool.and_true, Bool.false_eq_true, ck0, ck1, ck2, ck3, ck4, Option.toList_some, Option.toList_none, List.cons_append, List.nil_append, gf_hit, pf_hit, ai_hit, al_hit, ar_hit, ob_hit, if_true, if_false, reduceIte, reduceCtorEq]
  | k + 1, i, q, s, h, hi, hq, hs, p => by
    have hi4 : ¬ (4 : Int32) ≤ nI i := nI_ge (b := 4) (by omega) (by decide)
    obtain ⟨n0, e0, hn0⟩ := p.2.2.2
    by_cases hk : kd (aT A) (aL A) q = 2
    · have nu := p.num hk
      have hk' : nI (kd (aT A) (aL A) q) = 2 := by rw [hk]; rfl
      have b1 := pc_isNumber (sc := sc) (d := d + 2) p (m := 15) (by decide)
      rw [show (nI 15 : Int32) = 15 from rfl] at b1
      cases c1 : isN (aT A) (aL A) q 15
      · have e : thL (aT A) (aL A) (k + 1) i q s = (none, q) := by
          show (if _ then (if _ then _ else _) else _) = _
          rw [if_pos hk, c1]
          rfl
        rw [c1] at b1
        rw [e]
        refine ⟨h, s, ?_, p, (by intro v w; cases w), same.refl⟩
        rw [s_X8_readThings_2]
        simp only [s_X8_readThings_0, s_X8_readThings_1, s_X8_readThings_3, s_X8_readThings_4, s_X8_readThings_7, s_X8_readThings_8, s_X8_readThings_11, s_X8_readThings_12, s_X8_readThings_15, s_X8_readThings_16, s_X8_readThings_19, s_X8_readThings_20, s_X8_readThings_23, s_X8_readThings_24, s_X8_readThings_24_0, s_X8_readThings_24_1, s_X8_readThings_25, s_X8_readThings_26, s_X8_readThings_28, s_X8_readThings_31, s_X8_readThings_34, s_X8_readThings_35, s_X8_readThings_35_0, s_X8_readThings_35_1, s_X8_readThings_36, s_X8_readThings_37, s_X8_readThings_40, s_X8_readThings_43, s_X8_readThings_44, s_X8_readThings_45, s_X8_readThings_46, s_X8_readThings_47, s_X8_readThings_50, s_X8_readThings_53, s_X8_readThings_54, s_X8_readThings_55, s_X8_readThings_56, s_X8_readThings_59, s_X8_readThings_62, s_X8_readThings_65, s_X8_readThings_66, s_X8_readThings_66_0, s_X8_readThings_66_1, hi4, nu, hk', p.rc, b1, Option.isSome_none, List.getElem?_cons_zero, List.getElem?_cons_succ, ob1_s, b2_t, b2_f, z1, cI, List.set_cons_zero, List.set_cons_succ, List.length_cons, List.length_nil, Nat.reduceAdd, Nat.reduceLT, Nat.zero_lt_succ, Bool.false_and, Bool.and_false, Bool.true_and, Bool.and_true, Bool.false_eq_true, ck0, ck1, ck2, ck3, ck4, Option.toList_some, Option.toList_none, List.cons_append, List.nil_append, gf_hit, pf_hit, ai_hit, al_hit, ar_hit, ob_hit, if_true, if_false, reduceIte, reduceCtorEq]
      · have k1 := isN_k c1
        have e : thL (aT A) (aL A) (k + 1) i q s = thL (aT A) (aL A) k (i + 1) (en (aT A) (aL A) q) (s ||| so (nI (nm (aT A) (aL A) q))) := by
          show (if _ then (if _ then _ else _) else _) = _
          rw [if_pos hk, c1]
          rfl
        rw [c1] at b1
        rw [e]
        have hs2 : nlt 65536 (s ||| so (nI (nm (aT A) (aL A) q))) := nlt_or hs (nlt_so (Or.inr ⟨_, by omega, rfl⟩))
        obtain ⟨sn, hsn, esn⟩ := hs2
        have hG : FI (addF T n (nI kk) (nI ag) (s ||| so (nI (nm (aT A) (aL A) q))) (-1)) := by rw [esn]; exact add_ok hT hn hkk hag hsn (Or.inl rfl)
        have p3 := p.put hG
        have y := p.2.1
        obtain ⟨h4, e4, p4, s4⟩ := pc_next (sc := sc) (d := d) p3 hI hq
        obtain ⟨h5, s5, e5, p5, f5, m5⟩ := lp_things hI hn hkk hag hT k (i + 1) _ _ h4 (by omega) (en_q hq).2 ⟨sn, hsn, esn⟩ p4
        refine ⟨h5, s5, ?_, p5, f5, (same.put (by omega)).trans (s4.trans m5)⟩
        rw [← e5, s_X8_readThings_2]
        simp only [s_X8_readThings_0, s_X8_readThings_1, s_X8_readThings_3, s_X8_readThings_4, s_X8_readThings_7, s_X8_readThings_8, s_X8_readThings_11, s_X8_readThings_12, s_X8_readThings_15, s_X8_readThings_16, s_X8_readThings_19, s_X8_readThings_20, s_X8_readThings_23, s_X8_readThings_24, s_X8_readThings_24_0, s_X8_readThings_24_1, s_X8_readThings_25, s_X8_readThings_26, s_X8_readThings_28, s_X8_readThings_31, s_X8_readThings_34, s_X8_readThings_35, s_X8_readThings_35_0, s_X8_readThings_35_1, s_X8_readThings_36, s_X8_readThings_37, s_X8_readThings_40, s_X8_readThings_43, s_X8_readThings_44, s_X8_readThings_45, s_X8_readThings_46, s_X8_readThings_47, s_X8_readThings_50, s_X8_readThings_53, s_X8_readThings_54, s_X8_readThings_55, s_X8_readThings_56, s_X8_readThings_59, s_X8_readThings_62, s_X8_readThings_65, s_X8_readThings_66, s_X8_readThings_66_0, s_X8_readThings_66_1, hi4, nu, hk', p.rc, b1, y.t0, y.vtp, y.tp, y.utp, in8 hn, cl8 hn, add_gp, sp_setOf, add_p, p3.rc, e4, nI_1, List.getElem?_cons_zero, List.getElem?_cons_succ, ob1_s, b2_t, b2_f, z1, cI, List.set_cons_zero, List.set_cons_succ, List.length_cons, List.length_nil, Nat.reduceAdd, Nat.reduceLT, Nat.zero_lt_succ, Bool.false_and, Bool.and_false, Bool.true_and, Bool.and_true, Bool.false_eq_true, ck0, ck1, ck2, ck3, ck4, Option.toList_some, Option.toList_none, List.cons_append, List.nil_append, gf_hit, pf_hit, ai_hit, al_hit, ar_hit, ob_hit, if_true, if_false, reduceIte, reduceCtorEq]
    · have hk' : ¬ nI (kd (aT A) (aL A) q) = 2 := fun w => hk ((kdI (m := 2) (by omega)).mp w)
      rcases Nat.eq_zero_or_pos i with hi0 | hi0
      · subst hi0
        have e : thL (aT A) (aL A) (k + 1) 0 q s = (none, q) := by
          show (if _ then _ else (if _ then _ else _)) = _
          rw [if_neg hk]
          rfl
        rw [e]
        refine ⟨h, s, ?_, p, (by intro v w; cases w), same.refl⟩
        rw [s_X8_readThings_2]
        simp only [s_X8_readThings_0, s_X8_readThings_1, s_X8_readThings_3, s_X8_readThings_4, s_X8_readThings_7, s_X8_readThings_8, s_X8_readThings_11, s_X8_readThings_12, s_X8_readThings_15, s_X8_readThings_16, s_X8_readThings_19, s_X8_readThings_20, s_X8_readThings_23, s_X8_readThings_24, s_X8_readThings_24_0, s_X8_readThings_24_1, s_X8_readThings_25, s_X8_readThings_26, s_X8_readThings_28, s_X8_readThings_31, s_X8_readThings_34, s_X8_readThings_35, s_X8_readThings_35_0, s_X8_readThings_35_1, s_X8_readThings_36, s_X8_readThings_37, s_X8_readThings_40, s_X8_readThings_43, s_X8_readThings_44, s_X8_readThings_45, s_X8_readThings_46, s_X8_readThings_47, s_X8_readThings_50, s_X8_readThings_53, s_X8_readThings_54, s_X8_readThings_55, s_X8_readThings_56, s_X8_readThings_59, s_X8_readThings_62, s_X8_readThings_65, s_X8_readThings_66, s_X8_readThings_66_0, s_X8_readThings_66_1, hi4, show ¬ (4 : Int32) ≤ 0 from by decide, e0, hk', nI_0, Int32.le_refl, Option.isSome_none, List.getElem?_cons_zero, List.getElem?_cons_succ, ob1_s, b2_t, b2_f, z1, cI, List.set_cons_zero, List.set_cons_succ, List.length_cons, List.length_nil, Nat.reduceAdd, Nat.reduceLT, Nat.zero_lt_succ, Bool.false_and, Bool.and_false, Bool.true_and, Bool.and_true, Bool.false_eq_true, ck0, ck1, ck2, ck3, ck4, Option.toList_some, Option.toList_none, List.cons_append, List.nil_append, gf_hit, pf_hit, ai_hit, al_hit, ar_hit, ob_hit, if_true, if_false, reduceIte, reduceCtorEq]
      · have e : thL (aT A) (aL A) (k + 1) i q s = (some s, q) := by
          show (if _ then _ else (if _ then _ else _)) = _
          rw [if_neg hk, if_pos hi0]
        rw [e]
        refine ⟨h, s, ?_, p, fun v w => Option.some.inj w, same.refl⟩
        rw [s_X8_readThings_2]
        simp only [s_X8_readThings_0, s_X8_readThings_1, s_X8_readThings_3, s_X8_readThings_4, s_X8_readThings_7, s_X8_readThings_8, s_X8_readThings_11, s_X8_readThings_12, s_X8_readThings_15, s_X8_readThings_16, s_X8_readThings_19, s_X8_readThings_20, s_X8_readThings_23, s_X8_readThings_24, s_X8_readThings_24_0, s_X8_readThings_24_1, s_X8_readThings_25, s_X8_readThings_26, s_X8_readThings_28, s_X8_readThings_31, s_X8_readThings_34, s_X8_readThings_35, s_X8_readThings_35_0, s_X8_readThings_35_1, s_X8_readThings_36, s_X8_readThings_37, s_X8_readThings_40, s_X8_readThings_43, s_X8_readThings_44, s_X8_readThings_45, s_X8_readThings_46, s_X8_readThings_47, s_X8_readThings_50, s_X8_readThings_53, s_X8_readThings_54, s_X8_readThings_55, s_X8_readThings_56, s_X8_readThings_59, s_X8_readThings_62, s_X8_readThings_65, s_X8_readThings_66, s_X8_readThings_66_0, s_X8_readThings_66_1, hi4, e0, hk', nI_nle hi0 (show i < 2 ^ 31 by omega), Option.isSome_some, List.getElem?_cons_zero, List.getElem?_cons_succ, ob1_s, b2_t, b2_f, z1, cI, List.set_cons_zero, List.set_cons_succ, List.length_cons, List.length_nil, Nat.reduceAdd, Nat.reduceLT, Nat.zero_lt_succ, Bool.false_and, Bool.and_false, Bool.true_and, Bool.and_true, Bool.false_eq_true, ck0, ck1, ck2, ck3, ck4, Option.toList_some, Option.toList_none, List.cons_append, List.nil_append, gf_hit, pf_hit, ai_hit, al_hit, ar_hit, ob_hit, if_true, if_false, reduceIte, reduceCtorEq]
theorem sg_age (hI : AI A) {n kk : Nat} (hn : n < 8) (hkk : kk < 6) (hT : FI T) {k1 : Int32} (hq : q ≤ aL A) (p : PC h A q (addF T n (nI kk) 0 0 (-1))) : match pNum (aT A) (aL A) 6 70 0 q with
    | (none, r) => ∃ h1, den sc (d + 6) MX8_readPerson 27 [some (.ref 31), some (.int k1), some (.int (nI n))] [] h = some (some (.int 0), h1) ∧ (∃ T1, PC h1 A r T1) ∧ same 42 54 h h1
    | (some v, r) => ∃ h1 ag, den sc (d + 6) MX8_readPerson 27 [some (.ref 31), some (.int k1), some (.int (nI n))] [] h = den sc (d + 6) MX8_readPerson 68 [some (.ref 31), some (.int k1), some (.int (nI n))] [] h1 ∧ PC h1 A r (addF T n (nI kk) v 0 (-1)) ∧ v = nI ag ∧ ag < 71 ∧ same 42 54 h h1 := by
  have bw : call sc (d + 5) MX8_isWord [.ref 31, .ref 1006] h = some (some (.int (b2 (isW (aT A) (aL A) 6 q))), h) := pc_isWord (sc := sc) (d := d) p hI hq (w := 6) (by decide)
  unfold pNum
  cases cw : isW (aT A) (aL A) 6 q
  · rw [cw] at bw
    refine ⟨h, 0, ?_, p, rfl, by decide, same.refl⟩
    simp only [s_X8_readPerson_27, s_X8_readPerson_28, s_X8_readPerson_30, s_X8_readPerson_33, s_X8_readPerson_36, s_X8_readPerson_37, s_X8_readPerson_40, s_X8_readPerson_41, s_X8_readPerson_43, s_X8_readPerson_46, s_X8_readPerson_49, s_X8_readPerson_50, s_X8_readPerson_50_0, s_X8_readPerson_50_1, s_X8_readPerson_51, s_X8_readPerson_52, s_X8_readPerson_55, s_X8_readPerson_58, s_X8_readPerson_59, s_X8_readPerson_60, s_X8_readPerson_63, s_X8_readPerson_64, s_X8_readPerson_65, p.rc, bw, List.getElem?_cons_zero, List.getElem?_cons_succ, ob1_s, b2_t, b2_f, z1, cI, List.set_cons_zero, List.set_cons_succ, List.length_cons, List.length_nil, Nat.reduceAdd, Nat.reduceLT, Nat.zero_lt_succ, Bool.false_and, Bool.and_false, Bool.true_and, Bool.and_true, Bool.false_eq_true, ck0, ck1, ck2, ck3, ck4, Option.toList_some, Option.toList_none, List.cons_append, List.nil_append, gf_hit, pf_hit, ai_hit, al_hit, ar_hit, ob_hit, if_true, if_false, reduceIte, reduceCtorEq]
  · rw [cw] at bw
    obtain ⟨h1, e1, p1, s1⟩ := pc_next (sc := sc) (d := d + 3) p hI hq
    have q1 := en_q (t := aT A) hq
    have b1 := pc_isNumber (sc := sc) (d := d + 5) p1 (m := 70) (by decide)
    rw [show (nI 70 : Int32) = 70 from rfl] at b1
    rw [if_pos rfl]
    cases c1 : isN (aT A) (aL A) (en (aT A) (aL A) q) 70
    · rw [c1] at b1
      refine ⟨h1, ?_, ⟨_, p1⟩, s1⟩
      simp only [s_X8_readPerson_27, s_X8_readPerson_28, s_X8_readPerson_30, s_X8_readPerson_33, s_X8_readPerson_36, s_X8_readPerson_37, s_X8_readPerson_40, s_X8_readPerson_41, s_X8_readPerson_43, s_X8_readPerson_46, s_X8_readPerson_49, s_X8_readPerson_50, s_X8_readPerson_50_0, s_X8_readPerson_50_1, s_X8_readPerson_51, s_X8_readPerson_52, s_X8_readPerson_55, s_X8_readPerson_58, s_X8_readPerson_59, s_X8_readPerson_60, s_X8_readPerson_63, s_X8_readPerson_64, s_X8_readPerson_65, p.rc, bw, e1, p1.rc, b1, List.getElem?_cons_zero, List.getElem?_cons_succ, ob1_s, b2_t, b2_f, z1, cI, List.set_cons_zero, List.set_cons_succ, List.length_cons, List.length_nil, Nat.reduceAdd, Nat.reduceLT, Nat.zero_lt_succ, Bool.false_and, Bool.and_false, Bool.true_and, Bool.and_true, Bool.false_eq_true, ck0, ck1, ck2, ck3, ck4, Option.toList_some, Option.toList_none, List.cons_append, List.nil_append, gf_hit, pf_hit, ai_hit, al_hit, ar_hit, ob_hit, if_true, if_false, reduceIte, reduceCtorEq]
    · rw [c1] at b1
      have k2 := isN_k c1
      have nu := p1.num k2.1
      have y := p1.2.1
      have hG : FI (addF T n (nI kk) (nI (nm (aT A) (aL A) (en (aT A) (aL A) q))) 0 (-1)) := add_ok hT hn hkk (by omega) (p := 0) (by decide) (Or.inl rfl)
      have p3 := p1.put hG
      obtain ⟨h4, e4, p4, s4⟩ := pc_next (sc := sc) (d := d + 3) p3 hI q1.2
      rw [if_pos rfl]
      refine ⟨h4, nm (aT A) (aL A) (en (aT A) (aL A) q), ?_, p4, rfl, by omega, s1.trans ((same.put (by omega)).trans s4)⟩
      simp only [s_X8_readPerson_27, s_X8_readPerson_28, s_X8_readPerson_30, s_X8_readPerson_33, s_X8_readPerson_36, s_X8_readPerson_37, s_X8_readPerson_40, s_X8_readPerson_41, s_X8_readPerson_43, s_X8_readPerson_46, s_X8_readPerson_49, s_X8_readPerson_50, s_X8_readPerson_50_0, s_X8_readPerson_50_1, s_X8_readPerson_51, s_X8_readPerson_52, s_X8_readPerson_55, s_X8_readPerson_58, s_X8_readPerson_59, s_X8_readPerson_60, s_X8_readPerson_63, s_X8_readPerson_64, s_X8_readPerson_65, p.rc, bw, e1, p1.rc, b1, nu, y.t0, y.ta, y.uta, in8 hn, cl8 hn, add_a, p3.rc, e4, List.getElem?_cons_zero, List.getElem?_cons_succ, ob1_s, b2_t, b2_f, z1, cI, List.set_cons_zero, List.set_cons_succ, List.length_cons, List.length_nil, Nat.reduceAdd, Nat.reduceLT, Nat.zero_lt_succ, Bool.false_and, Bool.and_false, Bool.true_and, Bool.and_true, Bool.false_eq_true, ck0, ck1, ck2, ck3, ck4, Option.toList_some, Option.toList_none, List.cons_append, List.nil_append, gf_hit, pf_hit, ai_hit, al_hit, ar_hit, ob_hit, if_true, if_false, reduceIte, reduceCtorEq]
theorem sg_has (hI : AI A) {n kk ag : Nat} (hn : n < 8) (hkk : kk < 6) (hag : ag < 71) (hT : FI T) {k1 : Int32} (hq : q ≤ aL A) (p : PC h A q (addF T n (nI kk) (nI ag) 0 (-1))) : match pHav (aT A) (aL A) q with
    | (none, r) => ∃ h1, den sc (d + 6) MX8_readPerson 68 [some (.ref 31), some (.int k1), some (.int (nI n))] [] h = some (some (.int 0), h1) ∧ (∃ T1, PC h1 A r T1) ∧ same 42 54 h h1
    | (some v, r) => ∃ h1, den sc (d + 6) MX8_readPerson 68 [some (.ref 31), some (.int k1), some (.int (nI n))] [] h = den sc (d + 6) MX8_readPerson 91 [some (.ref 31), some (.int k1), some (.int (nI n))] [] h1 ∧ PC h1 A r (addF T n (nI kk) (nI ag) v (-1)) ∧ same 42 54 h h1 := by
  have bw : call sc (d + 5) MX8_isWord [.ref 31, .ref 1007] h = some (some (.int (b2 (isW (aT A) (aL A) 7 q))), h) := pc_isWord (sc := sc) (d := d) p hI hq (w := 7) (by decide)
  unfold pHav
  cases cw : isW (aT A) (aL A) 7 q
  · rw [cw] at bw
    refine ⟨h, ?_, p, same.refl⟩
    simp only [s_X8_readPerson_68, s_X8_readPerson_69, s_X8_readPerson_71, s_X8_readPerson_74, s_X8_readPerson_77, s_X8_readPerson_78, s_X8_readPerson_81, s_X8_readPerson_82, s_X8_readPerson_83, s_X8_readPerson_86, s_X8_readPerson_89, s_X8_readPerson_90, s_X8_readPerson_90_0, s_X8_readPerson_90_1, p.rc, bw, List.getElem?_cons_zero, List.getElem?_cons_succ, ob1_s, b2_t, b2_f, z1, cI, List.set_cons_zero, List.set_cons_succ, List.length_cons, List.length_nil, Nat.reduceAdd, Nat.reduceLT, Nat.zero_lt_succ, Bool.false_and, Bool.and_false, Bool.true_and, Bool.and_true, Bool.false_eq_true, ck0, ck1, ck2, ck3, ck4, Option.toList_some, Option.toList_none, List.cons_append, List.nil_append, gf_hit, pf_hit, ai_hit, al_hit, ar_hit, ob_hit, if_true, if_false, reduceIte, reduceCtorEq]
  · rw [cw] at bw
    obtain ⟨h1, e1, p1, s1⟩ := pc_next (sc := sc) (d := d + 3) p hI hq
    have q1 := en_q (t := aT A) hq
    obtain ⟨h2, s2, e2, p2, f2, m2⟩ := lp_things (sc := sc) (d := d + 2) hI hn hkk hag hT 4 0 _ 0 h1 (by omega) q1.2 ⟨0, by decide, rfl⟩ p1
    have e2' : call sc (d + 5) MX8_readThings [.ref 31, .int (nI n)] h1 = some (some (.int (b2 (thL (aT A) (aL A) 4 0 (en (aT A) (aL A) q) 0).1.isSome)), h2) := by
      simp only [c_X8_readThings, s_X8_readThings_0, s_X8_readThings_1, List.getElem?_cons_zero, List.getElem?_cons_succ, ob1_s, b2_t, b2_f, z1, cI, List.set_cons_zero, List.set_cons_succ, List.length_cons, List.length_nil, Nat.reduceAdd, Nat.reduceLT, Nat.zero_lt_succ, Bool.false_and, Bool.and_false, Bool.true_and, Bool.and_true, Bool.false_eq_true, ck0, ck1, ck2, ck3, ck4, Option.toList_some, Option.toList_none, List.cons_append, List.nil_append, gf_hit, pf_hit, ai_hit, al_hit, ar_hit, ob_hit, if_true, if_false, reduceIte, reduceCtorEq]
      exact e2
    rw [if_pos rfl]
    cases ct : thL (aT A) (aL A) 4 0 (en (aT A) (aL A) q) 0 with
    | mk o r =>
      rw [ct] at e2' p2 f2
      cases o with
      | none =>
        refine ⟨h2, ?_, ⟨_, p2⟩, s1.trans m2⟩
        rw [show (none : Option Int32).isSome = false from rfl] at e2'
        simp only [s_X8_readPerson_68, s_X8_readPerson_69, s_X8_readPerson_71, s_X8_readPerson_74, s_X8_readPerson_77, s_X8_readPerson_78, s_X8_readPerson_81, s_X8_readPerson_82, s_X8_readPerson_83, s_X8_readPerson_86, s_X8_readPerson_89, s_X8_readPerson_90, s_X8_readPerson_90_0, s_X8_readPerson_90_1, p.rc, bw, e1, p1.rc, e2', List.getElem?_cons_zero, List.getElem?_cons_succ, ob1_s, b2_t, b2_f, z1, cI, List.set_cons_zero, List.set_cons_succ, List.length_cons, List.length_nil, Nat.reduceAdd, Nat.reduceLT, Nat.zero_lt_succ, Bool.false_and, Bool.and_false, Bool.true_and, Bool.and_true, Bool.false_eq_true, ck0, ck1, ck2, ck3, ck4, Option.toList_some, Option.toList_none, List.cons_append, List.nil_append, gf_hit, pf_hit, ai_hit, al_hit, ar_hit, ob_hit, if_true, if_false, reduceIte, reduceCtorEq]
      | some v =>
        obtain rfl := f2 v rfl
        refine ⟨h2, ?_, p2, s1.trans m2⟩
        rw [show (some s2 : Option Int32).isSome = true from rfl] at e2'
        simp only [s_X8_readPerson_68, s_X8_readPerson_69, s_X8_readPerson_71, s_X8_readPerson_74, s_X8_readPerson_77, s_X8_readPerson_78, s_X8_readPerson_81, s_X8_readPerson_82, s_X8_readPerson_83, s_X8_readPerson_86, s_X8_readPerson_89, s_X8_readPerson_90, s_X8_readPerson_90_0, s_X8_readPerson_90_1, p.rc, bw, e1, p1.rc, e2', List.getElem?_cons_zero, List.getElem?_cons_succ, ob1_s, b2_t, b2_f, z1, cI, List.set_cons_zero, List.set_cons_succ, List.length_cons, List.length_nil, Nat.reduceAdd, Nat.reduceLT, Nat.zero_lt_succ, Bool.false_and, Bool.and_false, Bool.true_and, Bool.and_true, Bool.false_eq_true, ck0, ck1, ck2, ck3, ck4, Option.toList_some, Option.toList_none, List.cons_append, List.nil_append, gf_hit, pf_hit, ai_hit, al_hit, ar_hit, ob_hit, if_true, if_false, reduceIte, reduceCtorEq]
theorem sg_cou (hI : AI A) {n kk ag sv : Nat} (hn : n < 8) (hkk : kk < 6) (hag : ag < 71) (hsv : sv < 65536) (hT : FI T) {k1 : Int32} (hq : q ≤ aL A) (p : PC h A q (addF T n (nI kk) (nI ag) (nI sv) (-1))) : match pNum (aT A) (aL A) 8 n (-1) q with
    | (none, r) => ∃ h1, den sc (d + 6) MX8_readPerson 91 [some (.ref 31), some (.int k1), some (.int (nI n))] [] h = some (some (.int 0), h1) ∧ (∃ T1, PC h1 A r T1) ∧ same 42 54 h h1
    | (some v, r) => ∃ h1, den sc (d + 6) MX8_readPerson 91 [some (.ref 31), some (.int k1), some (.int (nI n))] [] h = some (some (.int 1), h1) ∧ PC h1 A r (addF T n (nI kk) (nI ag) (nI sv) v) ∧ same 42 54 h h1 := by
  have bw : call sc (d + 5) MX8_isWord [.ref 31, .ref 1008] h = some (some (.int (b2 (isW (aT A) (aL A) 8 q))), h) := pc_isWord (sc := sc) (d := d) p hI hq (w := 8) (by decide)
  unfold pNum
  cases cw : isW (aT A) (aL A) 8 q
  · rw [cw] at bw
    refine ⟨h, ?_, p, same.refl⟩
    simp only [s_X8_readPerson_91, s_X8_readPerson_92, s_X8_readPerson_94, s_X8_readPerson_97, s_X8_readPerson_100, s_X8_readPerson_101, s_X8_readPerson_104, s_X8_readPerson_105, s_X8_readPerson_106, s_X8_readPerson_109, s_X8_readPerson_112, s_X8_readPerson_113, s_X8_readPerson_113_0, s_X8_readPerson_113_1, s_X8_readPerson_114, s_X8_readPerson_115, s_X8_readPerson_118, s_X8_readPerson_121, s_X8_readPerson_122, s_X8_readPerson_123, s_X8_readPerson_126, s_X8_readPerson_127, s_X8_readPerson_128, s_X8_readPerson_131, s_X8_readPerson_132, s_X8_readPerson_132_0, s_X8_readPerson_132_1, p.rc, bw, List.getElem?_cons_zero, List.getElem?_cons_succ, ob1_s, b2_t, b2_f, z1, cI, List.set_cons_zero, List.set_cons_succ, List.length_cons, List.length_nil, Nat.reduceAdd, Nat.reduceLT, Nat.zero_lt_succ, Bool.false_and, Bool.and_false, Bool.true_and, Bool.and_true, Bool.false_eq_true, ck0, ck1, ck2, ck3, ck4, Option.toList_some, Option.toList_none, List.cons_append, List.nil_append, gf_hit, pf_hit, ai_hit, al_hit, ar_hit, ob_hit, if_true, if_false, reduceIte, reduceCtorEq]
  · rw [cw] at bw
    obtain ⟨h1, e1, p1, s1⟩ := pc_next (sc := sc) (d := d + 3) p hI hq
    have q1 := en_q (t := aT A) hq
    have b1 := pc_isNumber (sc := sc) (d := d + 5) p1 (m := n) (by omega)
    rw [if_pos rfl]
    cases c1 : isN (aT A) (aL A) (en (aT A) (aL A) q) n
    · rw [c1] at b1
      refine ⟨h1, ?_, ⟨_, p1⟩, s1⟩
      simp only [s_X8_readPerson_91, s_X8_readPerson_92, s_X8_readPerson_94, s_X8_readPerson_97, s_X8_readPerson_100, s_X8_readPerson_101, s_X8_readPerson_104, s_X8_readPerson_105, s_X8_readPerson_106, s_X8_readPerson_109, s_X8_readPerson_112, s_X8_readPerson_113, s_X8_readPerson_113_0, s_X8_readPerson_113_1, s_X8_readPerson_114, s_X8_readPerson_115, s_X8_readPerson_118, s_X8_readPerson_121, s_X8_readPerson_122, s_X8_readPerson_123, s_X8_readPerson_126, s_X8_readPerson_127, s_X8_readPerson_128, s_X8_readPerson_131, s_X8_readPerson_132, s_X8_readPerson_132_0, s_X8_readPerson_132_1, p.rc, bw, e1, p1.rc, b1, List.getElem?_cons_zero, List.getElem?_cons_succ, ob1_s, b2_t, b2_f, z1, cI, List.set_cons_zero, List.set_cons_succ, List.length_cons, List.length_nil, Nat.reduceAdd, Nat.reduceLT, Nat.zero_lt_succ, Bool.false_and, Bool.and_false, Bool.true_and, Bool.and_true, Bool.false_eq_true, ck0, ck1, ck2, ck3, ck4, Option.toList_some, Option.toList_none, List.cons_append, List.nil_append, gf_hit, pf_hit, ai_hit, al_hit, ar_hit, ob_hit, if_true, if_false, reduceIte, reduceCtorEq]
    · rw [c1] at b1
      have k2 := isN_k c1
      have nu := p1.num k2.1
      have y := p1.2.1
      have hG : FI (addF T n (nI kk) (nI ag) (nI sv) (nI (nm (aT A) (aL A) (en (aT A) (aL A) q)))) := add_ok hT hn hkk hag hsv (Or.inr ⟨_, by omega, rfl⟩)
      have p3 := p1.put hG
      obtain ⟨h4, e4, p4, s4⟩ := pc_next (sc := sc) (d := d + 3) p3 hI q1.2
      rw [if_pos rfl]
      refine ⟨h4, ?_, p4, s1.trans ((same.put (by omega)).trans s4)⟩
      simp only [s_X8_readPerson_91, s_X8_readPerson_92, s_X8_readPerson_94, s_X8_readPerson_97, s_X8_readPerson_100, s_X8_readPerson_101, s_X8_readPerson_104, s_X8_readPerson_105, s_X8_readPerson_106, s_X8_readPerson_109, s_X8_readPerson_112, s_X8_readPerson_113, s_X8_readPerson_113_0, s_X8_readPerson_113_1, s_X8_readPerson_114, s_X8_readPerson_115, s_X8_readPerson_118, s_X8_readPerson_121, s_X8_readPerson_122, s_X8_readPerson_123, s_X8_readPerson_126, s_X8_readPerson_127, s_X8_readPerson_128, s_X8_readPerson_131, s_X8_readPerson_132, s_X8_readPerson_132_0, s_X8_readPerson_132_1, p.rc, bw, e1, p1.rc, b1, nu, y.t0, y.tc, y.utc, in8 hn, cl8 hn, add_c, p3.rc, e4, List.getElem?_cons_zero, List.getElem?_cons_succ, ob1_s, b2_t, b2_f, z1, cI, List.set_cons_zero, List.set_cons_succ, List.length_cons, List.length_nil, Nat.reduceAdd, Nat.reduceLT, Nat.zero_lt_succ, Bool.false_and, Bool.and_false, Bool.true_and, Bool.and_true, Bool.false_eq_true, ck0, ck1, ck2, ck3, ck4, Option.toList_some, Option.toList_none, List.cons_append, List.nil_append, gf_hit, pf_hit, ai_hit, al_hit, ar_hit, ob_hit, if_true, if_false, reduceIte, reduceCtorEq]
end
