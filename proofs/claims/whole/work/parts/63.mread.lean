/-! THE MODEL'S READER: tokens -/
def bA (t : Nat → Int32) (L i : Nat) : Int32 := if i < L then t i else -1
def wdQ (t : Nat → Int32) (L q : Nat) : Int64 := if kd t L q = 1 then wv t (sk t L q) (en t L q - sk t L q) else 0
def vaQ (t : Nat → Int32) (L q : Nat) : Int32 := if kd t L q = 2 then nI (mv t L q) else bA t L (sk t L q)
def soQ (t : Nat → Int32) (L q : Nat) : Nat := min (kd t L q) 3
section
variable {sc : mx_X} {d : Nat} {h : mx_G} {A : AS} {t : Nat → Int32} {L : Nat} {so be te va go kb : Int32} {wd : Int64}
theorem mcu {fs : List Value} : mx_rc (mx_up h 42 (.inr (11, fs))) 42 = some 11 := rc_hit up_at
theorem mt47 (x : h.1 47 = some (cI 120 t)) {v : mx_C} : mx_av sc (mx_up h 42 v) 47 = some (cI 120 t) := av_hit ((up_o (by decide)).trans x)
theorem sp_byteAt (x : h.1 47 = some (cI 120 t)) (hL : L ≤ 120) {i : Nat} (hi : i ≤ L) : call sc d MX11_byteAt [.ref 42, .int (nI i)] (mx_up h 42 (.inr (11, [.ref 43, .ref 44, .ref 45, .ref 46, .ref 47, .int (nI L), .int (so), .int (be), .int (te), .long (wd), .int (va), .int (go), .ref 48, .ref 49, .ref 50, .ref 51, .ref 52, .ref 53, .int (kb)]))) = some (some (.int (bA t L i)), (mx_up h 42 (.inr (11, [.ref 43, .ref 44, .ref 45, .ref 46, .ref 47, .int (nI L), .int (so), .int (be), .int (te), .long (wd), .int (va), .int (go), .ref 48, .ref 49, .ref 50, .ref 51, .ref 52, .ref 53, .int (kb)])))) := by
  by_cases h1 : i < L
  · have h2 : ¬ nI L ≤ nI i := nI_ge h1 (by omega)
    simp only [c_X11_byteAt, s_X11_byteAt_0, s_X11_byteAt_1, s_X11_byteAt_2, s_X11_byteAt_5, s_X11_byteAt_8, s_X11_byteAt_9, s_X11_byteAt_12, s_X11_byteAt_13, s_X11_byteAt_14, s_X11_byteAt_17, s_X11_byteAt_18, up_at, mt47 x, h2, in120 (show i < 120 by omega), cl120 (show i < 120 by omega), bA, h1, List.getElem?_cons_zero, List.getElem?_cons_succ, ob1_s, b2_t, b2_f, z1, cI, List.set_cons_zero, List.set_cons_succ, List.length_cons, List.length_nil, Nat.reduceAdd, Nat.reduceLT, Nat.zero_lt_succ, Bool.false_and, Bool.and_false, Bool.true_and, Bool.and_true, Bool.false_eq_true, ck0, ck1, ck2, ck3, ck4, Option.toList_some, Option.toList_none, List.cons_append, List.nil_append, gf_hit, pf_hit, ai_hit, al_hit, ar_hit, ob_hit, if_true, if_false, reduceIte, reduceCtorEq]
  · have h2 : nI L ≤ nI i := nI_le (by omega) (by omega)
    simp only [c_X11_byteAt, s_X11_byteAt_0, s_X11_byteAt_1, s_X11_byteAt_2, s_X11_byteAt_5, s_X11_byteAt_8, s_X11_byteAt_9, s_X11_byteAt_12, s_X11_byteAt_13, s_X11_byteAt_14, s_X11_byteAt_17, s_X11_byteAt_18, up_at, h2, bA, h1, List.getElem?_cons_zero, List.getElem?_cons_succ, ob1_s, b2_t, b2_f, z1, cI, List.set_cons_zero, List.set_cons_succ, List.length_cons, List.length_nil, Nat.reduceAdd, Nat.reduceLT, Nat.zero_lt_succ, Bool.false_and, Bool.and_false, Bool.true_and, Bool.and_true, Bool.false_eq_true, ck0, ck1, ck2, ck3, ck4, Option.toList_some, Option.toList_none, List.cons_append, List.nil_append, gf_hit, pf_hit, ai_hit, al_hit, ar_hit, ob_hit, if_true, if_false, reduceIte, reduceCtorEq]
theorem sp_mLetter {b : Int32} : call sc (d + 1) MX11_isLetter [.int b] h = some (some (.int (b2 (isLt b))), h) := by
  simp only [c_X11_isLetter, s_X11_isLetter_0, s_X11_isLetter_1, s_X11_isLetter_3, s_X11_isLetter_5, s_X11_isLetter_8, s_X11_isLetter_8_0, s_X11_isLetter_8_1, sp_in, b2_nar, isLt, List.getElem?_cons_zero, List.getElem?_cons_succ, ob1_s, b2_t, b2_f, z1, cI, List.set_cons_zero, List.set_cons_succ, List.length_cons, List.length_nil, Nat.reduceAdd, Nat.reduceLT, Nat.zero_lt_succ, Bool.false_and, Bool.and_false, Bool.true_and, Bool.and_true, Bool.false_eq_true, ck0, ck1, ck2, ck3, ck4, Option.toList_some, Option.toList_none, List.cons_append, List.nil_append, gf_hit, pf_hit, ai_hit, al_hit, ar_hit, ob_hit, if_true, if_false, reduceIte, reduceCtorEq]
theorem sp_mDigit {b : Int32} : call sc (d + 1) MX11_isDigit [.int b] h = some (some (.int (b2 (isDg b))), h) := by
  simp only [c_X11_isDigit, s_X11_isDigit_0, s_X11_isDigit_1, s_X11_isDigit_3, s_X11_isDigit_5, s_X11_isDigit_8, s_X11_isDigit_8_0, s_X11_isDigit_8_1, sp_in, b2_nar, isDg, List.getElem?_cons_zero, List.getElem?_cons_succ, ob1_s, b2_t, b2_f, z1, cI, List.set_cons_zero, List.set_cons_succ, List.length_cons, List.length_nil, Nat.reduceAdd, Nat.reduceLT, Nat.zero_lt_succ, Bool.false_and, Bool.and_false, Bool.true_and, Bool.and_true, Bool.false_eq_true, ck0, ck1, ck2, ck3, ck4, Option.toList_some, Option.toList_none, List.cons_append, List.nil_append, gf_hit, pf_hit, ai_hit, al_hit, ar_hit, ob_hit, if_true, if_false, reduceIte, reduceCtorEq]
theorem bA_e : bA t L L = -1 := if_neg (Nat.lt_irrefl L)
theorem bA_s {i : Nat} (h : i < L) : bA t L i = t i := if_pos h
theorem lt_m1 : isLt (-1) = false := by decide
theorem dg_m1 : isDg (-1) = false := by decide

theorem mp_skip (x : h.1 47 = some (cI 120 t)) (hL : L ≤ 120) : ∀ (k s : Nat), s + k = L → den sc (d + 1) MX11_advance 8 [some (.ref 42), none] [] (mx_up h 42 (.inr (11, [.ref 43, .ref 44, .ref 45, .ref 46, .ref 47, .int (nI L), .int (so), .int (nI s), .int (te), .long (wd), .int (va), .int (go), .ref 48, .ref 49, .ref 50, .ref 51, .ref 52, .ref 53, .int (kb)]))) = den sc (d + 1) MX11_advance 34 [some (.ref 42), none] [] (mx_up h 42 (.inr (11, [.ref 43, .ref 44, .ref 45, .ref 46, .ref 47, .int (nI L), .int (so), .int (nI (rnL isSp t k s)), .int (te), .long (wd), .int (va), .int (go), .ref 48, .ref 49, .ref 50, .ref 51, .ref 52, .ref 53, .int (kb)])))
  | 0, s, hs => by
    obtain rfl : s = L := by omega
    rw [s_X11_advance_8]
    simp only [s_X11_advance_9, s_X11_advance_10, s_X11_advance_13, s_X11_advance_16, s_X11_advance_18, s_X11_advance_21, s_X11_advance_22, s_X11_advance_22i, s_X11_advance_23, s_X11_advance_26, s_X11_advance_27, s_X11_advance_28, s_X11_advance_31, up_at, mcu, sp_byteAt x hL (Nat.le_refl _), bA_e, show ((-1 : Int32) = 32) = False from by decide, rnL, List.getElem?_cons_zero, List.getElem?_cons_succ, ob1_s, b2_t, b2_f, z1, cI, List.set_cons_zero, List.set_cons_succ, List.length_cons, List.length_nil, Nat.reduceAdd, Nat.reduceLT, Nat.zero_lt_succ, Bool.false_and, Bool.and_false, Bool.true_and, Bool.and_true, Bool.false_eq_true, ck0, ck1, ck2, ck3, ck4, Option.toList_some, Option.toList_none, List.cons_append, List.nil_append, gf_hit, pf_hit, ai_hit, al_hit, ar_hit, ob_hit, if_true, if_false, reduceIte, reduceCtorEq]
  | k + 1, s, hs => by
    rw [s_X11_advance_8]
    by_cases h2 : t s = 32
    · have ih := mp_skip x hL k (s + 1) (by omega)
      rw [rnL_s (P := isSp) (by unfold isSp; rw [h2]; decide)]
      simp only [s_X11_advance_9, s_X11_advance_10, s_X11_advance_13, s_X11_advance_16, s_X11_advance_18, s_X11_advance_21, s_X11_advance_22, s_X11_advance_22i, s_X11_advance_23, s_X11_advance_26, s_X11_advance_27, s_X11_advance_28, s_X11_advance_31, up_at, up_up, mcu, sp_byteAt x hL (show s ≤ L by omega), bA_s (show s < L by omega), h2, nI_1, List.getElem?_cons_zero, List.getElem?_cons_succ, ob1_s, b2_t, b2_f, z1, cI, List.set_cons_zero, List.set_cons_succ, List.length_cons, List.length_nil, Nat.reduceAdd, Nat.reduceLT, Nat.zero_lt_succ, Bool.false_and, Bool.and_false, Bool.true_and, Bool.and_true, Bool.false_eq_true, ck0, ck1, ck2, ck3, ck4, Option.toList_some, Option.toList_none, List.cons_append, List.nil_append, gf_hit, pf_hit, ai_hit, al_hit, ar_hit, ob_hit, if_true, if_false, reduceIte, reduceCtorEq]
      exact ih
    · rw [rnL_e (P := isSp) (by unfold isSp; rw [decide_eq_false h2])]
      simp only [s_X11_advance_9, s_X11_advance_10, s_X11_advance_13, s_X11_advance_16, s_X11_advance_18, s_X11_advance_21, s_X11_advance_22, s_X11_advance_22i, s_X11_advance_23, s_X11_advance_26, s_X11_advance_27, s_X11_advance_28, s_X11_advance_31, up_at, mcu, sp_byteAt x hL (show s ≤ L by omega), bA_s (show s < L by omega), h2, List.getElem?_cons_zero, List.getElem?_cons_succ, ob1_s, b2_t, b2_f, z1, cI, List.set_cons_zero, List.set_cons_succ, List.length_cons, List.length_nil, Nat.reduceAdd, Nat.reduceLT, Nat.zero_lt_succ, Bool.false_and, Bool.and_false, Bool.true_and, Bool.and_true, Bool.false_eq_true, ck0, ck1, ck2, ck3, ck4, Option.toList_some, Option.toList_none, List.cons_append, List.nil_append, gf_hit, pf_hit, ai_hit, al_hit, ar_hit, ob_hit, if_true, if_false, reduceIte, reduceCtorEq]
theorem wv_s {s n b : Nat} (h1 : 97 ≤ b) (h2 : b ≤ 122) (hb : t (s + n) = nI b) (hn : n < 12) : (27 : Int64) * wv t s n + (nI b).toInt64 - 96 = wv t s (n + 1) := by
  unfold wv
  rw [if_pos (by omega), if_pos (by omega), nI_l (by omega)]
  show lN 27 * lN _ + lN b - lN 96 = _
  rw [lN_mul, lN_add, lN_sub (by omega)]
  congr 1
  show _ = ((t (s + n)).toNatClampNeg - 96) + 27 * hr (rlF t s n)
  rw [hb, nI_clamp (by omega)]
  omega

theorem mp_word (x : h.1 47 = some (cI 120 t)) (hL : L ≤ 120) {b : Int32} {s : Nat} : ∀ (k n : Nat), s + n + k = L → den sc (d + 2) MX11_advance 126 [some (.ref 42), some (.int b)] [] (mx_up h 42 (.inr (11, [.ref 43, .ref 44, .ref 45, .ref 46, .ref 47, .int (nI L), .int (1), .int (nI s), .int (nI (s + n)), .long (wv t s n), .int (va), .int (go), .ref 48, .ref 49, .ref 50, .ref 51, .ref 52, .ref 53, .int (kb)]))) = den sc (d + 2) MX11_advance 207 [some (.ref 42), some (.int b)] [] (mx_up h 42 (.inr (11, [.ref 43, .ref 44, .ref 45, .ref 46, .ref 47, .int (nI L), .int (1), .int (nI s), .int (nI (rnL isLt t k (s + n))), .long (wv t s (rnL isLt t k (s + n) - s)), .int (va), .int (go), .ref 48, .ref 49, .ref 50, .ref 51, .ref 52, .ref 53, .int (kb)])))
  | 0, n, hs => by
    have hsn : s + n = L := by omega
    have e1 : rnL isLt t 0 (s + n) = s + n := rfl
    rw [e1, show s + n - s = n by omega, s_X11_advance_126]
    have hb := sp_byteAt (sc := sc) (d := d + 1) (so := 1) (be := nI s) (te := nI (s + n)) (wd := wv t s n) (va := va) (go := go) (kb := kb) x hL (show s + n ≤ L by omega)
    rw [show bA t L (s + n) = -1 from if_neg (by omega)] at hb
    simp only [s_X11_advance_127, s_X11_advance_130, s_X11_advance_131, s_X11_advance_134, s_X11_advance_135, s_X11_advance_136, s_X11_advance_139, s_X11_advance_142, s_X11_advance_145, up_at, mcu, hb, sp_mLetter, lt_m1, List.getElem?_cons_zero, List.getElem?_cons_succ, ob1_s, b2_t, b2_f, z1, cI, List.set_cons_zero, List.set_cons_succ, List.length_cons, List.length_nil, Nat.reduceAdd, Nat.reduceLT, Nat.zero_lt_succ, Bool.false_and, Bool.and_false, Bool.true_and, Bool.and_true, Bool.false_eq_true, ck0, ck1, ck2, ck3, ck4, Option.toList_some, Option.toList_none, List.cons_append, List.nil_append, gf_hit, pf_hit, ai_hit, al_hit, ar_hit, ob_hit, if_true, if_false, reduceIte, reduceCtorEq]
  | k + 1, n, hs => by
    have hb := sp_byteAt (sc := sc) (d := d + 1) (so := 1) (be := nI s) (te := nI (s + n)) (wd := wv t s n) (va := va) (go := go) (kb := kb) x hL (show s + n ≤ L by omega)
    rw [bA_s (show s + n < L by omega)] at hb
    rw [s_X11_advance_126]
    cases h2 : isLt (t (s + n))
    · rw [rnL_e (P := isLt) h2, show s + n - s = n by omega]
      simp only [s_X11_advance_127, s_X11_advance_130, s_X11_advance_131, s_X11_advance_134, s_X11_advance_135, s_X11_advance_136, s_X11_advance_139, s_X11_advance_142, s_X11_advance_145, up_at, mcu, hb, sp_mLetter, h2, List.getElem?_cons_zero, List.getElem?_cons_succ, ob1_s, b2_t, b2_f, z1, cI, List.set_cons_zero, List.set_cons_succ, List.length_cons, List.length_nil, Nat.reduceAdd, Nat.reduceLT, Nat.zero_lt_succ, Bool.false_and, Bool.and_false, Bool.true_and, Bool.and_true, Bool.false_eq_true, ck0, ck1, ck2, ck3, ck4, Option.toList_some, Option.toList_none, List.cons_append, List.nil_append, gf_hit, pf_hit, ai_hit, al_hit, ar_hit, ob_hit, if_true, if_false, reduceIte, reduceCtorEq]
    · obtain ⟨y, hy1, hy2, hy⟩ := isLt_n h2
      have ih := mp_word x hL (b := b) (s := s) k (n + 1) (by omega)
      have esub : nI (s + n) - nI s = nI n := by rw [pk_sub (by omega)]; congr 1; omega
      rw [rnL_s (P := isLt) h2]
      rw [show s + (n + 1) = s + n + 1 by omega] at ih
      by_cases h3 : n < 12
      · have h4 : ¬ (12 : Int32) ≤ nI n := nI_ge (b := 12) h3 (by decide)
        have hw := wv_s hy1 hy2 hy h3
        rw [← hy] at hw
        simp only [s_X11_advance_127, s_X11_advance_130, s_X11_advance_131, s_X11_advance_134, s_X11_advance_135, s_X11_advance_136, s_X11_advance_139, s_X11_advance_142, s_X11_advance_145, s_X11_advance_148, s_X11_advance_149, s_X11_advance_150, s_X11_advance_153, s_X11_advance_154, s_X11_advance_157, s_X11_advance_158, s_X11_advance_160, s_X11_advance_163, s_X11_advance_166, s_X11_advance_167, s_X11_advance_170, s_X11_advance_171, s_X11_advance_172, s_X11_advance_173, s_X11_advance_176, s_X11_advance_179, s_X11_advance_180, s_X11_advance_181, s_X11_advance_184, s_X11_advance_185, s_X11_advance_188, s_X11_advance_191, s_X11_advance_194, s_X11_advance_195, s_X11_advance_195i, s_X11_advance_196, s_X11_advance_199, s_X11_advance_200, s_X11_advance_201, s_X11_advance_204, up_at, up_up, mcu, hb, sp_mLetter, h2, esub, h4, hw, nI_1, List.getElem?_cons_zero, List.getElem?_cons_succ, ob1_s, b2_t, b2_f, z1, cI, List.set_cons_zero, List.set_cons_succ, List.length_cons, List.length_nil, Nat.reduceAdd, Nat.reduceLT, Nat.zero_lt_succ, Bool.false_and, Bool.and_false, Bool.true_and, Bool.and_true, Bool.false_eq_true, ck0, ck1, ck2, ck3, ck4, Option.toList_some, Option.toList_none, List.cons_append, List.nil_append, gf_hit, pf_hit, ai_hit, al_hit, ar_hit, ob_hit, if_true, if_false, reduceIte, reduceCtorEq]
        exact ih
      · have h4 : (12 : Int32) ≤ nI n := nI_le (a := 12) (by omega) (by omega)
        have hw : (-1 : Int64) = wv t s (n + 1) := (if_neg (by omega)).symm
        simp only [s_X11_advance_127, s_X11_advance_130, s_X11_advance_131, s_X11_advance_134, s_X11_advance_135, s_X11_advance_136, s_X11_advance_139, s_X11_advance_142, s_X11_advance_145, s_X11_advance_148, s_X11_advance_149, s_X11_advance_150, s_X11_advance_153, s_X11_advance_154, s_X11_advance_157, s_X11_advance_158, s_X11_advance_160, s_X11_advance_163, s_X11_advance_166, s_X11_advance_167, s_X11_advance_170, s_X11_advance_171, s_X11_advance_172, s_X11_advance_173, s_X11_advance_176, s_X11_advance_179, s_X11_advance_180, s_X11_advance_181, s_X11_advance_184, s_X11_advance_185, s_X11_advance_188, s_X11_advance_191, s_X11_advance_194, s_X11_advance_195, s_X11_advance_195i, s_X11_advance_196, s_X11_advance_199, s_X11_advance_200, s_X11_advance_201, s_X11_advance_204, up_at, up_up, mcu, hb, sp_mLetter, h2, esub, h4, nI_1, List.getElem?_cons_zero, List.getElem?_cons_succ, ob1_s, b2_t, b2_f, z1, cI, List.set_cons_zero, List.set_cons_succ, List.length_cons, List.length_nil, Nat.reduceAdd, Nat.reduceLT, Nat.zero_lt_succ, Bool.false_and, Bool.and_false, Bool.true_and, Bool.and_true, Bool.false_eq_true, ck0, ck1, ck2, ck3, ck4, Option.toList_some, Option.toList_none, List.cons_append, List.nil_append, gf_hit, pf_hit, ai_hit, al_hit, ar_hit, ob_hit, if_true, if_false, reduceIte, reduceCtorEq]
        rw [hw]
        exact ih
theorem mvL_le {t : Nat → Int32} : ∀ (k q v : Nat), v ≤ 10000 → mvL t k q v ≤ 10000
  | 0, _, _, h => h
  | k + 1, q, v, h => by
    unfold mvL
    split
    · rename_i hd
      obtain ⟨y, hy1, hy2, hy⟩ := isDg_n hd
      refine mvL_le k (q + 1) _ ?_
      rw [hy, nI_clamp (by omega)]
      split <;> omega
    · exact h

theorem mp_num (x : h.1 47 = some (cI 120 t)) (hL : L ≤ 120) {b : Int32} {s : Nat} : ∀ (k u v : Nat), u + k = L → v ≤ 10000 → den sc (d + 2) MX11_advance 207 [some (.ref 42), some (.int b)] [] (mx_up h 42 (.inr (11, [.ref 43, .ref 44, .ref 45, .ref 46, .ref 47, .int (nI L), .int (2), .int (nI s), .int (nI u), .long (wd), .int (nI v), .int (go), .ref 48, .ref 49, .ref 50, .ref 51, .ref 52, .ref 53, .int (kb)]))) = some (none, (mx_up h 42 (.inr (11, [.ref 43, .ref 44, .ref 45, .ref 46, .ref 47, .int (nI L), .int (2), .int (nI s), .int (nI (rnL isDg t k u)), .long (wd), .int (nI (mvL t k u v)), .int (go), .ref 48, .ref 49, .ref 50, .ref 51, .ref 52, .ref 53, .int (kb)]))))
  | 0, u, v, hs, hv => by
    have hsn : u = L := by omega
    have hb := sp_byteAt (sc := sc) (d := d + 1) (so := 2) (be := nI s) (te := nI u) (wd := wd) (va := nI v) (go := go) (kb := kb) x hL (show u ≤ L by omega)
    rw [show bA t L u = -1 from if_neg (by omega)] at hb
    rw [s_X11_advance_207]
    simp only [s_X11_advance_208, s_X11_advance_211, s_X11_advance_212, s_X11_advance_215, s_X11_advance_216, s_X11_advance_217, s_X11_advance_220, s_X11_advance_223, s_X11_advance_226, s_X11_advance_229, s_X11_advance_230, s_X11_advance_231, s_X11_advance_234, s_X11_advance_237, s_X11_advance_240, s_X11_advance_243, s_X11_advance_246, s_X11_advance_248, s_X11_advance_249, s_X11_advance_252, s_X11_advance_253, s_X11_advance_254, s_X11_advance_255, s_X11_advance_258, s_X11_advance_261, s_X11_advance_262, s_X11_advance_264, s_X11_advance_265, s_X11_advance_268, s_X11_advance_269, s_X11_advance_269i, s_X11_advance_270, s_X11_advance_273, s_X11_advance_274, s_X11_advance_275, s_X11_advance_278, s_X11_advance_281, up_at, mcu, hb, sp_mDigit, dg_m1, rnL, mvL, List.getElem?_cons_zero, List.getElem?_cons_succ, ob1_s, b2_t, b2_f, z1, cI, List.set_cons_zero, List.set_cons_succ, List.length_cons, List.length_nil, Nat.reduceAdd, Nat.reduceLT, Nat.zero_lt_succ, Bool.false_and, Bool.and_false, Bool.true_and, Bool.and_true, Bool.false_eq_true, ck0, ck1, ck2, ck3, ck4, Option.toList_some, Option.toList_none, List.cons_append, List.nil_append, gf_hit, pf_hit, ai_hit, al_hit, ar_hit, ob_hit, if_true, if_false, reduceIte, reduceCtorEq]
  | k + 1, u, v, hs, hv => by
    have hb := sp_byteAt (sc := sc) (d := d + 1) (so := 2) (be := nI s) (te := nI u) (wd := wd) (va := nI v) (go := go) (kb := kb) x hL (show u ≤ L by omega)
    rw [bA_s (show u < L by omega)] at hb
    rw [s_X11_advance_207]
    cases h2 : isDg (t u)
    · rw [rnL_e (P := isDg) h2, show mvL t (k + 1) u v = v from if_neg (by rw [h2]; decide)]
      simp only [s_X11_advance_208, s_X11_advance_211, s_X11_advance_212, s_X11_advance_215, s_X11_advance_216, s_X11_advance_217, s_X11_advance_220, s_X11_advance_223, s_X11_advance_226, s_X11_advance_229, s_X11_advance_230, s_X11_advance_231, s_X11_advance_234, s_X11_advance_237, s_X11_advance_240, s_X11_advance_243, s_X11_advance_246, s_X11_advance_248, s_X11_advance_249, s_X11_advance_252, s_X11_advance_253, s_X11_advance_254, s_X11_advance_255, s_X11_advance_258, s_X11_advance_261, s_X11_advance_262, s_X11_advance_264, s_X11_advance_265, s_X11_advance_268, s_X11_advance_269, s_X11_advance_269i, s_X11_advance_270, s_X11_advance_273, s_X11_advance_274, s_X11_advance_275, s_X11_advance_278, s_X11_advance_281, up_at, mcu, hb, sp_mDigit, h2, List.getElem?_cons_zero, List.getElem?_cons_succ, ob1_s, b2_t, b2_f, z1, cI, List.set_cons_zero, List.set_cons_succ, List.length_cons, List.length_nil, Nat.reduceAdd, Nat.reduceLT, Nat.zero_lt_succ, Bool.false_and, Bool.and_false, Bool.true_and, Bool.and_true, Bool.false_eq_true, ck0, ck1, ck2, ck3, ck4, Option.toList_some, Option.toList_none, List.cons_append, List.nil_append, gf_hit, pf_hit, ai_hit, al_hit, ar_hit, ob_hit, if_true, if_false, reduceIte, reduceCtorEq]
    · obtain ⟨y, hy1, hy2, hy⟩ := isDg_n h2
      have ih := mp_num x hL (b := b) (s := s) k (u + 1) (if 999 < v then 10000 else 10 * v + (y - 48)) (by omega) (by split <;> omega)
      rw [rnL_s (P := isDg) h2, show mvL t (k + 1) u v = mvL t k (u + 1) (if 999 < v then 10000 else 10 * v + (y - 48)) from by
        show (if _ then _ else _) = _
        rw [if_pos h2, hy, nI_clamp (by omega)]]
      by_cases h3 : 999 < v
      · have h4 : ¬ nI v ≤ (999 : Int32) := nI_ge (a := 999) h3 (by omega)
        rw [if_pos h3] at ih ⊢
        simp only [s_X11_advance_208, s_X11_advance_211, s_X11_advance_212, s_X11_advance_215, s_X11_advance_216, s_X11_advance_217, s_X11_advance_220, s_X11_advance_223, s_X11_advance_226, s_X11_advance_229, s_X11_advance_230, s_X11_advance_231, s_X11_advance_234, s_X11_advance_237, s_X11_advance_240, s_X11_advance_243, s_X11_advance_246, s_X11_advance_248, s_X11_advance_249, s_X11_advance_252, s_X11_advance_253, s_X11_advance_254, s_X11_advance_255, s_X11_advance_258, s_X11_advance_261, s_X11_advance_262, s_X11_advance_264, s_X11_advance_265, s_X11_advance_268, s_X11_advance_269, s_X11_advance_269i, s_X11_advance_270, s_X11_advance_273, s_X11_advance_274, s_X11_advance_275, s_X11_advance_278, s_X11_advance_281, up_at, up_up, mcu, hb, sp_mDigit, h2, h4, nI_1, List.getElem?_cons_zero, List.getElem?_cons_succ, ob1_s, b2_t, b2_f, z1, cI, List.set_cons_zero, List.set_cons_succ, List.length_cons, List.length_nil, Nat.reduceAdd, Nat.reduceLT, Nat.zero_lt_succ, Bool.false_and, Bool.and_false, Bool.true_and, Bool.and_true, Bool.false_eq_true, ck0, ck1, ck2, ck3, ck4, Option.toList_some, Option.toList_none, List.cons_append, List.nil_append, gf_hit, pf_hit, ai_hit, al_hit, ar_hit, ob_hit, if_true, if_false, reduceIte, reduceCtorEq]
        exact ih
      · have h4 : nI v ≤ (999 : Int32) := nI_le (b := 999) (by omega) (by decide)
        have e10 : (10 : Int32) * nI v + t u - 48 = nI (10 * v + (y - 48)) := by
          rw [hy]
          show nI 10 * nI v + nI y - nI 48 = _
          rw [pk_mul, nI_add, pk_sub (by omega)]
          congr 1
          omega
        rw [if_neg h3] at ih ⊢
        simp only [s_X11_advance_208, s_X11_advance_211, s_X11_advance_212, s_X11_advance_215, s_X11_advance_216, s_X11_advance_217, s_X11_advance_220, s_X11_advance_223, s_X11_advance_226, s_X11_advance_229, s_X11_advance_230, s_X11_advance_231, s_X11_advance_234, s_X11_advance_237, s_X11_advance_240, s_X11_advance_243, s_X11_advance_246, s_X11_advance_248, s_X11_advance_249, s_X11_advance_252, s_X11_advance_253, s_X11_advance_254, s_X11_advance_255, s_X11_advance_258, s_X11_advance_261, s_X11_advance_262, s_X11_advance_264, s_X11_advance_265, s_X11_advance_268, s_X11_advance_269, s_X11_advance_269i, s_X11_advance_270, s_X11_advance_273, s_X11_advance_274, s_X11_advance_275, s_X11_advance_278, s_X11_advance_281, up_at, up_up, mcu, hb, sp_mDigit, h2, h4, e10, nI_1, List.getElem?_cons_zero, List.getElem?_cons_succ, ob1_s, b2_t, b2_f, z1, cI, List.set_cons_zero, List.set_cons_succ, List.length_cons, List.length_nil, Nat.reduceAdd, Nat.reduceLT, Nat.zero_lt_succ, Bool.false_and, Bool.and_false, Bool.true_and, Bool.and_true, Bool.false_eq_true, ck0, ck1, ck2, ck3, ck4, Option.toList_some, Option.toList_none, List.cons_append, List.nil_append, gf_hit, pf_hit, ai_hit, al_hit, ar_hit, ob_hit, if_true, if_false, reduceIte, reduceCtorEq]
        exact ih

theorem mp_advance (x : h.1 47 = some (cI 120 t)) (hL : L ≤ 120) (hB : ∀ i, i < 120 → nlt 256 (t i)) {q : Nat} (hq : q ≤ L) : call sc (d + 2) MX11_advance [.ref 42] (mx_up h 42 (.inr (11, [.ref 43, .ref 44, .ref 45, .ref 46, .ref 47, .int (nI L), .int (so), .int (be), .int (nI q), .long (wd), .int (va), .int (go), .ref 48, .ref 49, .ref 50, .ref 51, .ref 52, .ref 53, .int (kb)]))) = some (none, (mx_up h 42 (.inr (11, [.ref 43, .ref 44, .ref 45, .ref 46, .ref 47, .int (nI L), .int (nI (soQ t L q)), .int (nI (sk t L q)), .int (nI (en t L q)), .long (wdQ t L q), .int (vaQ t L q), .int (go), .ref 48, .ref 49, .ref 50, .ref 51, .ref 52, .ref 53, .int (kb)])))) := by
  have h1 := mp_skip (sc := sc) (d := d + 1) (so := so) (te := nI q) (wd := wd) (va := va) (go := go) (kb := kb) x hL (L - q) q (by omega)
  have hs := sk_le (t := t) hq
  have h2 : den sc (d + 2) MX11_advance 0 [some (.ref 42), none] [] (mx_up h 42 (.inr (11, [.ref 43, .ref 44, .ref 45, .ref 46, .ref 47, .int (nI L), .int (so), .int (be), .int (nI q), .long (wd), .int (va), .int (go), .ref 48, .ref 49, .ref 50, .ref 51, .ref 52, .ref 53, .int (kb)]))) = den sc (d + 2) MX11_advance 34 [some (.ref 42), none] [] (mx_up h 42 (.inr (11, [.ref 43, .ref 44, .ref 45, .ref 46, .ref 47, .int (nI L), .int (so), .int (nI (sk t L q)), .int (nI q), .long (wd), .int (va), .int (go), .ref 48, .ref 49, .ref 50, .ref 51, .ref 52, .ref 53, .int (kb)]))) := by
    simp only [s_X11_advance_0, s_X11_advance_1, s_X11_advance_2, s_X11_advance_5, up_at, up_up, List.getElem?_cons_zero, List.getElem?_cons_succ, ob1_s, b2_t, b2_f, z1, cI, List.set_cons_zero, List.set_cons_succ, List.length_cons, List.length_nil, Nat.reduceAdd, Nat.reduceLT, Nat.zero_lt_succ, Bool.false_and, Bool.and_false, Bool.true_and, Bool.and_true, Bool.false_eq_true, ck0, ck1, ck2, ck3, ck4, Option.toList_some, Option.toList_none, List.cons_append, List.nil_append, gf_hit, pf_hit, ai_hit, al_hit, ar_hit, ob_hit, if_true, if_false, reduceIte, reduceCtorEq]
    exact h1
  rw [c_X11_advance, h2]
  have hby := fun so te wd va go => sp_byteAt (sc := sc) (d := d + 1) (so := so) (be := nI (sk t L q)) (te := te) (wd := wd) (va := va) (go := go) (kb := kb) x hL (i := sk t L q) hs.2
  unfold soQ wdQ vaQ
  by_cases h3 : L ≤ sk t L q
  · have hk : kd t L q = 0 := if_pos h3
    have he : en t L q = sk t L q := if_pos h3
    have hbA : bA t L (sk t L q) = -1 := if_neg (by omega)
    rw [hbA] at hby
    rw [hk, he, hbA, if_neg (by decide), if_neg (by decide)]
    simp only [s_X11_advance_34, s_X11_advance_35, s_X11_advance_36, s_X11_advance_39, s_X11_advance_42, s_X11_advance_43, s_X11_advance_44, s_X11_advance_47, s_X11_advance_50, s_X11_advance_51, s_X11_advance_52, s_X11_advance_53, s_X11_advance_56, s_X11_advance_57, s_X11_advance_60, s_X11_advance_61, s_X11_advance_64, s_X11_advance_67, s_X11_advance_68, s_X11_advance_71, s_X11_advance_72, s_X11_advance_75, s_X11_advance_78, s_X11_advance_79, s_X11_advance_82, s_X11_advance_83, s_X11_advance_86, s_X11_advance_87, s_X11_advance_88, s_X11_advance_91, s_X11_advance_92, s_X11_advance_93, s_X11_advance_96, s_X11_advance_97, s_X11_advance_100, s_X11_advance_101, s_X11_advance_104, s_X11_advance_105, s_X11_advance_108, s_X11_advance_109, s_X11_advance_112, s_X11_advance_113, s_X11_advance_116, s_X11_advance_117, s_X11_advance_117i, s_X11_advance_118, s_X11_advance_121, s_X11_advance_122, s_X11_advance_123, s_X11_advance_126, s_X11_advance_127, s_X11_advance_130, s_X11_advance_131, s_X11_advance_134, s_X11_advance_135, s_X11_advance_136, s_X11_advance_139, s_X11_advance_142, s_X11_advance_145, s_X11_advance_148, s_X11_advance_149, s_X11_advance_150, s_X11_advance_153, s_X11_advance_154, s_X11_advance_157, s_X11_advance_158, s_X11_advance_160, s_X11_advance_163, s_X11_advance_166, s_X11_advance_167, s_X11_advance_170, s_X11_advance_171, s_X11_advance_172, s_X11_advance_173, s_X11_advance_176, s_X11_advance_179, s_X11_advance_180, s_X11_advance_181, s_X11_advance_184, s_X11_advance_185, s_X11_advance_188, s_X11_advance_191, s_X11_advance_194, s_X11_advance_195, s_X11_advance_195i, s_X11_advance_196, s_X11_advance_199, s_X11_advance_200, s_X11_advance_201, s_X11_advance_204, s_X11_advance_207, s_X11_advance_208, s_X11_advance_211, s_X11_advance_212, s_X11_advance_215, s_X11_advance_216, s_X11_advance_217, s_X11_advance_220, s_X11_advance_223, s_X11_advance_226, s_X11_advance_229, s_X11_advance_230, s_X11_advance_231, s_X11_advance_234, s_X11_advance_237, s_X11_advance_240, s_X11_advance_243, s_X11_advance_246, s_X11_advance_248, s_X11_advance_249, s_X11_advance_252, s_X11_advance_253, s_X11_advance_254, s_X11_advance_255, s_X11_advance_258, s_X11_advance_261, s_X11_advance_262, s_X11_advance_264, s_X11_advance_265, s_X11_advance_268, s_X11_advance_269, s_X11_advance_269i, s_X11_advance_270, s_X11_advance_273, s_X11_advance_274, s_X11_advance_275, s_X11_advance_278, s_X11_advance_281, up_at, up_up, mcu, hby, show ¬ (0 : Int32) ≤ -1 from by decide, ne02, ne03, ne01, List.getElem?_cons_zero, List.getElem?_cons_succ, ob1_s, b2_t, b2_f, z1, cI, List.set_cons_zero, List.set_cons_succ, List.length_cons, List.length_nil, Nat.reduceAdd, Nat.reduceLT, Nat.zero_lt_succ, Bool.false_and, Bool.and_false, Bool.true_and, Bool.and_true, Bool.false_eq_true, ck0, ck1, ck2, ck3, ck4, Option.toList_some, Option.toList_none, List.cons_append, List.nil_append, gf_hit, pf_hit, ai_hit, al_hit, ar_hit, ob_hit, if_true, if_false, reduceIte, reduceCtorEq]
    rfl
  · have hsl : sk t L q < L := by omega
    obtain ⟨y, hy, ey⟩ := hB (sk t L q) (by omega)
    have hpos : 0 ≤ t (sk t L q) := by rw [ey]; exact nI_pos' (by omega)
    have hbA : bA t L (sk t L q) = t (sk t L q) := if_pos hsl
    rw [hbA] at hby
    rw [hbA]
    cases h4 : isLt (t (sk t L q))
    · cases h5 : isDg (t (sk t L q))
      · have hk : kd t L q = 3 ∨ kd t L q = 4 := by
          unfold kd
          rw [if_neg h3, h4, h5]
          by_cases h6 : t (sk t L q) = 59
          · left; simp [h6]
          · right; simp [h6]
        have hm : min (kd t L q) 3 = 3 := by omega
        have he : en t L q = sk t L q + 1 := by
          unfold en
          rw [if_neg h3, h4, h5]
          rfl
        rw [hm, he, if_neg (by omega), if_neg (by omega)]
        simp only [s_X11_advance_34, s_X11_advance_35, s_X11_advance_36, s_X11_advance_39, s_X11_advance_42, s_X11_advance_43, s_X11_advance_44, s_X11_advance_47, s_X11_advance_50, s_X11_advance_51, s_X11_advance_52, s_X11_advance_53, s_X11_advance_56, s_X11_advance_57, s_X11_advance_60, s_X11_advance_61, s_X11_advance_64, s_X11_advance_67, s_X11_advance_68, s_X11_advance_71, s_X11_advance_72, s_X11_advance_75, s_X11_advance_78, s_X11_advance_79, s_X11_advance_82, s_X11_advance_83, s_X11_advance_86, s_X11_advance_87, s_X11_advance_88, s_X11_advance_91, s_X11_advance_92, s_X11_advance_93, s_X11_advance_96, s_X11_advance_97, s_X11_advance_100, s_X11_advance_101, s_X11_advance_104, s_X11_advance_105, s_X11_advance_108, s_X11_advance_109, s_X11_advance_112, s_X11_advance_113, s_X11_advance_116, s_X11_advance_117, s_X11_advance_117i, s_X11_advance_118, s_X11_advance_121, s_X11_advance_122, s_X11_advance_123, s_X11_advance_126, s_X11_advance_127, s_X11_advance_130, s_X11_advance_131, s_X11_advance_134, s_X11_advance_135, s_X11_advance_136, s_X11_advance_139, s_X11_advance_142, s_X11_advance_145, s_X11_advance_148, s_X11_advance_149, s_X11_advance_150, s_X11_advance_153, s_X11_advance_154, s_X11_advance_157, s_X11_advance_158, s_X11_advance_160, s_X11_advance_163, s_X11_advance_166, s_X11_advance_167, s_X11_advance_170, s_X11_advance_171, s_X11_advance_172, s_X11_advance_173, s_X11_advance_176, s_X11_advance_179, s_X11_advance_180, s_X11_advance_181, s_X11_advance_184, s_X11_advance_185, s_X11_advance_188, s_X11_advance_191, s_X11_advance_194, s_X11_advance_195, s_X11_advance_195i, s_X11_advance_196, s_X11_advance_199, s_X11_advance_200, s_X11_advance_201, s_X11_advance_204, s_X11_advance_207, s_X11_advance_208, s_X11_advance_211, s_X11_advance_212, s_X11_advance_215, s_X11_advance_216, s_X11_advance_217, s_X11_advance_220, s_X11_advance_223, s_X11_advance_226, s_X11_advance_229, s_X11_advance_230, s_X11_advance_231, s_X11_advance_234, s_X11_advance_237, s_X11_advance_240, s_X11_advance_243, s_X11_advance_246, s_X11_advance_248, s_X11_advance_249, s_X11_advance_252, s_X11_advance_253, s_X11_advance_254, s_X11_advance_255, s_X11_advance_258, s_X11_advance_261, s_X11_advance_262, s_X11_advance_264, s_X11_advance_265, s_X11_advance_268, s_X11_advance_269, s_X11_advance_269i, s_X11_advance_270, s_X11_advance_273, s_X11_advance_274, s_X11_advance_275, s_X11_advance_278, s_X11_advance_281, up_at, up_up, mcu, hby, hpos, sp_mLetter, sp_mDigit, h4, h5, ne32, ne31, nI_1, List.getElem?_cons_zero, List.getElem?_cons_succ, ob1_s, b2_t, b2_f, z1, cI, List.set_cons_zero, List.set_cons_succ, List.length_cons, List.length_nil, Nat.reduceAdd, Nat.reduceLT, Nat.zero_lt_succ, Bool.false_and, Bool.and_false, Bool.true_and, Bool.and_true, Bool.false_eq_true, ck0, ck1, ck2, ck3, ck4, Option.toList_some, Option.toList_none, List.cons_append, List.nil_append, gf_hit, pf_hit, ai_hit, al_hit, ar_hit, ob_hit, if_true, if_false, reduceIte, reduceCtorEq]
        rfl
      · have hk : kd t L q = 2 := by
          unfold kd
          rw [if_neg h3, h4, h5]
          rfl
        have he : en t L q = rnL isDg t (L - sk t L q) (sk t L q) := by
          unfold en
          rw [if_neg h3, h4, h5]
          rfl
        have h7 := mp_num (sc := sc) (d := d) (wd := 0) (go := go) (kb := kb) (b := t (sk t L q)) (s := sk t L q) x hL (L - sk t L q) (sk t L q) 0 (by omega) (by omega)
        rw [nI_0] at h7
        rw [hk, he, if_neg (by decide), if_pos rfl]
        simp only [s_X11_advance_34, s_X11_advance_35, s_X11_advance_36, s_X11_advance_39, s_X11_advance_42, s_X11_advance_43, s_X11_advance_44, s_X11_advance_47, s_X11_advance_50, s_X11_advance_51, s_X11_advance_52, s_X11_advance_53, s_X11_advance_56, s_X11_advance_57, s_X11_advance_60, s_X11_advance_61, s_X11_advance_64, s_X11_advance_67, s_X11_advance_68, s_X11_advance_71, s_X11_advance_72, s_X11_advance_75, s_X11_advance_78, s_X11_advance_79, s_X11_advance_82, s_X11_advance_83, s_X11_advance_86, s_X11_advance_87, s_X11_advance_88, s_X11_advance_91, s_X11_advance_92, s_X11_advance_93, s_X11_advance_96, s_X11_advance_97, s_X11_advance_100, s_X11_advance_101, s_X11_advance_104, s_X11_advance_105, s_X11_advance_108, s_X11_advance_109, s_X11_advance_112, s_X11_advance_113, s_X11_advance_116, s_X11_advance_117, s_X11_advance_117i, s_X11_advance_118, s_X11_advance_121, s_X11_advance_122, s_X11_advance_123, s_X11_advance_126, s_X11_advance_127, s_X11_advance_130, s_X11_advance_131, up_at, up_up, mcu, hby, hpos, sp_mLetter, sp_mDigit, h4, h5, ne23, ne21, h7, List.getElem?_cons_zero, List.getElem?_cons_succ, ob1_s, b2_t, b2_f, z1, cI, List.set_cons_zero, List.set_cons_succ, List.length_cons, List.length_nil, Nat.reduceAdd, Nat.reduceLT, Nat.zero_lt_succ, Bool.false_and, Bool.and_false, Bool.true_and, Bool.and_true, Bool.false_eq_true, ck0, ck1, ck2, ck3, ck4, Option.toList_some, Option.toList_none, List.cons_append, List.nil_append, gf_hit, pf_hit, ai_hit, al_hit, ar_hit, ob_hit, if_true, if_false, reduceIte, reduceCtorEq]
        rfl
    · have hk : kd t L q = 1 := by
        unfold kd
        rw [if_neg h3, h4]
        rfl
      have he : en t L q = rnL isLt t (L - sk t L q) (sk t L q) := by
        unfold en
        rw [if_neg h3, h4]
        rfl
      have h7 := mp_word (sc := sc) (d := d) (va := t (sk t L q)) (go := go) (kb := kb) (b := t (sk t L q)) (s := sk t L q) x hL (L - sk t L q) 0 (by omega)
      rw [show sk t L q + 0 = sk t L q from rfl, show wv t (sk t L q) 0 = 0 from rfl] at h7
      rw [hk, he, if_pos rfl, if_neg (by decide)]
      simp only [s_X11_advance_34, s_X11_advance_35, s_X11_advance_36, s_X11_advance_39, s_X11_advance_42, s_X11_advance_43, s_X11_advance_44, s_X11_advance_47, s_X11_advance_50, s_X11_advance_51, s_X11_advance_52, s_X11_advance_53, s_X11_advance_56, s_X11_advance_57, s_X11_advance_60, s_X11_advance_61, s_X11_advance_64, s_X11_advance_67, s_X11_advance_68, s_X11_advance_71, s_X11_advance_72, s_X11_advance_75, s_X11_advance_78, s_X11_advance_79, s_X11_advance_82, s_X11_advance_83, s_X11_advance_86, s_X11_advance_87, s_X11_advance_88, s_X11_advance_91, s_X11_advance_92, s_X11_advance_93, s_X11_advance_96, s_X11_advance_97, s_X11_advance_100, s_X11_advance_101, s_X11_advance_104, s_X11_advance_105, s_X11_advance_108, s_X11_advance_109, s_X11_advance_112, s_X11_advance_113, s_X11_advance_116, s_X11_advance_117, s_X11_advance_117i, s_X11_advance_118, s_X11_advance_121, s_X11_advance_122, s_X11_advance_123, up_at, up_up, mcu, hby, hpos, sp_mLetter, h4, ne12, ne13, h7, s_X11_advance_207, s_X11_advance_208, s_X11_advance_211, s_X11_advance_212, s_X11_advance_215, s_X11_advance_216, s_X11_advance_217, s_X11_advance_220, s_X11_advance_223, s_X11_advance_226, s_X11_advance_229, s_X11_advance_230, s_X11_advance_231, s_X11_advance_234, s_X11_advance_237, s_X11_advance_240, s_X11_advance_243, s_X11_advance_246, s_X11_advance_248, s_X11_advance_249, s_X11_advance_252, s_X11_advance_253, s_X11_advance_254, s_X11_advance_255, s_X11_advance_258, s_X11_advance_261, s_X11_advance_262, s_X11_advance_264, s_X11_advance_265, s_X11_advance_268, s_X11_advance_269, s_X11_advance_269i, s_X11_advance_270, s_X11_advance_273, s_X11_advance_274, s_X11_advance_275, s_X11_advance_278, s_X11_advance_281, List.getElem?_cons_zero, List.getElem?_cons_succ, ob1_s, b2_t, b2_f, z1, cI, List.set_cons_zero, List.set_cons_succ, List.length_cons, List.length_nil, Nat.reduceAdd, Nat.reduceLT, Nat.zero_lt_succ, Bool.false_and, Bool.and_false, Bool.true_and, Bool.and_true, Bool.false_eq_true, ck0, ck1, ck2, ck3, ck4, Option.toList_some, Option.toList_none, List.cons_append, List.nil_append, gf_hit, pf_hit, ai_hit, al_hit, ar_hit, ob_hit, if_true, if_false, reduceIte, reduceCtorEq]
      rfl
end
