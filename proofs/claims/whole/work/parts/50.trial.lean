/-! THE TRIAL: class and model -/
section
variable {sc : mx_X} {d : Nat} {h : mx_G} {A : AS} {G T : Fam} {i : Nat}
theorem CA.tc0 (x : CA h A) : (putF h 15 G).1 0 = some (.inr (10, [.ref 8, .ref 15, .ref 22, .int (b2 (aB A)), .ref 29, .ref 31, .ref 32, .ref 41])) := by rw [pF_o (by omega)]; exact x.c0
theorem CA.trc (x : CA h A) : mx_rc (putF h 15 G) 0 = some 10 := rc_hit x.tc0
theorem CA.tfam (x : CA h A) : FA (putF h 15 G) 8 (aF A) := x.fam.tr (same.put (a := 0) (b := 15) (by omega)) (by omega) (by omega)
theorem CA.tway (x : CA h A) : WY (putF h 15 G) := x.way.put (by omega)
theorem CA.tp0 (x : CA h A) : (putF h 15 G).1 8 = some (.inr (1, [.ref 1, .ref 9, .ref 10, .ref 11, .ref 12, .ref 13, .ref 14, .int (gn (aF A)), .int (gb (aF A)), .int (gy (aF A))])) := x.tfam.cells.1
theorem CA.tpp (x : CA h A) : mx_av sc (putF h 15 G) 12 = some (cI 8 (gp (aF A))) := av_hit x.tfam.cells.2.2.2.2.1
theorem CA.r15 (x : CA h A) : mx_rc h 15 = some 1 := (x.1.choose_spec).2.rc
theorem tt0 : (putF h 15 G).1 15 = some (.inr (1, [.ref 1, .ref 16, .ref 17, .ref 18, .ref 19, .ref 20, .ref 21, .int (gn G), .int (gb G), .int (gy G)])) := FA.of.t0
theorem trc15 : mx_rc (putF h 15 G) 15 = some 1 := FA.of.rc
theorem ttw : (putF h 15 G).1 16 = some (cI 16 (gw G)) := FA.of.tw
theorem vttw : mx_av sc (putF h 15 G) 16 = some (cI 16 (gw G)) := FA.of.vtw
theorem uttw {v : Nat → Int32} : mx_up (putF h 15 G) 16 (.inl (.int, 16, .inl v)) = putF h 15 (ww G v) := by
  rw [FA.of.utw, pF_pF]
theorem ttk : (putF h 15 G).1 17 = some (cI 8 (gk G)) := FA.of.tk
theorem vttk : mx_av sc (putF h 15 G) 17 = some (cI 8 (gk G)) := FA.of.vtk
theorem uttk {v : Nat → Int32} : mx_up (putF h 15 G) 17 (.inl (.int, 8, .inl v)) = putF h 15 (wk G v) := by
  rw [FA.of.utk, pF_pF]
theorem tta : (putF h 15 G).1 18 = some (cI 8 (ga G)) := FA.of.ta
theorem vtta : mx_av sc (putF h 15 G) 18 = some (cI 8 (ga G)) := FA.of.vta
theorem utta {v : Nat → Int32} : mx_up (putF h 15 G) 18 (.inl (.int, 8, .inl v)) = putF h 15 (wa G v) := by
  rw [FA.of.uta, pF_pF]
theorem ttp : (putF h 15 G).1 19 = some (cI 8 (gp G)) := FA.of.tp
theorem vttp : mx_av sc (putF h 15 G) 19 = some (cI 8 (gp G)) := FA.of.vtp
theorem uttp {v : Nat → Int32} : mx_up (putF h 15 G) 19 (.inl (.int, 8, .inl v)) = putF h 15 (wp G v) := by
  rw [FA.of.utp, pF_pF]
theorem ttc : (putF h 15 G).1 20 = some (cI 8 (gc G)) := FA.of.tc
theorem vttc : mx_av sc (putF h 15 G) 20 = some (cI 8 (gc G)) := FA.of.vtc
theorem uttc {v : Nat → Int32} : mx_up (putF h 15 G) 20 (.inl (.int, 8, .inl v)) = putF h 15 (wc G v) := by
  rw [FA.of.utc, pF_pF]
theorem ttl : (putF h 15 G).1 21 = some (cI 8 (gl G)) := FA.of.tl
theorem vttl : mx_av sc (putF h 15 G) 21 = some (cI 8 (gl G)) := FA.of.vtl
theorem uttl {v : Nat → Int32} : mx_up (putF h 15 G) 21 (.inl (.int, 8, .inl v)) = putF h 15 (wl G v) := by
  rw [FA.of.utl, pF_pF]
theorem CA.tpass (x : CA h A) (hG : FI G) {n : Nat} (hn : n < 2 ^ 31) : call sc (d + 5) MX1_passYears [.ref 15, .int (nI n)] (putF h 15 G) = some (none, putF h 15 (yearsF n G)) := by
  have y := fa_passYears (sc := sc) (d := d) (h := putF h 15 G) FA.of x.tway (by omega) hG hn
  rw [pF_pF] at y
  exact y
theorem CA.tpass1 (x : CA h A) (hG : FI G) : call sc (d + 5) MX1_passYears [.ref 15, .int 1] (putF h 15 G) = some (none, putF h 15 (yearF G)) := x.tpass hG (n := 1) (by decide)
theorem thas (hi : i < 8) {j : Nat} (hj : j < 32) : call sc (d + 1) MX1_has [.ref 15, .int (nI i), .int (nI j)] (putF h 15 G) = some (some (.int (b2 (bt (gp G i) j))), putF h 15 G) := fa_has FA.of hi hj
theorem tworth (hi : i < 8) : call sc (d + 2) MX1_pocketWorth [.ref 15, .int (nI i)] (putF h 15 G) = some (some (.int (valF (gp G i) (gw G))), putF h 15 G) := fa_pocketWorth FA.of hi
theorem XC.gt {c : Option (Option Value × mx_G)} {v : Value} {A' : AS} (y : XC (putF h 15 G) c v A') : XC h c v A' := y.go (same.put (by omega))
theorem CA.tq {f' : Nat → Int32} {v : Value} (x : CA h A) (hG : FI G) : XC h (some (some v, mx_up (putF h 15 G) 41 (cI 7 f'))) v (sQ A f') := XC.gt (XC.q (x.t hG))
/-- the model's stores -/
theorem MA.st (x : MA h A) {s : Nat} (hs : s = 45 ∨ s = 46 ∨ s = 53) : MA (mx_up h s (cI 59 (rowO G))) A := by
  obtain ⟨⟨so, be, te, wd, va, go, x0⟩, x1, x2, ⟨f3, x3, z3⟩, ⟨f4, x4, z4⟩, x5, x6, x7, x8, ⟨f, x9⟩, ⟨⟨f10, x10, z10⟩, x11⟩, ⟨f12, x12, z12⟩⟩ := x
  rcases hs with rfl | rfl | rfl
  · exact ⟨⟨so, be, te, wd, va, go, (up_o (by decide)).trans x0⟩, (up_o (by decide)).trans x1, (up_o (by decide)).trans x2, ⟨_, up_at, fun q hq => rowO_z hq⟩, ⟨f4, (up_o (by decide)).trans x4, z4⟩, (up_o (by decide)).trans x5, (up_o (by decide)).trans x6, (up_o (by decide)).trans x7, (up_o (by decide)).trans x8, ⟨f, (up_o (by decide)).trans x9⟩, ⟨⟨f10, (up_o (by decide)).trans x10, z10⟩, fun e => (up_o (by decide)).trans (x11 e)⟩, ⟨f12, (up_o (by decide)).trans x12, z12⟩⟩
  · exact ⟨⟨so, be, te, wd, va, go, (up_o (by decide)).trans x0⟩, (up_o (by decide)).trans x1, (up_o (by decide)).trans x2, ⟨f3, (up_o (by decide)).trans x3, z3⟩, ⟨_, up_at, fun q hq => rowO_z hq⟩, (up_o (by decide)).trans x5, (up_o (by decide)).trans x6, (up_o (by decide)).trans x7, (up_o (by decide)).trans x8, ⟨f, (up_o (by decide)).trans x9⟩, ⟨⟨f10, (up_o (by decide)).trans x10, z10⟩, fun e => (up_o (by decide)).trans (x11 e)⟩, ⟨f12, (up_o (by decide)).trans x12, z12⟩⟩
  · exact ⟨⟨so, be, te, wd, va, go, (up_o (by decide)).trans x0⟩, (up_o (by decide)).trans x1, (up_o (by decide)).trans x2, ⟨f3, (up_o (by decide)).trans x3, z3⟩, ⟨f4, (up_o (by decide)).trans x4, z4⟩, (up_o (by decide)).trans x5, (up_o (by decide)).trans x6, (up_o (by decide)).trans x7, (up_o (by decide)).trans x8, ⟨f, (up_o (by decide)).trans x9⟩, ⟨⟨f10, (up_o (by decide)).trans x10, z10⟩, fun e => (up_o (by decide)).trans (x11 e)⟩, ⟨_, up_at, fun q hq => rowO_z hq⟩⟩
theorem MA.stc (x : MA h A) {s : Nat} (hs : s = 45 ∨ s = 46 ∨ s = 53) : ST h s := by
  rcases hs with rfl | rfl | rfl
  · exact x.2.2.2.1
  · exact x.2.2.2.2.1
  · exact x.2.2.2.2.2.2.2.2.2.2.2
theorem ma_keep (x : MA h A) {s : Nat} (hs : s = 45 ∨ s = 46 ∨ s = 53) : call sc d MX11_moveAll [.ref 42, .int 1, .ref s] h = some (none, mx_up h s (cI 59 (rowO (aF A)))) := by
  obtain ⟨fr, hm⟩ := x.hm
  obtain ⟨f, hf, hz⟩ := x.stc hs
  have y := sp_keep (sc := sc) (d := d) (F := aF A) hm (by omega) (by omega) hf hz
  rw [x.eq, (x.st (G := aF A) hs).eq] at y
  exact y
theorem ma_back (x : MA h A) {s : Nat} (hs : s = 45 ∨ s = 46 ∨ s = 53 ∨ s = 52) (hf : h.1 s = some (cI 59 (rowO G))) : call sc d MX11_moveAll [.ref 42, .int 0, .ref s] h = some (none, RF h G) := by
  obtain ⟨fr, hm⟩ := x.hm
  have y := sp_back (sc := sc) (d := d) (F := aF A) hm (by omega) (by omega) hf
  rw [x.eq] at y
  exact y
theorem st_same {s : Nat} {c : mx_C} (hs : s = 45 ∨ s = 46 ∨ s = 53) : same 0 42 h (mx_up h s c) := same.up (by omega)
/-- what is only thought of: h1 is h with the row kept at 45; the row now holds T -/
theorem MA.rf (x : MA h A) : MA (RF h T) (sF A T) := x.f
theorem ma_backT (x : MA h A) {s : Nat} (hs : s = 45 ∨ s = 46 ∨ s = 53) (hf : h.1 s = some (cI 59 (rowO (aF A)))) : call sc d MX11_moveAll [.ref 42, .int 0, .ref s] (RF h T) = some (none, h) := by
  have y := ma_back (sc := sc) (d := d) (x.rf (T := T)) (s := s) (G := aF A) (by omega) (by rw [rF_o (by omega)]; exact hf)
  rw [rF_rF, x.eq] at y
  exact y
theorem ma_passT (x : MA h A) (hT : FI T) {n : Nat} (hn : n < 2 ^ 31) : call sc (d + 6) MX11_passes [.ref 42, .int (nI n)] (RF h T) = some (none, RF h (yearsF n T)) := by
  have y := ma_passes (sc := sc) (d := d) (x.rf (T := T)) hT hn
  rw [rF_rF] at y
  exact y
theorem ma_yearT (x : MA h A) (hT : FI T) : call sc (d + 5) MX11_oneYear [.ref 42] (RF h T) = some (none, RF h (yearF T)) := by
  have y := ma_oneYear (sc := sc) (d := d) (x.rf (T := T)) hT
  rw [rF_rF] at y
  exact y
theorem ma_its2T (x : MA h A) (hi : i < 8) : call sc d MX11_its [.ref 42, .int (nI i), .int 2] (RF h T) = some (some (.int (gp T i)), RF h T) := ma_its2 (x.rf (T := T)) hi
theorem ma_its4T (x : MA h A) (hi : i < 8) : call sc d MX11_its [.ref 42, .int (nI i), .int 4] (RF h T) = some (some (.int (gl T i)), RF h T) := ma_its4 (x.rf (T := T)) hi
theorem ma_hasT (x : MA h A) (hi : i < 8) {j : Nat} (hj : j < 32) : call sc (d + 1) MX11_has [.ref 42, .int (nI i), .int (nI j)] (RF h T) = some (some (.int (b2 (bt (gp T i) j))), RF h T) := ma_has (x.rf (T := T)) hi hj
theorem ma_valueT (x : MA h A) {s : Int32} : call sc d MX11_valueOf [.ref 42, .int s] (RF h T) = some (some (.int (valF s (gw T))), RF h T) := by
  have y := ma_valueOf (sc := sc) (d := d) (s := s) (x.rf (T := T))
  rw [aF_sF] at y
  exact y
theorem ma_putsT0 (x : MA h A) (hi : i < 8) {v : Int32} : call sc d MX11_puts [.ref 42, .int (nI i), .int 0, .int v] (RF h T) = some (none, RF h (wk T (upd (gk T) i v))) := by
  have y := ma_puts0 (sc := sc) (d := d) (x.rf (T := T)) hi (v := v)
  rw [rF_rF] at y
  exact y
theorem ma_putsT1 (x : MA h A) (hi : i < 8) {v : Int32} : call sc d MX11_puts [.ref 42, .int (nI i), .int 1, .int v] (RF h T) = some (none, RF h (wa T (upd (ga T) i v))) := by
  have y := ma_puts1 (sc := sc) (d := d) (x.rf (T := T)) hi (v := v)
  rw [rF_rF] at y
  exact y
theorem ma_putsT2 (x : MA h A) (hi : i < 8) {v : Int32} : call sc d MX11_puts [.ref 42, .int (nI i), .int 2, .int v] (RF h T) = some (none, RF h (wp T (upd (gp T) i v))) := by
  have y := ma_puts2 (sc := sc) (d := d) (x.rf (T := T)) hi (v := v)
  rw [rF_rF] at y
  exact y
theorem MA.rT (x : MA h A) : mx_rc (RF h T) 42 = some 11 := (x.rf (T := T)).rc
/-- the model's own cell, the row being T -/
theorem rF_c {v : mx_C} (e : h.1 42 = some v) : (RF h T).1 42 = some v := (rF_o (by decide)).trans e
theorem rF_v : mx_av sc (RF h T) 43 = some (cI 59 (rowO T)) := av_hit rF_43
theorem rF_u {f : Nat → Int32} {G : Fam} (e : f = rowO G) : mx_up (RF h T) 43 (.inl (.int, 59, .inl f)) = RF h G := rF_up e
theorem mm_on (x : MA h A) (hI : AI A) (p n w : Int32) : XM h (call sc 10 MX11_on [.ref 42, .int p, .int n, .int w] h) (.int (o_on A p n w).1) (o_on A p n w).2 := by
  obtain ⟨so', be, te, wd, va, go, m0⟩ := x.c42
  rcases wiP hI.1 p with e | ⟨e, n1, j, hn, hg, hj, hj8, rfl⟩
  · simp only [c_X11_on, s_X11_on_0, s_X11_on_1, s_X11_on_2, s_X11_on_5, s_X11_on_8, s_X11_on_9, s_X11_on_10, s_X11_on_12, s_X11_on_15, s_X11_on_18, s_X11_on_19, s_X11_on_20, s_X11_on_21, s_X11_on_24, s_X11_on_27, s_X11_on_28, s_X11_on_30, s_X11_on_33, s_X11_on_34, s_X11_on_35, s_X11_on_36, s_X11_on_37, s_X11_on_40, s_X11_on_43, s_X11_on_44, s_X11_on_45, s_X11_on_48, s_X11_on_49, s_X11_on_50, s_X11_on_51, s_X11_on_54, s_X11_on_55, s_X11_on_58, s_X11_on_59, s_X11_on_62, s_X11_on_64, s_X11_on_65, s_X11_on_66, s_X11_on_67, s_X11_on_70, s_X11_on_73, s_X11_on_75, e, o_on, q0, m0, x.rc, x.c43, x.v43, x.f0, x.f1, x.f2, x.f3, x.f4, x.f5, x.f6, ma_isOne x, sp_mThing, sp_mKind, sp_mSheet, sp_in, sp_but, qs, ro_y, ro_b, ro_n, i59_0, i59_1, i59_2, c2, z0, c1, ix_0, ix_1, ix_2, ix_3, ix_4, ix_w, List.getElem?_cons_zero, List.getElem?_cons_succ, ob1_s, b2_t, b2_f, z1, cI, List.set_cons_zero, List.set_cons_succ, List.length_cons, List.length_nil, Nat.reduceAdd, Nat.reduceLT, Nat.zero_lt_succ, Bool.false_and, Bool.and_false, Bool.true_and, Bool.and_true, Bool.false_eq_true, ck0, ck1, ck2, ck3, ck4, Option.toList_some, Option.toList_none, List.cons_append, List.nil_append, gf_hit, pf_hit, ai_hit, al_hit, ar_hit, ob_hit, if_true, if_false, reduceIte, reduceCtorEq]
    exact XM.q x
  · rcases wi80 n with e2 | ⟨e2, m, hm, rfl⟩
    · simp only [c_X11_on, s_X11_on_0, s_X11_on_1, s_X11_on_2, s_X11_on_5, s_X11_on_8, s_X11_on_9, s_X11_on_10, s_X11_on_12, s_X11_on_15, s_X11_on_18, s_X11_on_19, s_X11_on_20, s_X11_on_21, s_X11_on_24, s_X11_on_27, s_X11_on_28, s_X11_on_30, s_X11_on_33, s_X11_on_34, s_X11_on_35, s_X11_on_36, s_X11_on_37, s_X11_on_40, s_X11_on_43, s_X11_on_44, s_X11_on_45, s_X11_on_48, s_X11_on_49, s_X11_on_50, s_X11_on_51, s_X11_on_54, s_X11_on_55, s_X11_on_58, s_X11_on_59, s_X11_on_62, s_X11_on_64, s_X11_on_65, s_X11_on_66, s_X11_on_67, s_X11_on_70, s_X11_on_73, s_X11_on_75, e, e2, o_on, q0, m0, x.rc, x.c43, x.v43, x.f0, x.f1, x.f2, x.f3, x.f4, x.f5, x.f6, ma_isOne x, sp_mThing, sp_mKind, sp_mSheet, sp_in, sp_but, qs, ro_y, ro_b, ro_n, i59_0, i59_1, i59_2, c2, z0, c1, ix_0, ix_1, ix_2, ix_3, ix_4, ix_w, List.getElem?_cons_zero, List.getElem?_cons_succ, ob1_s, b2_t, b2_f, z1, cI, List.set_cons_zero, List.set_cons_succ, List.length_cons, List.length_nil, Nat.reduceAdd, Nat.reduceLT, Nat.zero_lt_succ, Bool.false_and, Bool.and_false, Bool.true_and, Bool.and_true, Bool.false_eq_true, ck0, ck1, ck2, ck3, ck4, Option.toList_some, Option.toList_none, List.cons_append, List.nil_append, gf_hit, pf_hit, ai_hit, al_hit, ar_hit, ob_hit, if_true, if_false, reduceIte, reduceCtorEq]
      exact XM.q x
    · rcases wi01 w with e3 | ⟨e3, hw⟩
      · simp only [c_X11_on, s_X11_on_0, s_X11_on_1, s_X11_on_2, s_X11_on_5, s_X11_on_8, s_X11_on_9, s_X11_on_10, s_X11_on_12, s_X11_on_15, s_X11_on_18, s_X11_on_19, s_X11_on_20, s_X11_on_21, s_X11_on_24, s_X11_on_27, s_X11_on_28, s_X11_on_30, s_X11_on_33, s_X11_on_34, s_X11_on_35, s_X11_on_36, s_X11_on_37, s_X11_on_40, s_X11_on_43, s_X11_on_44, s_X11_on_45, s_X11_on_48, s_X11_on_49, s_X11_on_50, s_X11_on_51, s_X11_on_54, s_X11_on_55, s_X11_on_58, s_X11_on_59, s_X11_on_62, s_X11_on_64, s_X11_on_65, s_X11_on_66, s_X11_on_67, s_X11_on_70, s_X11_on_73, s_X11_on_75, e, e2, e3, o_on, q0, m0, x.rc, x.c43, x.v43, x.f0, x.f1, x.f2, x.f3, x.f4, x.f5, x.f6, ma_isOne x, sp_mThing, sp_mKind, sp_mSheet, sp_in, sp_but, qs, ro_y, ro_b, ro_n, i59_0, i59_1, i59_2, c2, z0, c1, ix_0, ix_1, ix_2, ix_3, ix_4, ix_w, List.getElem?_cons_zero, List.getElem?_cons_succ, ob1_s, b2_t, b2_f, z1, cI, List.set_cons_zero, List.set_cons_succ, List.length_cons, List.length_nil, Nat.reduceAdd, Nat.reduceLT, Nat.zero_lt_succ, Bool.false_and, Bool.and_false, Bool.true_and, Bool.and_true, Bool.false_eq_true, ck0, ck1, ck2, ck3, ck4, Option.toList_some, Option.toList_none, List.cons_append, List.nil_append, gf_hit, pf_hit, ai_hit, al_hit, ar_hit, ob_hit, if_true, if_false, reduceIte, reduceCtorEq]
        exact XM.q x
      · have hk := ma_keep (sc := sc) (d := 9) x (s := 45) (Or.inl rfl)
        have y := x.st (G := aF A) (s := 45) (Or.inl rfl)
        have m1 : (mx_up h 45 (cI 59 (rowO (aF A)))).1 42 = _ := (up_o (by decide)).trans m0
        have s1 : same 0 42 h (mx_up h 45 (cI 59 (rowO (aF A)))) := same.up (by omega)
        have s45 : (mx_up h 45 (cI 59 (rowO (aF A)))).1 45 = some (cI 59 (rowO (aF A))) := up_at
        generalize mx_up h 45 (cI 59 (rowO (aF A))) = h1 at *
        have hp := ma_passes (sc := sc) (d := 3) y hI.1 (show m < 2 ^ 31 by omega)
        rcases hw with rfl | rfl
        · simp only [c_X11_on, s_X11_on_0, s_X11_on_1, s_X11_on_2, s_X11_on_5, s_X11_on_8, s_X11_on_9, s_X11_on_10, s_X11_on_12, s_X11_on_15, s_X11_on_18, s_X11_on_19, s_X11_on_20, s_X11_on_21, s_X11_on_24, s_X11_on_27, s_X11_on_28, s_X11_on_30, s_X11_on_33, s_X11_on_34, s_X11_on_35, s_X11_on_36, s_X11_on_37, s_X11_on_40, s_X11_on_43, s_X11_on_44, s_X11_on_45, s_X11_on_48, s_X11_on_49, s_X11_on_50, s_X11_on_51, s_X11_on_54, s_X11_on_55, s_X11_on_58, s_X11_on_59, s_X11_on_62, s_X11_on_64, s_X11_on_65, s_X11_on_66, s_X11_on_67, s_X11_on_70, s_X11_on_73, s_X11_on_75, e, e2, e3, o_on, hk, hp, y.rc, y.rT, rF_c m1, ma_its2T y hj8, ma_backT y (Or.inl rfl) s45, cl8 hj8, nI_clamp (show m < 2 ^ 31 by omega), m0, x.rc, x.c43, x.v43, x.f0, x.f1, x.f2, x.f3, x.f4, x.f5, x.f6, ma_isOne x, sp_mThing, sp_mKind, sp_mSheet, sp_in, sp_but, qs, ro_y, ro_b, ro_n, i59_0, i59_1, i59_2, c2, z0, c1, ix_0, ix_1, ix_2, ix_3, ix_4, ix_w, List.getElem?_cons_zero, List.getElem?_cons_succ, ob1_s, b2_t, b2_f, z1, cI, List.set_cons_zero, List.set_cons_succ, List.length_cons, List.length_nil, Nat.reduceAdd, Nat.reduceLT, Nat.zero_lt_succ, Bool.false_and, Bool.and_false, Bool.true_and, Bool.and_true, Bool.false_eq_true, ck0, ck1, ck2, ck3, ck4, Option.toList_some, Option.toList_none, List.cons_append, List.nil_append, gf_hit, pf_hit, ai_hit, al_hit, ar_hit, ob_hit, if_true, if_false, reduceIte, reduceCtorEq]
          exact (XM.r y).go s1
        · simp only [c_X11_on, s_X11_on_0, s_X11_on_1, s_X11_on_2, s_X11_on_5, s_X11_on_8, s_X11_on_9, s_X11_on_10, s_X11_on_12, s_X11_on_15, s_X11_on_18, s_X11_on_19, s_X11_on_20, s_X11_on_21, s_X11_on_24, s_X11_on_27, s_X11_on_28, s_X11_on_30, s_X11_on_33, s_X11_on_34, s_X11_on_35, s_X11_on_36, s_X11_on_37, s_X11_on_40, s_X11_on_43, s_X11_on_44, s_X11_on_45, s_X11_on_48, s_X11_on_49, s_X11_on_50, s_X11_on_51, s_X11_on_54, s_X11_on_55, s_X11_on_58, s_X11_on_59, s_X11_on_62, s_X11_on_64, s_X11_on_65, s_X11_on_66, s_X11_on_67, s_X11_on_70, s_X11_on_73, s_X11_on_75, e, e2, e3, o_on, hk, hp, y.rc, y.rT, rF_c m1, ma_its4T y hj8, ma_backT y (Or.inl rfl) s45, cl8 hj8, nI_clamp (show m < 2 ^ 31 by omega), ne10, m0, x.rc, x.c43, x.v43, x.f0, x.f1, x.f2, x.f3, x.f4, x.f5, x.f6, ma_isOne x, sp_mThing, sp_mKind, sp_mSheet, sp_in, sp_but, qs, ro_y, ro_b, ro_n, i59_0, i59_1, i59_2, c2, z0, c1, ix_0, ix_1, ix_2, ix_3, ix_4, ix_w, List.getElem?_cons_zero, List.getElem?_cons_succ, ob1_s, b2_t, b2_f, z1, cI, List.set_cons_zero, List.set_cons_succ, List.length_cons, List.length_nil, Nat.reduceAdd, Nat.reduceLT, Nat.zero_lt_succ, Bool.false_and, Bool.and_false, Bool.true_and, Bool.and_true, Bool.false_eq_true, ck0, ck1, ck2, ck3, ck4, Option.toList_some, Option.toList_none, List.cons_append, List.nil_append, gf_hit, pf_hit, ai_hit, al_hit, ar_hit, ob_hit, if_true, if_false, reduceIte, reduceCtorEq]
          exact (XM.r y).go s1
end
