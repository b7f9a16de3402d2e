/-! THE MODEL OVER A STATE -/
section
variable {sc : mx_X} {d : Nat} {h : mx_G} {A : AS} {i : Nat} {s : Int32}
theorem MA.c42 (x : MA h A) : ∃ so be te wd va go, h.1 42 = some (.inr (11, [.ref 43, .ref 44, .ref 45, .ref 46, .ref 47, .int (nI (aL A)), .int so, .int be, .int te, .long wd, .int va, .int go, .ref 48, .ref 49, .ref 50, .ref 51, .ref 52, .ref 53, .int (b2 (aB A))])) := x.1
theorem MA.hm (x : MA h A) : ∃ fr, h.1 42 = some (.inr (11, .ref 43 :: fr)) := by
  obtain ⟨_, _, _, _, _, _, e⟩ := x.1
  exact ⟨_, e⟩
theorem MA.rc (x : MA h A) : mx_rc h 42 = some 11 := by
  obtain ⟨fr, e⟩ := x.hm
  exact rc_hit e
theorem MA.c43 (x : MA h A) : h.1 43 = some (cI 59 (rowO (aF A))) := x.2.1
theorem MA.v43 (x : MA h A) : mx_av sc h 43 = some (cI 59 (rowO (aF A))) := av_hit x.c43
theorem MA.c44 (x : MA h A) : h.1 44 = some (cI 7 (aQ A)) := x.2.2.1
theorem MA.c47 (x : MA h A) : h.1 47 = some (cI 120 (aT A)) := x.2.2.2.2.2.1
theorem MA.c48 (x : MA h A) : h.1 48 = some (cI 4 (aS A)) := x.2.2.2.2.2.2.1
theorem MA.c49 (x : MA h A) : h.1 49 = some (cI 4 (aZ A)) := x.2.2.2.2.2.2.2.1
theorem MA.c50 (x : MA h A) : h.1 50 = some (cL 160 (shAll (aN A))) := x.2.2.2.2.2.2.2.2.1
theorem rF_rF {F G : Fam} : RF (RF h F) G = RF h G := up_up
theorem MA.u43 (x : MA h A) {f : Nat → Int32} {G : Fam} (e : f = rowO G) : mx_up h 43 (.inl (.int, 59, .inl f)) = RF h G := by subst e; rfl
theorem ma_its0 (x : MA h A) (hi : i < 8) : call sc d MX11_its [.ref 42, .int (nI i), .int 0] h = some (some (.int (gk (aF A) i)), h) := by
  obtain ⟨fr, hm⟩ := x.hm
  have y := sp_its0 (sc := sc) (d := d) (g := h) (F := aF A) hm hi
  rw [x.eq] at y
  exact y
theorem ma_its1 (x : MA h A) (hi : i < 8) : call sc d MX11_its [.ref 42, .int (nI i), .int 1] h = some (some (.int (ga (aF A) i)), h) := by
  obtain ⟨fr, hm⟩ := x.hm
  have y := sp_its1 (sc := sc) (d := d) (g := h) (F := aF A) hm hi
  rw [x.eq] at y
  exact y
theorem ma_its2 (x : MA h A) (hi : i < 8) : call sc d MX11_its [.ref 42, .int (nI i), .int 2] h = some (some (.int (gp (aF A) i)), h) := by
  obtain ⟨fr, hm⟩ := x.hm
  have y := sp_its2 (sc := sc) (d := d) (g := h) (F := aF A) hm hi
  rw [x.eq] at y
  exact y
theorem ma_its3 (x : MA h A) (hi : i < 8) : call sc d MX11_its [.ref 42, .int (nI i), .int 3] h = some (some (.int (gc (aF A) i)), h) := by
  obtain ⟨fr, hm⟩ := x.hm
  have y := sp_its3 (sc := sc) (d := d) (g := h) (F := aF A) hm hi
  rw [x.eq] at y
  exact y
theorem ma_its4 (x : MA h A) (hi : i < 8) : call sc d MX11_its [.ref 42, .int (nI i), .int 4] h = some (some (.int (gl (aF A) i)), h) := by
  obtain ⟨fr, hm⟩ := x.hm
  have y := sp_its4 (sc := sc) (d := d) (g := h) (F := aF A) hm hi
  rw [x.eq] at y
  exact y
theorem ma_puts0 (x : MA h A) (hi : i < 8) {v : Int32} : call sc d MX11_puts [.ref 42, .int (nI i), .int 0, .int v] h = some (none, RF h (wk (aF A) (upd (gk (aF A)) i v))) := by
  obtain ⟨fr, hm⟩ := x.hm
  have y := sp_puts0 (sc := sc) (d := d) (g := h) (F := aF A) hm hi (v := v)
  rw [x.eq] at y
  exact y
theorem ma_puts1 (x : MA h A) (hi : i < 8) {v : Int32} : call sc d MX11_puts [.ref 42, .int (nI i), .int 1, .int v] h = some (none, RF h (wa (aF A) (upd (ga (aF A)) i v))) := by
  obtain ⟨fr, hm⟩ := x.hm
  have y := sp_puts1 (sc := sc) (d := d) (g := h) (F := aF A) hm hi (v := v)
  rw [x.eq] at y
  exact y
theorem ma_puts2 (x : MA h A) (hi : i < 8) {v : Int32} : call sc d MX11_puts [.ref 42, .int (nI i), .int 2, .int v] h = some (none, RF h (wp (aF A) (upd (gp (aF A)) i v))) := by
  obtain ⟨fr, hm⟩ := x.hm
  have y := sp_puts2 (sc := sc) (d := d) (g := h) (F := aF A) hm hi (v := v)
  rw [x.eq] at y
  exact y
theorem ma_puts3 (x : MA h A) (hi : i < 8) {v : Int32} : call sc d MX11_puts [.ref 42, .int (nI i), .int 3, .int v] h = some (none, RF h (wc (aF A) (upd (gc (aF A)) i v))) := by
  obtain ⟨fr, hm⟩ := x.hm
  have y := sp_puts3 (sc := sc) (d := d) (g := h) (F := aF A) hm hi (v := v)
  rw [x.eq] at y
  exact y
theorem ma_puts4 (x : MA h A) (hi : i < 8) {v : Int32} : call sc d MX11_puts [.ref 42, .int (nI i), .int 4, .int v] h = some (none, RF h (wl (aF A) (upd (gl (aF A)) i v))) := by
  obtain ⟨fr, hm⟩ := x.hm
  have y := sp_puts4 (sc := sc) (d := d) (g := h) (F := aF A) hm hi (v := v)
  rw [x.eq] at y
  exact y
theorem ma_isOne (x : MA h A) {p : Int32} : call sc (d + 1) MX11_isOne [.ref 42, .int p] h = some (some (.int (b2 (wi p 0 (gn (aF A) - 1)))), h) := by
  obtain ⟨fr, hm⟩ := x.hm
  have y := sp_isOne (sc := sc) (d := d) (g := h) (F := aF A) hm (p := p)
  rw [x.eq] at y
  exact y
theorem ma_has (x : MA h A) (hi : i < 8) {j : Nat} (hj : j < 32) : call sc (d + 1) MX11_has [.ref 42, .int (nI i), .int (nI j)] h = some (some (.int (b2 (bt (gp (aF A) i) j))), h) := by
  obtain ⟨fr, hm⟩ := x.hm
  have y := sp_mhas (sc := sc) (d := d) (g := h) (F := aF A) hm hi hj
  rw [x.eq] at y
  exact y
theorem ma_valueOf (x : MA h A)  : call sc d MX11_valueOf [.ref 42, .int s] h = some (some (.int (valF s (gw (aF A)))), h) := by
  obtain ⟨fr, hm⟩ := x.hm
  have y := sp_valueOf (sc := sc) (d := d) (g := h) (F := aF A) (s := s) hm
  rw [x.eq] at y
  exact y
theorem ma_becomes (x : MA h A) {j : Nat} (hj : j < 59) {v : Int32} {G : Fam} (hG : upd (rowO (aF A)) j v = rowO G) : call sc d MX11_becomes [.ref 42, .int (nI j), .int v] h = some (some (.int (rowO (aF A) j)), RF h G) := by
  obtain ⟨fr, hm⟩ := x.hm
  have y := sp_becomes (sc := sc) (d := d) (g := h) (F := aF A) hm hj hG
  rw [x.eq] at y
  exact y
theorem ma_shows (x : MA h A) (hF : FI (aF A)) (hi : i < 8) : call sc (d + 1) MX11_shows [.ref 42, .int (nI i)] h = some (some (.int (showF (gk (aF A) i) (ga (aF A) i) (gp (aF A) i) (gw (aF A)))), h) := by
  obtain ⟨fr, hm⟩ := x.hm
  obtain ⟨k, hk, ek⟩ := hF.k.1 i hi
  have y := sp_mshows (sc := sc) (d := d) (g := h) (F := aF A) hm hi ek hk
  rw [x.eq] at y
  exact y
theorem ma_taken (x : MA h A) (hF : FI (aF A)) (hi : i < 8) : call sc (d + 2) MX11_taken [.ref 42, .int (nI i)] h = some (some (.int (tkF (aF A) i)), h) := by
  obtain ⟨fr, hm⟩ := x.hm
  obtain ⟨k, hk, ek⟩ := hF.k.1 i hi
  obtain ⟨m, hm6, em⟩ := hF.p.1 i hi
  obtain ⟨l, hl, el⟩ := hF.l.1 i hi
  have y := sp_mtaken (sc := sc) (d := d) (g := h) (F := aF A) hm hi ek hk em hm6
  rw [x.eq] at y
  exact y
theorem ma_findsAt (x : MA h A) (hF : FI (aF A)) (hi : i < 8) {a : Nat} (ha : a < 128) : call sc (d + 1) MX11_findsAt [.ref 42, .int (nI i), .int (nI a)] h = some (some (.int (findF (gk (aF A) i) (nI a))), h) := by
  obtain ⟨fr, hm⟩ := x.hm
  obtain ⟨k, hk, ek⟩ := hF.k.1 i hi
  have y := sp_findsAt (sc := sc) (d := d) (g := h) (F := aF A) hm hi ek hk ha
  rw [x.eq] at y
  exact y
theorem ma_crosses (x : MA h A) (hF : FI (aF A)) (hi : i < 8) : call sc (d + 3) MX11_crosses [.ref 42, .int (nI i)] h = some (some (.int (tkF (aF A) i)), RF h (brdF (aF A) i)) := by
  obtain ⟨fr, hm⟩ := x.hm
  obtain ⟨k, hk, ek⟩ := hF.k.1 i hi
  obtain ⟨m, hm6, em⟩ := hF.p.1 i hi
  obtain ⟨l, hl, el⟩ := hF.l.1 i hi
  have y := sp_crosses (sc := sc) (d := d) (g := h) (F := aF A) hm hi ek hk em hm6 el (by omega) (hF.c.1 i hi)
  rw [x.eq] at y
  exact y
theorem ma_oneYear (x : MA h A) (hF : FI (aF A)) : call sc (d + 5) MX11_oneYear [.ref 42] h = some (none, RF h (yearF (aF A))) := by
  obtain ⟨fr, hm⟩ := x.hm
  have y := sp_oneYear (sc := sc) (d := d) (g := h) (F := aF A) hm hF
  rw [x.eq] at y
  exact y
theorem ma_passes (x : MA h A) (hF : FI (aF A)) {n : Nat} (hn : n < 2 ^ 31) : call sc (d + 6) MX11_passes [.ref 42, .int (nI n)] h = some (none, RF h (yearsF n (aF A))) := by
  obtain ⟨fr, hm⟩ := x.hm
  have y := sp_passes (sc := sc) (d := d) (g := h) (F := aF A) hm hF hn
  rw [x.eq] at y
  exact y
theorem ma_oldest (x : MA h A) (hF : FI (aF A)) : call sc (d + 1) MX11_oldest [.ref 42] h = some (some (.int (foF (aF A) (stOld (aF A)))), h) := by
  obtain ⟨fr, hm⟩ := x.hm
  have y := sp_moldest (sc := sc) (d := d) (g := h) (F := aF A) hm hF
  rw [x.eq] at y
  exact y
theorem ma_valueOfAll (x : MA h A) (hF : FI (aF A)) : call sc (d + 1) MX11_valueOfAll [.ref 42] h = some (some (.int (foF (aF A) (stVal (aF A)))), h) := by
  obtain ⟨fr, hm⟩ := x.hm
  have y := sp_mvalueOfAll (sc := sc) (d := d) (g := h) (F := aF A) hm hF
  rw [x.eq] at y
  exact y
theorem ma_hadByAny (x : MA h A) (hF : FI (aF A)) : call sc (d + 1) MX11_hadByAny [.ref 42] h = some (some (.int (foF (aF A) (stHad (aF A)))), h) := by
  obtain ⟨fr, hm⟩ := x.hm
  have y := sp_mhadByAny (sc := sc) (d := d) (g := h) (F := aF A) hm hF
  rw [x.eq] at y
  exact y
theorem ma_thingsOf (x : MA h A) (hF : FI (aF A)) : call sc (d + 1) MX11_thingsOf [.ref 42] h = some (some (.int (foF (aF A) (stCnt (aF A)))), h) := by
  obtain ⟨fr, hm⟩ := x.hm
  have y := sp_mthingsOf (sc := sc) (d := d) (g := h) (F := aF A) hm hF
  rw [x.eq] at y
  exact y
theorem ma_sumOf4 (x : MA h A) (hF : FI (aF A)) : call sc (d + 1) MX11_sumOf [.ref 42, .int 4] h = some (some (.int (foF (aF A) (stLost (aF A)))), h) := by
  obtain ⟨fr, hm⟩ := x.hm
  have y := sp_sumOf4 (sc := sc) (d := d) (g := h) (F := aF A) hm hF
  rw [x.eq] at y
  exact y
theorem ma_sumOf1 (x : MA h A) (hF : FI (aF A)) : call sc (d + 1) MX11_sumOf [.ref 42, .int 1] h = some (some (.int (foF (aF A) (stAge (aF A)))), h) := by
  obtain ⟨fr, hm⟩ := x.hm
  have y := sp_sumOf1 (sc := sc) (d := d) (g := h) (F := aF A) hm hF
  rw [x.eq] at y
  exact y
theorem MA.fnd (x : MA h A) {f : Int32} {k : Nat} (hk : k < 7) (e : -1000000001 - f = nI k) : call sc d MX11_finds [.ref 42, .int f] h = some (some (.int f), mx_up h 44 (cI 7 (bmp (aQ A) k))) := by
  obtain ⟨so, be, te, wd, va, go, m0⟩ := x.c42
  simp only [c_X11_finds, s_X11_finds_0, s_X11_finds_1, s_X11_finds_4, s_X11_finds_6, s_X11_finds_7, s_X11_finds_8, s_X11_finds_9, s_X11_finds_10, s_X11_finds_11, s_X11_finds_12, s_X11_finds_13, s_X11_finds_14, m0, gf_hit, List.getElem?_cons_zero, List.getElem?_cons_succ, ob1_s, e, av_hit x.c44, x.c44, cI, ai_hit, in_nI hk (by decide), cl_nI hk (by decide), if_true, bmp]
theorem MA.f0 (x : MA h A) : call sc d MX11_finds [.ref 42, .int (-1000000001)] h = some (some (.int (-1000000001)), mx_up h 44 (cI 7 (bmp (aQ A) 0))) := x.fnd (by decide) (by decide)
theorem MA.f1 (x : MA h A) : call sc d MX11_finds [.ref 42, .int (-1000000002)] h = some (some (.int (-1000000002)), mx_up h 44 (cI 7 (bmp (aQ A) 1))) := x.fnd (by decide) (by decide)
theorem MA.f2 (x : MA h A) : call sc d MX11_finds [.ref 42, .int (-1000000003)] h = some (some (.int (-1000000003)), mx_up h 44 (cI 7 (bmp (aQ A) 2))) := x.fnd (by decide) (by decide)
theorem MA.f3 (x : MA h A) : call sc d MX11_finds [.ref 42, .int (-1000000004)] h = some (some (.int (-1000000004)), mx_up h 44 (cI 7 (bmp (aQ A) 3))) := x.fnd (by decide) (by decide)
theorem MA.f4 (x : MA h A) : call sc d MX11_finds [.ref 42, .int (-1000000005)] h = some (some (.int (-1000000005)), mx_up h 44 (cI 7 (bmp (aQ A) 4))) := x.fnd (by decide) (by decide)
theorem MA.f5 (x : MA h A) : call sc d MX11_finds [.ref 42, .int (-1000000006)] h = some (some (.int (-1000000006)), mx_up h 44 (cI 7 (bmp (aQ A) 5))) := x.fnd (by decide) (by decide)
theorem MA.f6 (x : MA h A) : call sc d MX11_finds [.ref 42, .int (-1000000007)] h = some (some (.int (-1000000007)), mx_up h 44 (cI 7 (bmp (aQ A) 6))) := x.fnd (by decide) (by decide)
theorem ix0' (i : Nat) : (19 : Int32) + 5 * nI i = nI (19 + 5 * i) := by
  show nI 19 + nI 5 * nI i = _
  rw [pk_mul, nI_add]
theorem sp_adds {F : Fam} {g : mx_G} {fr : List Value} (hm : g.1 42 = some (.inr (11, .ref 43 :: fr))) {n : Nat} (hn : n < 8) (hg : gn F = nI n) {k a p c : Int32} : call sc (d + 1) MX11_adds [.ref 42, .int k, .int a, .int p, .int c] (RF g F) = some (none, RF g (addF F n k a p c)) := by
  simp [c_X11_adds, s_X11_adds_0, s_X11_adds_1, s_X11_adds_4, s_X11_adds_5, s_X11_adds_6, s_X11_adds_8, s_X11_adds_9, s_X11_adds_11, s_X11_adds_12, s_X11_adds_13, s_X11_adds_16, s_X11_adds_17, s_X11_adds_19, s_X11_adds_20, s_X11_adds_21, s_X11_adds_24, s_X11_adds_25, s_X11_adds_27, s_X11_adds_28, s_X11_adds_29, s_X11_adds_32, s_X11_adds_33, s_X11_adds_35, s_X11_adds_36, s_X11_adds_38, s_X11_adds_41, s_X11_adds_42, s_X11_adds_44, s_X11_adds_45, s_X11_adds_46, s_X11_adds_49, s_X11_adds_50, s_X11_adds_53, s_X11_adds_54, s_X11_adds_55, s_X11_adds_56, s_X11_adds_57, s_X11_adds_58, s_X11_adds_59, mrc hm, rF_42 hm, gf_hit, ob1_s, rF_43, av_hit rF_43, cI, ai_hit, i59_2, ro_n, hg, sp_puts0 hm hn, sp_puts1 hm hn, sp_puts2 hm hn, sp_puts3 hm hn, sp_puts4 hm hn, ck0, gw_ww, gw_wk, gw_wa, gw_wp, gw_wc, gw_wl, gw_wn, gw_wb, gw_wy, gk_ww, gk_wk, gk_wa, gk_wp, gk_wc, gk_wl, gk_wn, gk_wb, gk_wy, ga_ww, ga_wk, ga_wa, ga_wp, ga_wc, ga_wl, ga_wn, ga_wb, ga_wy, gp_ww, gp_wk, gp_wa, gp_wp, gp_wc, gp_wl, gp_wn, gp_wb, gp_wy, gc_ww, gc_wk, gc_wa, gc_wp, gc_wc, gc_wl, gc_wn, gc_wb, gc_wy, gl_ww, gl_wk, gl_wa, gl_wp, gl_wc, gl_wl, gl_wn, gl_wb, gl_wy, gn_ww, gn_wk, gn_wa, gn_wp, gn_wc, gn_wl, gn_wn, gn_wb, gn_wy, gb_ww, gb_wk, gb_wa, gb_wp, gb_wc, gb_wl, gb_wn, gb_wb, gb_wy, gy_ww, gy_wk, gy_wa, gy_wp, gy_wc, gy_wl, gy_wn, gy_wb, gy_wy, nI_1]
  exact rF_up (ru_n _ _)
theorem ma_adds (x : MA h A) {n : Nat} (hn : n < 8) (hg : gn (aF A) = nI n) {k a p c : Int32} : call sc (d + 1) MX11_adds [.ref 42, .int k, .int a, .int p, .int c] h = some (none, RF h (addF (aF A) n k a p c)) := by
  obtain ⟨fr, hm⟩ := x.hm
  have y := sp_adds (sc := sc) (d := d) (g := h) (F := aF A) hm hn hg (k := k) (a := a) (p := p) (c := c)
  rw [x.eq] at y
  exact y
end
