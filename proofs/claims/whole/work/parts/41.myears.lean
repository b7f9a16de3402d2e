/-! YEARS OF THE MODEL -/
section
variable {sc : mx_X} {d : Nat} {g : mx_G} {i kk : Nat} {F : Fam} {fr : List Value}
theorem rF_42 (hm : g.1 42 = some (.inr (11, .ref 43 :: fr))) : (RF g F).1 42 = some (.inr (11, .ref 43 :: fr)) := by rw [rF_o (by decide)]; exact hm
theorem sp_ages (hm : g.1 42 = some (.inr (11, .ref 43 :: fr))) (h : FI F) (hi : i < 8) (h7 : ¬ 70 ≤ ga F i) : call sc (d + 4) MX11_ages [.ref 42, .int (nI i)] (RF g F) = some (none, RF g (yr1 F i)) := by
  obtain ⟨kk, hkk, hk⟩ := h.k.1 i hi
  obtain ⟨a, ha, ea⟩ := h.a.1 i hi
  have hA := agF_ok h hi h7
  obtain ⟨m, hm6, em⟩ := hA.p.1 i hi
  obtain ⟨l, hl, el⟩ := hA.l.1 i hi
  have hcr := sp_crosses (sc := sc) (d := d) (F := agF F i) hm hi (kk := kk) hk hkk em hm6 el (by omega) (h.c.1 i hi)
  have hf := sp_findsAt (sc := sc) (d := d + 2) (F := F) hm hi hk hkk (show a + 1 < 128 by omega)
  rw [← nI_1, ← ea] at hf
  have hfo : bsOk (findF (gk F i) (ga F i + 1)) := by rw [hk, ea, nI_1]; exact find_ok hkk (by omega)
  have e1 : den sc (d + 4) MX11_ages 52 [some (.ref 42), some (.int (nI i)), some (.int (ga F i + 1)), some (.int (findF (gk F i) (ga F i + 1)))] [] (RF g (agF F i)) = some (none, RF g (yr1 F i)) := by
    by_cases h0 : (ga F i + 1) - (ga F i + 1) / 7 * 7 = 0
    · simp [s_X11_ages_52, s_X11_ages_53, s_X11_ages_55, s_X11_ages_56, s_X11_ages_59, s_X11_ages_60, s_X11_ages_61, s_X11_ages_64, s_X11_ages_65, h0, mrc hm, hcr, ck0, yr1, h7]
    · simp [s_X11_ages_52, s_X11_ages_53, s_X11_ages_55, s_X11_ages_56, s_X11_ages_59, s_X11_ages_60, s_X11_ages_61, s_X11_ages_64, s_X11_ages_65, h0, yr1, h7]
  rcases hfo with hz | ⟨t, ht, hz⟩
  · have hag : agF F i = wa F (upd (ga F) i (ga F i + 1)) := by
      unfold agF
      rw [hz, so_neg (by decide), show gp F i ||| 0 = gp F i from by
        apply b_ext; intro j hj; rw [b_or, b_0, Bool.or_false]]
      have : upd (gp F) i (gp F i) = gp F := funext fun j => by
        by_cases e : j = i
        · subst e; exact pk_us
        · exact pk_un e
      rw [this]
      rfl
    rw [hag, hz] at e1
    rw [hz] at hf
    have hsame : wp (wa F (upd (ga F) i (ga F i + 1))) (upd (gp F) i (gp F i)) = wa F (upd (ga F) i (ga F i + 1)) := by
      have : upd (gp F) i (gp F i) = gp F := funext fun j => by
        by_cases e : j = i
        · subst e; exact pk_us
        · exact pk_un e
      rw [this]
      rfl
    simp only [c_X11_ages, s_X11_ages_0, s_X11_ages_1, s_X11_ages_2, s_X11_ages_3, s_X11_ages_6, s_X11_ages_7, s_X11_ages_8, s_X11_ages_9, s_X11_ages_10, s_X11_ages_11, s_X11_ages_12, s_X11_ages_15, s_X11_ages_16, s_X11_ages_17, s_X11_ages_18, s_X11_ages_19, s_X11_ages_20, s_X11_ages_23, s_X11_ages_24, s_X11_ages_25, s_X11_ages_26, s_X11_ages_27, s_X11_ages_30, s_X11_ages_31, s_X11_ages_32, s_X11_ages_33, s_X11_ages_36, s_X11_ages_39, s_X11_ages_40, s_X11_ages_41, s_X11_ages_42, s_X11_ages_45, s_X11_ages_46, s_X11_ages_47, s_X11_ages_48, s_X11_ages_49, mrc hm, sp_its1 hm hi, sp_its2 hm hi, hf, sp_puts1 hm hi, sp_puts2 hm hi, show ¬ (0 : Int32) ≤ -1 from by decide, gw_ww, gw_wk, gw_wa, gw_wp, gw_wc, gw_wl, gw_wn, gw_wb, gw_wy, gk_ww, gk_wk, gk_wa, gk_wp, gk_wc, gk_wl, gk_wn, gk_wb, gk_wy, ga_ww, ga_wk, ga_wa, ga_wp, ga_wc, ga_wl, ga_wn, ga_wb, ga_wy, gp_ww, gp_wk, gp_wa, gp_wp, gp_wc, gp_wl, gp_wn, gp_wb, gp_wy, gc_ww, gc_wk, gc_wa, gc_wp, gc_wc, gc_wl, gc_wn, gc_wb, gc_wy, gl_ww, gl_wk, gl_wa, gl_wp, gl_wc, gl_wl, gl_wn, gl_wb, gl_wy, gn_ww, gn_wk, gn_wa, gn_wp, gn_wc, gn_wl, gn_wn, gn_wb, gn_wy, gb_ww, gb_wk, gb_wa, gb_wp, gb_wc, gb_wl, gb_wn, gb_wb, gb_wy, gy_ww, gy_wk, gy_wa, gy_wp, gy_wc, gy_wl, gy_wn, gy_wb, gy_wy, hsame, ck0, ck1, ck2, ck3, ck4, Option.toList_some, Option.toList_none, List.cons_append, List.nil_append, gf_hit, pf_hit, ai_hit, al_hit, ar_hit, ob_hit, if_true, if_false, reduceIte, reduceCtorEq]
    exact e1
  · rw [hz] at e1 hf
    have hag : wp (wa F (upd (ga F) i (ga F i + 1))) (upd (gp F) i (gp F i ||| so (nI t))) = agF F i := by unfold agF; rw [hz]
    simp only [c_X11_ages, s_X11_ages_0, s_X11_ages_1, s_X11_ages_2, s_X11_ages_3, s_X11_ages_6, s_X11_ages_7, s_X11_ages_8, s_X11_ages_9, s_X11_ages_10, s_X11_ages_11, s_X11_ages_12, s_X11_ages_15, s_X11_ages_16, s_X11_ages_17, s_X11_ages_18, s_X11_ages_19, s_X11_ages_20, s_X11_ages_23, s_X11_ages_24, s_X11_ages_25, s_X11_ages_26, s_X11_ages_27, s_X11_ages_30, s_X11_ages_31, s_X11_ages_32, s_X11_ages_33, s_X11_ages_36, s_X11_ages_39, s_X11_ages_40, s_X11_ages_41, s_X11_ages_42, s_X11_ages_45, s_X11_ages_46, s_X11_ages_47, s_X11_ages_48, s_X11_ages_49, mrc hm, sp_its1 hm hi, sp_its2 hm hi, hf, sp_puts1 hm hi, sp_puts2 hm hi, nI_pos' (show t < 2 ^ 31 by omega), so_nI ht, gw_ww, gw_wk, gw_wa, gw_wp, gw_wc, gw_wl, gw_wn, gw_wb, gw_wy, gk_ww, gk_wk, gk_wa, gk_wp, gk_wc, gk_wl, gk_wn, gk_wb, gk_wy, ga_ww, ga_wk, ga_wa, ga_wp, ga_wc, ga_wl, ga_wn, ga_wb, ga_wy, gp_ww, gp_wk, gp_wa, gp_wp, gp_wc, gp_wl, gp_wn, gp_wb, gp_wy, gc_ww, gc_wk, gc_wa, gc_wp, gc_wc, gc_wl, gc_wn, gc_wb, gc_wy, gl_ww, gl_wk, gl_wa, gl_wp, gl_wc, gl_wl, gl_wn, gl_wb, gl_wy, gn_ww, gn_wk, gn_wa, gn_wp, gn_wc, gn_wl, gn_wn, gn_wb, gn_wy, gb_ww, gb_wk, gb_wa, gb_wp, gb_wc, gb_wl, gb_wn, gb_wb, gb_wy, gy_ww, gy_wk, gy_wa, gy_wp, gy_wc, gy_wl, gy_wn, gy_wb, gy_wy, hag, ck0, ck1, ck2, ck3, ck4, Option.toList_some, Option.toList_none, List.cons_append, List.nil_append, gf_hit, pf_hit, ai_hit, al_hit, ar_hit, ob_hit, if_true, if_false, reduceIte, reduceCtorEq]
    exact e1
theorem lp_oy (hm : g.1 42 = some (.inr (11, .ref 43 :: fr))) {n : Nat} (hn : n ≤ 8) : ∀ (k j : Nat) (F : Fam), j + k = n → FI F → gn F = nI n → den sc (d + 5) MX11_oneYear 2 [some (.ref 42), some (.int (nI j))] [] (RF g F) = some (none, RF g (wy (yrL k j F) (gy F + 1)))
  | 0, j, F, hj, h, hg => by
    obtain rfl : j = n := by omega
    rw [s_X11_oneYear_2]
    simp [s_X11_oneYear_0, s_X11_oneYear_1, s_X11_oneYear_3, s_X11_oneYear_4, s_X11_oneYear_7, s_X11_oneYear_8, s_X11_oneYear_9, s_X11_oneYear_12, s_X11_oneYear_13, s_X11_oneYear_14, s_X11_oneYear_15, s_X11_oneYear_18, s_X11_oneYear_20, s_X11_oneYear_23, s_X11_oneYear_24, s_X11_oneYear_25, s_X11_oneYear_28, s_X11_oneYear_31, s_X11_oneYear_34, s_X11_oneYear_35, s_X11_oneYear_38, s_X11_oneYear_39, s_X11_oneYear_40, s_X11_oneYear_41, s_X11_oneYear_42, s_X11_oneYear_43, s_X11_oneYear_44, rF_42 hm, gf_hit, ob1_s, rF_43, av_hit rF_43, cI, ai_hit, show mx_in 2 59 = true from by decide, show mx_in 0 59 = true from by decide, ro_n, ro_y, hg, yrL]
    exact rF_up (ru_y _ _)
  | k + 1, j, F, hj, h, hg => by
    have hjn : ¬ nI n ≤ nI j := fun e => by
      have := (nI_leI (show n < 2 ^ 31 by omega) (show j < 2 ^ 31 by omega)).mp e
      omega
    have hj8 : j < 8 := by omega
    have ih := lp_oy hm hn k (j + 1) (yr1 F j) (by omega) (yr1_ok h (by omega)) (yr1_n.1.trans hg)
    rw [yr1_n.2] at ih
    rw [s_X11_oneYear_2]
    simp only [s_X11_oneYear_3, s_X11_oneYear_4, s_X11_oneYear_7, s_X11_oneYear_8, s_X11_oneYear_9, rF_42 hm, gf_hit, List.getElem?_cons_zero, ob1_s, av_hit rF_43, cI, ai_hit, show mx_in 2 59 = true from by decide, show (2 : Int32).toNatClampNeg = 2 from by decide, if_true, ro_n, hg, hjn, if_false]
    by_cases h7 : 70 ≤ ga F j
    · have e : yr1 F j = F := by unfold yr1; rw [if_pos h7]
      rw [e] at ih
      simp only [s_X11_oneYear_12, s_X11_oneYear_13, s_X11_oneYear_14, s_X11_oneYear_15, s_X11_oneYear_18, s_X11_oneYear_20, s_X11_oneYear_23, s_X11_oneYear_24, s_X11_oneYear_25, s_X11_oneYear_28, s_X11_oneYear_31, mrc hm, sp_its1 hm hj8, h7, nI_1, ck0, ck1, ck2, ck3, ck4, Option.toList_some, Option.toList_none, List.cons_append, List.nil_append, gf_hit, pf_hit, ai_hit, al_hit, ar_hit, ob_hit, if_true, if_false, reduceIte, reduceCtorEq]
      rw [ih]
      show _ = some (none, RF g (wy (yrL k (j + 1) (yr1 F j)) (gy F + 1)))
      rw [e]
    · simp only [s_X11_oneYear_12, s_X11_oneYear_13, s_X11_oneYear_14, s_X11_oneYear_15, s_X11_oneYear_18, s_X11_oneYear_20, s_X11_oneYear_23, s_X11_oneYear_24, s_X11_oneYear_25, s_X11_oneYear_28, s_X11_oneYear_31, mrc hm, sp_its1 hm hj8, sp_ages hm h hj8 h7, h7, nI_1, ck0, ck1, ck2, ck3, ck4, Option.toList_some, Option.toList_none, List.cons_append, List.nil_append, gf_hit, pf_hit, ai_hit, al_hit, ar_hit, ob_hit, if_true, if_false, reduceIte, reduceCtorEq]
      exact ih
theorem sp_oneYear (hm : g.1 42 = some (.inr (11, .ref 43 :: fr))) (h : FI F) : call sc (d + 5) MX11_oneYear [.ref 42] (RF g F) = some (none, RF g (yearF F)) := by
  obtain ⟨q, hq, e⟩ := h.n
  simp only [c_X11_oneYear, s_X11_oneYear_0, s_X11_oneYear_1]
  have := lp_oy (sc := sc) (d := d) hm (show q ≤ 8 by omega) q 0 F (by omega) h e
  unfold yearF
  rw [e, nI_clamp (by omega)]
  exact this
theorem lp_ps (hm : g.1 42 = some (.inr (11, .ref 43 :: fr))) {n : Nat} (hn : n < 2 ^ 31) : ∀ (k j : Nat) (F : Fam), j + k = n → FI F → den sc (d + 6) MX11_passes 2 [some (.ref 42), some (.int (nI n)), some (.int (nI j))] [] (RF g F) = some (none, RF g (yearsF k F))
  | 0, j, F, hj, h => by
    obtain rfl : j = n := by omega
    rw [s_X11_passes_2]
    simp [s_X11_passes_0, s_X11_passes_1, s_X11_passes_3, s_X11_passes_4, s_X11_passes_7, s_X11_passes_8, s_X11_passes_11, s_X11_passes_14, s_X11_passes_17, yearsF]
  | k + 1, j, F, hj, h => by
    have hjn : ¬ nI n ≤ nI j := fun e => by
      have := (nI_leI (show n < 2 ^ 31 by omega) (show j < 2 ^ 31 by omega)).mp e
      omega
    have ih := lp_ps hm hn k (j + 1) (yearF F) (by omega) (year_ok h)
    rw [s_X11_passes_2]
    simp only [s_X11_passes_0, s_X11_passes_1, s_X11_passes_3, s_X11_passes_4, s_X11_passes_7, s_X11_passes_8, s_X11_passes_11, s_X11_passes_14, s_X11_passes_17, hjn, if_false, mrc hm, sp_oneYear hm h, nI_1, ck0, ck1, ck2, ck3, ck4, Option.toList_some, Option.toList_none, List.cons_append, List.nil_append, gf_hit, pf_hit, ai_hit, al_hit, ar_hit, ob_hit, if_true, if_false, reduceIte, reduceCtorEq]
    exact ih
theorem sp_passes (hm : g.1 42 = some (.inr (11, .ref 43 :: fr))) (h : FI F) {n : Nat} (hn : n < 2 ^ 31) : call sc (d + 6) MX11_passes [.ref 42, .int (nI n)] (RF g F) = some (none, RF g (yearsF n F)) := by
  simp only [c_X11_passes, s_X11_passes_0, s_X11_passes_1]
  exact lp_ps hm hn n 0 F (by omega) h
end
