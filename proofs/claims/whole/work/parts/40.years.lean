/-! YEARS -/
theorem ga_ag {F : Fam} {i : Nat} : ga (agF F i) i = ga F i + 1 := pk_us
section
variable {sc : mx_X} {d : Nat} {g : mx_G} {o i kk : Nat} {F : Fam} {N y : Int32}
theorem py_a (hW : WY g) (ho : 8 ≤ o) (hi : i < 8) (hk : gk F i = nI kk) (hkk : kk < 6) (h7 : ¬ 70 ≤ ga F i) : den sc (d + 5) MX1_passYears 17 [some (.ref o), some (.int N), some (.int y), some (.int (nI i))] [] (putF g o F) = den sc (d + 5) MX1_passYears 73 [some (.ref o), some (.int N), some (.int y), some (.int (nI i))] [] (putF g o (agF F i)) := by
  have hW2 : ∀ G, WY (putF g o G) := fun G => hW.put ho
  have w1 := fun G => (hW2 G).1
  have w4 := fun G => (hW2 G).2.2.2.1
  have w5 := fun G => (hW2 G).2.2.2.2.1
  have r2 := fun G => rc_hit (hW2 G).2.1
  have r3 := fun G => rc_hit (hW2 G).2.2.1
  have r4 := fun G => rc_hit (hW2 G).2.2.2.1
  have r5 := fun G => rc_hit (hW2 G).2.2.2.2.1
  have r6 := fun G => rc_hit (hW2 G).2.2.2.2.2.1
  have r7 := fun G => rc_hit (hW2 G).2.2.2.2.2.2
  have h7' := Int32.not_le.mp h7
  rcases six hkk with rfl | rfl | rfl | rfl | rfl | rfl <;>
  simp [s_X1_passYears_17, s_X1_passYears_18, s_X1_passYears_21, s_X1_passYears_22, s_X1_passYears_23, s_X1_passYears_25, s_X1_passYears_28, s_X1_passYears_31, s_X1_passYears_32, s_X1_passYears_35, s_X1_passYears_36, s_X1_passYears_37, s_X1_passYears_38, s_X1_passYears_39, s_X1_passYears_40, s_X1_passYears_41, s_X1_passYears_42, s_X1_passYears_45, s_X1_passYears_46, s_X1_passYears_47, s_X1_passYears_48, s_X1_passYears_49, s_X1_passYears_52, s_X1_passYears_53, s_X1_passYears_56, s_X1_passYears_57, s_X1_passYears_58, s_X1_passYears_59, s_X1_passYears_60, s_X1_passYears_63, s_X1_passYears_64, s_X1_passYears_65_0, s_X1_passYears_65_2, s_X1_passYears_65_3, s_X1_passYears_65_4, s_X1_passYears_65_6, s_X1_passYears_65_9, s_X1_passYears_68, s_X1_passYears_71, s_X1_passYears_72, pF_0, cF, gf_hit, ob1_s, av_k, av_p, av_a, pF_a, pF_p, cI, ai_hit, ar_hit, in8 hi, cl8 hi, hk, h7, h7', w1, wayRow, va_rf, i60, i61, i62, i63, i64, i65, r2, r3, r4, r5, r6, r7, sp_X3_finds, sp_X4_finds (w4 _), sp_X0_finds (w5 _), sp_X9_finds, sp_setOf, ck0, ck1, ck2, ck3, uF_a', uF_p', gw_ww, gw_wk, gw_wa, gw_wp, gw_wc, gw_wl, gw_wn, gw_wb, gw_wy, gk_ww, gk_wk, gk_wa, gk_wp, gk_wc, gk_wl, gk_wn, gk_wb, gk_wy, ga_ww, ga_wk, ga_wa, ga_wp, ga_wc, ga_wl, ga_wn, ga_wb, ga_wy, gp_ww, gp_wk, gp_wa, gp_wp, gp_wc, gp_wl, gp_wn, gp_wb, gp_wy, gc_ww, gc_wk, gc_wa, gc_wp, gc_wc, gc_wl, gc_wn, gc_wb, gc_wy, gl_ww, gl_wk, gl_wa, gl_wp, gl_wc, gl_wl, gl_wn, gl_wb, gl_wy, gn_ww, gn_wk, gn_wa, gn_wp, gn_wc, gn_wl, gn_wn, gn_wb, gn_wy, gb_ww, gb_wk, gb_wa, gb_wp, gb_wc, gb_wl, gb_wn, gb_wb, gb_wy, gy_ww, gy_wk, gy_wa, gy_wp, gy_wc, gy_wl, gy_wn, gy_wb, gy_wy, pk_us, agF, findF, show (nI 0 : Int32) = 0 from rfl, show (nI 1 : Int32) = 1 from rfl, show (nI 2 : Int32) = 2 from rfl, show (nI 3 : Int32) = 3 from rfl, show (nI 4 : Int32) = 4 from rfl, show (nI 5 : Int32) = 5 from rfl]
theorem py_b (hW : WY g) (ho : 8 ≤ o) (hi : i < 8) (hk : gk F i = nI kk) (hkk : kk < 6) (hc : csOk (gc F i)) : den sc (d + 5) MX1_passYears 73 [some (.ref o), some (.int N), some (.int y), some (.int (nI i))] [] (putF g o F) = den sc (d + 5) MX1_passYears 91 [some (.ref o), some (.int N), some (.int y), some (.int (nI i))] [] (putF g o (if ga F i - ga F i / 7 * 7 = 0 then brdF F i else F)) := by
  by_cases h : ga F i - ga F i / 7 * 7 = 0
  · simp [s_X1_passYears_73, s_X1_passYears_74, s_X1_passYears_77, s_X1_passYears_78, s_X1_passYears_79, s_X1_passYears_81, s_X1_passYears_82, s_X1_passYears_85, s_X1_passYears_86, s_X1_passYears_87, s_X1_passYears_90, pF_0, cF, gf_hit, ob1_s, av_a, cI, ai_hit, in8 hi, cl8 hi, h, rcF, sp_holdBorder hW ho hi hk hkk hc, ck0]
  · simp [s_X1_passYears_73, s_X1_passYears_74, s_X1_passYears_77, s_X1_passYears_78, s_X1_passYears_79, s_X1_passYears_81, s_X1_passYears_82, s_X1_passYears_85, s_X1_passYears_86, s_X1_passYears_87, s_X1_passYears_90, pF_0, cF, gf_hit, ob1_s, av_a, cI, ai_hit, in8 hi, cl8 hi, h]
theorem py_1 (hW : WY g) (ho : 8 ≤ o) (h : FI F) (hi : i < 8) : den sc (d + 5) MX1_passYears 17 [some (.ref o), some (.int N), some (.int y), some (.int (nI i))] [] (putF g o F) = den sc (d + 5) MX1_passYears 91 [some (.ref o), some (.int N), some (.int y), some (.int (nI i))] [] (putF g o (yr1 F i)) := by
  obtain ⟨kk, hkk, hk⟩ := h.k.1 i hi
  by_cases h7 : 70 ≤ ga F i
  · have h7' := Int32.not_lt.mpr h7
    simp [s_X1_passYears_17, s_X1_passYears_18, s_X1_passYears_21, s_X1_passYears_22, s_X1_passYears_23, s_X1_passYears_25, s_X1_passYears_28, pF_0, cF, gf_hit, ob1_s, av_a, cI, ai_hit, in8 hi, cl8 hi, h7, h7', yr1]
  · rw [py_a hW ho hi hk hkk h7, py_b hW ho hi (F := agF F i) (kk := kk) hk hkk (h.c.1 i hi), ga_ag]
    unfold yr1
    rw [if_neg h7]
theorem lp_py1 (hW : WY g) (ho : 8 ≤ o) {n : Nat} (hn : n ≤ 8) : ∀ (k j : Nat) (F : Fam), j + k = n → FI F → gn F = nI n → den sc (d + 5) MX1_passYears 9 [some (.ref o), some (.int N), some (.int y), some (.int (nI j))] [] (putF g o F) = den sc (d + 5) MX1_passYears 97 [some (.ref o), some (.int N), some (.int y), some (.int (nI n))] [] (putF g o (yrL k j F))
  | 0, j, F, hj, h, hg => by
    obtain rfl : j = n := by omega
    rw [s_X1_passYears_9]
    simp [s_X1_passYears_10, s_X1_passYears_11, s_X1_passYears_14, pF_0, cF, gf_hit, ob1_s, hg, yrL]
  | k + 1, j, F, hj, h, hg => by
    have hjn : ¬ nI n ≤ nI j := fun e => by
      have := (nI_leI (show n < 2 ^ 31 by omega) (show j < 2 ^ 31 by omega)).mp e
      omega
    have ih := lp_py1 hW ho hn k (j + 1) (yr1 F j) (by omega) (yr1_ok h (by omega)) (yr1_n.1.trans hg)
    rw [s_X1_passYears_9]
    simp only [s_X1_passYears_10, s_X1_passYears_11, s_X1_passYears_14, pF_0, cF, gf_hit, List.getElem?_cons_zero, List.getElem?_cons_succ, ob1_s, hg, hjn, if_false]
    rw [py_1 hW ho h (by omega)]
    simp only [s_X1_passYears_91, s_X1_passYears_94, nI_1]
    exact ih
theorem lp_py (hW : WY g) (ho : 8 ≤ o) {n : Nat} (hn : n < 2 ^ 31) : ∀ (k j : Nat) (F : Fam) (l3 : Option Value), j + k = n → FI F → den sc (d + 5) MX1_passYears 2 [some (.ref o), some (.int (nI n)), some (.int (nI j)), l3] [] (putF g o F) = some (none, putF g o (yearsF k F))
  | 0, j, F, l3, hj, h => by
    obtain rfl : j = n := by omega
    rw [s_X1_passYears_2]
    simp [s_X1_passYears_3, s_X1_passYears_4, s_X1_passYears_113, yearsF]
  | k + 1, j, F, l3, hj, h => by
    have hjn : ¬ nI n ≤ nI j := fun e => by
      have := (nI_leI (show n < 2 ^ 31 by omega) (show j < 2 ^ 31 by omega)).mp e
      omega
    obtain ⟨q, hq, e⟩ := h.n
    have ih := lp_py hW ho hn k (j + 1) (yearF F) (some (.int (nI q))) (by omega) (year_ok h)
    rw [s_X1_passYears_2]
    simp only [s_X1_passYears_3, s_X1_passYears_4, s_X1_passYears_7, s_X1_passYears_8, hjn, if_false]
    rw [show (0 : Int32) = nI 0 from rfl, lp_py1 hW ho (show q ≤ 8 by omega) q 0 F (by omega) h e]
    simp only [s_X1_passYears_97, s_X1_passYears_98, s_X1_passYears_98i, s_X1_passYears_99, s_X1_passYears_102, s_X1_passYears_103, s_X1_passYears_104, s_X1_passYears_107, s_X1_passYears_110, pF_0, cF, gf_hit, pf_hit, List.getElem?_cons_zero, List.getElem?_cons_succ, ob1_s, List.length_cons, List.length_nil, List.set_cons_zero, List.set_cons_succ, show 9 < 0 + 1 + 1 + 1 + 1 + 1 + 1 + 1 + 1 + 1 + 1 from by decide, if_true, nI_1, (yrL_n q 0 (F := F)).2]
    rw [uF_y' rfl rfl]
    have hy : wy (yrL q 0 F) (gy F + 1) = yearF F := by unfold yearF; rw [e, nI_clamp (by omega)]
    rw [hy]
    exact ih
theorem sp_passYears (hW : WY g) (ho : 8 ≤ o) (h : FI F) {n : Nat} (hn : n < 2 ^ 31) : call sc (d + 5) MX1_passYears [.ref o, .int (nI n)] (putF g o F) = some (none, putF g o (yearsF n F)) := by
  simp only [c_X1_passYears, s_X1_passYears_0, s_X1_passYears_1]
  exact lp_py hW ho hn n 0 F _ (by omega) h
end
