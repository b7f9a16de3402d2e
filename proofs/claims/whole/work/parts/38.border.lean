/-! THE BORDER -/
def tkF (F : Fam) (i : Nat) : Int32 := takeF (gk F i) (showF (gk F i) (ga F i) (gp F i) (gw F)) (gw F)
def lostF (l : Int32) : Int32 := if 999 < l + 1 then 999 else l + 1
def crossF (F : Fam) (i : Nat) (t : Int32) : Fam :=
  if gc F i < 0 then wb (wl (wp F (upd (gp F) i (rm (gp F i) t))) (upd (gl F) i (lostF (gl F i)))) (gb F ||| so t)
  else wp (wl (wp F (upd (gp F) i (rm (gp F i) t))) (upd (gl F) i (lostF (gl F i)))) (upd (upd (gp F) i (rm (gp F i) t)) (gc F i).toNatClampNeg (upd (gp F) i (rm (gp F i) t) (gc F i).toNatClampNeg ||| so t))
def brdF (F : Fam) (i : Nat) : Fam := if tkF F i < 0 then F else crossF F i (tkF F i)
theorem lastL_ok {s : Int32} : ∀ j, j ≤ 16 → bsOk (lastL s j)
  | 0, _ => Or.inl rfl
  | j + 1, h => by
    unfold lastL
    split
    · exact Or.inr ⟨j, by omega, rfl⟩
    · exact lastL_ok j (by omega)
theorem bestF_ok {s : Int32} {w : Nat → Int32} : bsOk (bestF s w) := bsL_ok 16 0 (-1) rfl (Or.inl rfl)
theorem worstF_ok {s : Int32} {w : Nat → Int32} : bsOk (worstF s w) := bsL_ok 16 0 (-1) rfl (Or.inl rfl)
theorem takeF_ok {kd s : Int32} {w : Nat → Int32} : bsOk (takeF kd s w) := by
  unfold takeF
  split
  · exact worstF_ok
  · split
    · exact lastL_ok 16 (Nat.le_refl _)
    · split
      · split
        · exact worstF_ok
        · exact worstF_ok
      · exact bestF_ok
theorem tk_ok {F : Fam} {i : Nat} : bsOk (tkF F i) := takeF_ok
section
variable {sc : mx_X} {d : Nat} {g : mx_G} {o i kk : Nat} {F : Fam}
theorem uF_w' {v : Nat → Int32} : mx_up (putF g o F) (o + 1) (.inl (.int, 16, .inl v)) = putF g o (ww F v) := uF_w
theorem uF_k' {v : Nat → Int32} : mx_up (putF g o F) (o + 2) (.inl (.int, 8, .inl v)) = putF g o (wk F v) := uF_k
theorem uF_a' {v : Nat → Int32} : mx_up (putF g o F) (o + 3) (.inl (.int, 8, .inl v)) = putF g o (wa F v) := uF_a
theorem uF_p' {v : Nat → Int32} : mx_up (putF g o F) (o + 4) (.inl (.int, 8, .inl v)) = putF g o (wp F v) := uF_p
theorem uF_c' {v : Nat → Int32} : mx_up (putF g o F) (o + 5) (.inl (.int, 8, .inl v)) = putF g o (wc F v) := uF_c
theorem uF_l' {v : Nat → Int32} : mx_up (putF g o F) (o + 6) (.inl (.int, 8, .inl v)) = putF g o (wl F v) := uF_l
theorem uF_n' {n b y : Int32} (hb : b = gb F) (hy : y = gy F) : mx_up (putF g o F) o (.inr (1, [.ref 1, .ref (o + 1), .ref (o + 2), .ref (o + 3), .ref (o + 4), .ref (o + 5), .ref (o + 6), .int n, .int b, .int y])) = putF g o (wn F n) := by subst hb hy; exact uF_n
theorem uF_b' {n b y : Int32} (hn : n = gn F) (hy : y = gy F) : mx_up (putF g o F) o (.inr (1, [.ref 1, .ref (o + 1), .ref (o + 2), .ref (o + 3), .ref (o + 4), .ref (o + 5), .ref (o + 6), .int n, .int b, .int y])) = putF g o (wb F b) := by subst hn hy; exact uF_b
theorem uF_y' {n b y : Int32} (hn : n = gn F) (hb : b = gb F) : mx_up (putF g o F) o (.inr (1, [.ref 1, .ref (o + 1), .ref (o + 2), .ref (o + 3), .ref (o + 4), .ref (o + 5), .ref (o + 6), .int n, .int b, .int y])) = putF g o (wy F y) := by subst hn hb; exact uF_y
theorem rm_nt {s t : Int32} : s &&& ~~~(so t) = rm s t := by
  unfold rm
  congr 1
  apply b_ext
  intro i hi
  rw [b_xor, b_m1 i hi, Bool.xor_true]
  unfold bt
  rw [Int32.toBitVec_not, BitVec.getLsbD_not, decide_eq_true hi, Bool.true_and]
theorem ne_m1 {c : Nat} (h : c < 8) : ¬ nI c = -1 := fun e => nn_nI (show c < 2 ^ 31 by omega) (by rw [e]; decide)
theorem rcF : mx_rc (putF g o F) o = some 1 := rc_hit pF_0
/-- who the cousin is -/
def csOk (c : Int32) : Prop := c = -1 ∨ ∃ j, j < 8 ∧ c = nI j
theorem sp_holdBorder (hW : WY g) (ho : 8 ≤ o) (hi : i < 8) (hk : gk F i = nI kk) (hkk : kk < 6) (hc : csOk (gc F i)) : call sc (d + 4) MX1_holdBorder [.ref o, .int (nI i)] (putF g o F) = some (some (.int (tkF F i)), putF g o (brdF F i)) := by
  have ht := sp_takenFrom (sc := sc) (d := d) hW ho hi hk hkk (F := F)
  rcases tk_ok (F := F) (i := i) with h | ⟨t, ht16, h⟩
  · have hb : brdF F i = F := by unfold brdF; rw [h]; rfl
    rw [hb]
    unfold tkF at h ⊢
    rw [h] at ht ⊢
    simp [c_X1_holdBorder, s_X1_holdBorder_0, s_X1_holdBorder_1, s_X1_holdBorder_2, s_X1_holdBorder_5, s_X1_holdBorder_6, s_X1_holdBorder_7, s_X1_holdBorder_10, s_X1_holdBorder_11, s_X1_holdBorder_12, s_X1_holdBorder_13, s_X1_holdBorder_16, s_X1_holdBorder_17, s_X1_holdBorder_18, s_X1_holdBorder_19, s_X1_holdBorder_20, s_X1_holdBorder_23, s_X1_holdBorder_24, s_X1_holdBorder_25, s_X1_holdBorder_26, s_X1_holdBorder_27, s_X1_holdBorder_28, s_X1_holdBorder_31, s_X1_holdBorder_32, s_X1_holdBorder_33, s_X1_holdBorder_36, s_X1_holdBorder_37, s_X1_holdBorder_38, s_X1_holdBorder_39, s_X1_holdBorder_40, s_X1_holdBorder_43, s_X1_holdBorder_46, s_X1_holdBorder_47, s_X1_holdBorder_48, s_X1_holdBorder_51, s_X1_holdBorder_52, s_X1_holdBorder_53, s_X1_holdBorder_54, s_X1_holdBorder_57, s_X1_holdBorder_58, s_X1_holdBorder_58i, s_X1_holdBorder_59, s_X1_holdBorder_62, s_X1_holdBorder_63, s_X1_holdBorder_66, s_X1_holdBorder_67, s_X1_holdBorder_70, s_X1_holdBorder_73, s_X1_holdBorder_74, s_X1_holdBorder_77, s_X1_holdBorder_78, s_X1_holdBorder_81, s_X1_holdBorder_82, s_X1_holdBorder_83, s_X1_holdBorder_84, s_X1_holdBorder_85, s_X1_holdBorder_86, s_X1_holdBorder_89, s_X1_holdBorder_90, s_X1_holdBorder_91, s_X1_holdBorder_92, rcF, ht, ck0]
  · have hn : ¬ tkF F i < 0 := by rw [h]; exact nn_nI (by omega)
    have hb : brdF F i = crossF F i (tkF F i) := by unfold brdF; rw [if_neg hn]
    rw [hb]
    have hn' : 0 ≤ tkF F i := Int32.not_lt.mp hn
    have ht' : call sc (d + 3) MX1_takenFrom [.ref o, .int (nI i)] (putF g o F) = some (some (.int (tkF F i)), putF g o F) := ht
    clear h ht
    generalize tkF F i = t at *
    rcases hc with hc | ⟨c, hc8, hc⟩
    · simp [c_X1_holdBorder, s_X1_holdBorder_0, s_X1_holdBorder_1, s_X1_holdBorder_2, s_X1_holdBorder_5, s_X1_holdBorder_6, s_X1_holdBorder_7, s_X1_holdBorder_10, s_X1_holdBorder_11, s_X1_holdBorder_12, s_X1_holdBorder_13, s_X1_holdBorder_16, s_X1_holdBorder_17, s_X1_holdBorder_18, s_X1_holdBorder_19, s_X1_holdBorder_20, s_X1_holdBorder_23, s_X1_holdBorder_24, s_X1_holdBorder_25, s_X1_holdBorder_26, s_X1_holdBorder_27, s_X1_holdBorder_28, s_X1_holdBorder_31, s_X1_holdBorder_32, s_X1_holdBorder_33, s_X1_holdBorder_36, s_X1_holdBorder_37, s_X1_holdBorder_38, s_X1_holdBorder_39, s_X1_holdBorder_40, s_X1_holdBorder_43, s_X1_holdBorder_46, s_X1_holdBorder_47, s_X1_holdBorder_48, s_X1_holdBorder_51, s_X1_holdBorder_52, s_X1_holdBorder_53, s_X1_holdBorder_54, s_X1_holdBorder_57, s_X1_holdBorder_58, s_X1_holdBorder_58i, s_X1_holdBorder_59, s_X1_holdBorder_62, s_X1_holdBorder_63, s_X1_holdBorder_66, s_X1_holdBorder_67, s_X1_holdBorder_70, s_X1_holdBorder_73, s_X1_holdBorder_74, s_X1_holdBorder_77, s_X1_holdBorder_78, s_X1_holdBorder_81, s_X1_holdBorder_82, s_X1_holdBorder_83, s_X1_holdBorder_84, s_X1_holdBorder_85, s_X1_holdBorder_86, s_X1_holdBorder_89, s_X1_holdBorder_90, s_X1_holdBorder_91, s_X1_holdBorder_92, rcF, ht', hn', pF_0, cF, gf_hit, pf_hit, ob1_s, av_p, av_l, av_c, pF_p, pF_l, cI, ai_hit, in8 hi, cl8 hi, sp_setOf, rm_eq, uF_p', uF_l', uF_b', rm_nt, hc, ck0, ck1, ck2, ck3, gw_ww, gw_wk, gw_wa, gw_wp, gw_wc, gw_wl, gw_wn, gw_wb, gw_wy, gk_ww, gk_wk, gk_wa, gk_wp, gk_wc, gk_wl, gk_wn, gk_wb, gk_wy, ga_ww, ga_wk, ga_wa, ga_wp, ga_wc, ga_wl, ga_wn, ga_wb, ga_wy, gp_ww, gp_wk, gp_wa, gp_wp, gp_wc, gp_wl, gp_wn, gp_wb, gp_wy, gc_ww, gc_wk, gc_wa, gc_wp, gc_wc, gc_wl, gc_wn, gc_wb, gc_wy, gl_ww, gl_wk, gl_wa, gl_wp, gl_wc, gl_wl, gl_wn, gl_wb, gl_wy, gn_ww, gn_wk, gn_wa, gn_wp, gn_wc, gn_wl, gn_wn, gn_wb, gn_wy, gb_ww, gb_wk, gb_wa, gb_wp, gb_wc, gb_wl, gb_wn, gb_wb, gb_wy, gy_ww, gy_wk, gy_wa, gy_wp, gy_wc, gy_wl, gy_wn, gy_wb, gy_wy, crossF, lostF]
      exact uF_b' rfl rfl
    · simp [c_X1_holdBorder, s_X1_holdBorder_0, s_X1_holdBorder_1, s_X1_holdBorder_2, s_X1_holdBorder_5, s_X1_holdBorder_6, s_X1_holdBorder_7, s_X1_holdBorder_10, s_X1_holdBorder_11, s_X1_holdBorder_12, s_X1_holdBorder_13, s_X1_holdBorder_16, s_X1_holdBorder_17, s_X1_holdBorder_18, s_X1_holdBorder_19, s_X1_holdBorder_20, s_X1_holdBorder_23, s_X1_holdBorder_24, s_X1_holdBorder_25, s_X1_holdBorder_26, s_X1_holdBorder_27, s_X1_holdBorder_28, s_X1_holdBorder_31, s_X1_holdBorder_32, s_X1_holdBorder_33, s_X1_holdBorder_36, s_X1_holdBorder_37, s_X1_holdBorder_38, s_X1_holdBorder_39, s_X1_holdBorder_40, s_X1_holdBorder_43, s_X1_holdBorder_46, s_X1_holdBorder_47, s_X1_holdBorder_48, s_X1_holdBorder_51, s_X1_holdBorder_52, s_X1_holdBorder_53, s_X1_holdBorder_54, s_X1_holdBorder_57, s_X1_holdBorder_58, s_X1_holdBorder_58i, s_X1_holdBorder_59, s_X1_holdBorder_62, s_X1_holdBorder_63, s_X1_holdBorder_66, s_X1_holdBorder_67, s_X1_holdBorder_70, s_X1_holdBorder_73, s_X1_holdBorder_74, s_X1_holdBorder_77, s_X1_holdBorder_78, s_X1_holdBorder_81, s_X1_holdBorder_82, s_X1_holdBorder_83, s_X1_holdBorder_84, s_X1_holdBorder_85, s_X1_holdBorder_86, s_X1_holdBorder_89, s_X1_holdBorder_90, s_X1_holdBorder_91, s_X1_holdBorder_92, rcF, ht', hn', pF_0, cF, gf_hit, pf_hit, ob1_s, av_p, av_l, av_c, pF_p, pF_l, cI, ai_hit, in8 hi, cl8 hi, in8 hc8, cl8 hc8, ne_m1 hc8, nn_nI (show c < 2 ^ 31 by omega), sp_setOf, rm_eq, uF_p', uF_l', uF_b', rm_nt, hc, ck0, ck1, ck2, ck3, gw_ww, gw_wk, gw_wa, gw_wp, gw_wc, gw_wl, gw_wn, gw_wb, gw_wy, gk_ww, gk_wk, gk_wa, gk_wp, gk_wc, gk_wl, gk_wn, gk_wb, gk_wy, ga_ww, ga_wk, ga_wa, ga_wp, ga_wc, ga_wl, ga_wn, ga_wb, ga_wy, gp_ww, gp_wk, gp_wa, gp_wp, gp_wc, gp_wl, gp_wn, gp_wb, gp_wy, gc_ww, gc_wk, gc_wa, gc_wp, gc_wc, gc_wl, gc_wn, gc_wb, gc_wy, gl_ww, gl_wk, gl_wa, gl_wp, gl_wc, gl_wl, gl_wn, gl_wb, gl_wy, gn_ww, gn_wk, gn_wa, gn_wp, gn_wc, gn_wl, gn_wn, gn_wb, gn_wy, gb_ww, gb_wk, gb_wa, gb_wp, gb_wc, gb_wl, gb_wn, gb_wb, gb_wy, gy_ww, gy_wk, gy_wa, gy_wp, gy_wc, gy_wl, gy_wn, gy_wb, gy_wy, crossF, lostF]
end
section
variable {sc : mx_X} {d : Nat} {g : mx_G} {i kk : Nat} {F : Fam} {fr : List Value}
theorem so_nI {t : Nat} (h : t < 16) : (1 : Int32) <<< (nI t &&& 31) = so (nI t) := (so_pos (nn_nI (by omega))).symm
theorem lost_held {l : Nat} (h : l ≤ 999) : (if nI l + 1 < 0 then (0 : Int32) else if 999 < nI l + 1 then 999 else nI l + 1) = lostF (nI l) := by
  have e : ¬ nI l + 1 < 0 := by rw [nI_1]; exact nn_nI (by omega)
  rw [if_neg e]
  rfl
theorem sp_crosses (hm : g.1 42 = some (.inr (11, .ref 43 :: fr))) (hi : i < 8) (hk : gk F i = nI kk) (hkk : kk < 6) {m l : Nat} (hp : gp F i = nI m) (hlt : m < 65536) (hl : gl F i = nI l) (hl9 : l ≤ 999) (hc : csOk (gc F i)) : call sc (d + 3) MX11_crosses [.ref 42, .int (nI i)] (RF g F) = some (some (.int (tkF F i)), RF g (brdF F i)) := by
  have ht : call sc (d + 2) MX11_taken [.ref 42, .int (nI i)] (RF g F) = some (some (.int (tkF F i)), RF g F) := sp_mtaken (sc := sc) (d := d) hm hi hk hkk hp hlt
  have hld := lost_held hl9
  rw [← hl] at hld
  have h42 : ∀ F, (RF g F).1 42 = some (.inr (11, .ref 43 :: fr)) := fun F => by rw [rF_o (by decide)]; exact hm
  rcases tk_ok (F := F) (i := i) with h | ⟨t, ht16, h⟩
  · have hb : brdF F i = F := by unfold brdF; rw [h]; rfl
    rw [hb]
    rw [h] at ht ⊢
    simp [c_X11_crosses, s_X11_crosses_0, s_X11_crosses_1, s_X11_crosses_2, s_X11_crosses_5, s_X11_crosses_6, s_X11_crosses_7, s_X11_crosses_10, s_X11_crosses_11, s_X11_crosses_12, s_X11_crosses_13, s_X11_crosses_16, s_X11_crosses_17, s_X11_crosses_18, s_X11_crosses_19, s_X11_crosses_20, s_X11_crosses_21, s_X11_crosses_22, s_X11_crosses_23, s_X11_crosses_26, s_X11_crosses_27, s_X11_crosses_30, s_X11_crosses_33, s_X11_crosses_34, s_X11_crosses_35, s_X11_crosses_36, s_X11_crosses_37, s_X11_crosses_38, s_X11_crosses_39, s_X11_crosses_42, s_X11_crosses_43, s_X11_crosses_44, s_X11_crosses_45, s_X11_crosses_48, s_X11_crosses_51, s_X11_crosses_54, s_X11_crosses_55, s_X11_crosses_58, s_X11_crosses_59, s_X11_crosses_62, s_X11_crosses_63, s_X11_crosses_64, s_X11_crosses_65, s_X11_crosses_66, s_X11_crosses_67, s_X11_crosses_68, s_X11_crosses_69, s_X11_crosses_70, s_X11_crosses_73, s_X11_crosses_74, s_X11_crosses_75, s_X11_crosses_76, s_X11_crosses_77, s_X11_crosses_78, s_X11_crosses_79, s_X11_crosses_82, s_X11_crosses_83, s_X11_crosses_84, s_X11_crosses_85, s_X11_crosses_86, s_X11_crosses_89, s_X11_crosses_90, mrc hm, ht, ck0]
  · have hn : ¬ tkF F i < 0 := by rw [h]; exact nn_nI (by omega)
    have hb : brdF F i = crossF F i (tkF F i) := by unfold brdF; rw [if_neg hn]
    rw [hb, h]
    rw [h] at ht hn
    rcases hc with hc | ⟨c, hc8, hc⟩
    · simp [c_X11_crosses, s_X11_crosses_0, s_X11_crosses_1, s_X11_crosses_2, s_X11_crosses_5, s_X11_crosses_6, s_X11_crosses_7, s_X11_crosses_10, s_X11_crosses_11, s_X11_crosses_12, s_X11_crosses_13, s_X11_crosses_16, s_X11_crosses_17, s_X11_crosses_18, s_X11_crosses_19, s_X11_crosses_20, s_X11_crosses_21, s_X11_crosses_22, s_X11_crosses_23, s_X11_crosses_26, s_X11_crosses_27, s_X11_crosses_30, s_X11_crosses_33, s_X11_crosses_34, s_X11_crosses_35, s_X11_crosses_36, s_X11_crosses_37, s_X11_crosses_38, s_X11_crosses_39, s_X11_crosses_42, s_X11_crosses_43, s_X11_crosses_44, s_X11_crosses_45, s_X11_crosses_48, s_X11_crosses_51, s_X11_crosses_54, s_X11_crosses_55, s_X11_crosses_58, s_X11_crosses_59, s_X11_crosses_62, s_X11_crosses_63, s_X11_crosses_64, s_X11_crosses_65, s_X11_crosses_66, s_X11_crosses_67, s_X11_crosses_68, s_X11_crosses_69, s_X11_crosses_70, s_X11_crosses_73, s_X11_crosses_74, s_X11_crosses_75, s_X11_crosses_76, s_X11_crosses_77, s_X11_crosses_78, s_X11_crosses_79, s_X11_crosses_82, s_X11_crosses_83, s_X11_crosses_84, s_X11_crosses_85, s_X11_crosses_86, s_X11_crosses_89, s_X11_crosses_90, mrc hm, ht, hn, sp_its2 hm hi, sp_its3 hm hi, sp_its4 hm hi, sp_puts2 hm hi, sp_puts4 hm hi, sp_but, sp_held, hld, hc, ck0, ck1, ck2, ck3, gw_ww, gw_wk, gw_wa, gw_wp, gw_wc, gw_wl, gw_wn, gw_wb, gw_wy, gk_ww, gk_wk, gk_wa, gk_wp, gk_wc, gk_wl, gk_wn, gk_wb, gk_wy, ga_ww, ga_wk, ga_wa, ga_wp, ga_wc, ga_wl, ga_wn, ga_wb, ga_wy, gp_ww, gp_wk, gp_wa, gp_wp, gp_wc, gp_wl, gp_wn, gp_wb, gp_wy, gc_ww, gc_wk, gc_wa, gc_wp, gc_wc, gc_wl, gc_wn, gc_wb, gc_wy, gl_ww, gl_wk, gl_wa, gl_wp, gl_wc, gl_wl, gl_wn, gl_wb, gl_wy, gn_ww, gn_wk, gn_wa, gn_wp, gn_wc, gn_wl, gn_wn, gn_wb, gn_wy, gb_ww, gb_wk, gb_wa, gb_wp, gb_wc, gb_wl, gb_wn, gb_wb, gb_wy, gy_ww, gy_wk, gy_wa, gy_wp, gy_wc, gy_wl, gy_wn, gy_wb, gy_wy, h42, gf_hit, ob1_s, rF_43, av_hit rF_43, cI, ai_hit, ro_b, show mx_in 1 59 = true from by decide, so_nI ht16, crossF]
      exact rF_up (ru_b _ _)
    · simp [c_X11_crosses, s_X11_crosses_0, s_X11_crosses_1, s_X11_crosses_2, s_X11_crosses_5, s_X11_crosses_6, s_X11_crosses_7, s_X11_crosses_10, s_X11_crosses_11, s_X11_crosses_12, s_X11_crosses_13, s_X11_crosses_16, s_X11_crosses_17, s_X11_crosses_18, s_X11_crosses_19, s_X11_crosses_20, s_X11_crosses_21, s_X11_crosses_22, s_X11_crosses_23, s_X11_crosses_26, s_X11_crosses_27, s_X11_crosses_30, s_X11_crosses_33, s_X11_crosses_34, s_X11_crosses_35, s_X11_crosses_36, s_X11_crosses_37, s_X11_crosses_38, s_X11_crosses_39, s_X11_crosses_42, s_X11_crosses_43, s_X11_crosses_44, s_X11_crosses_45, s_X11_crosses_48, s_X11_crosses_51, s_X11_crosses_54, s_X11_crosses_55, s_X11_crosses_58, s_X11_crosses_59, s_X11_crosses_62, s_X11_crosses_63, s_X11_crosses_64, s_X11_crosses_65, s_X11_crosses_66, s_X11_crosses_67, s_X11_crosses_68, s_X11_crosses_69, s_X11_crosses_70, s_X11_crosses_73, s_X11_crosses_74, s_X11_crosses_75, s_X11_crosses_76, s_X11_crosses_77, s_X11_crosses_78, s_X11_crosses_79, s_X11_crosses_82, s_X11_crosses_83, s_X11_crosses_84, s_X11_crosses_85, s_X11_crosses_86, s_X11_crosses_89, s_X11_crosses_90, mrc hm, ht, hn, sp_its2 hm hi, sp_its3 hm hi, sp_its4 hm hi, sp_puts2 hm hi, sp_puts4 hm hi, sp_its2 hm hc8, sp_puts2 hm hc8, sp_but, sp_held, hld, hc, ck0, ck1, ck2, ck3, gw_ww, gw_wk, gw_wa, gw_wp, gw_wc, gw_wl, gw_wn, gw_wb, gw_wy, gk_ww, gk_wk, gk_wa, gk_wp, gk_wc, gk_wl, gk_wn, gk_wb, gk_wy, ga_ww, ga_wk, ga_wa, ga_wp, ga_wc, ga_wl, ga_wn, ga_wb, ga_wy, gp_ww, gp_wk, gp_wa, gp_wp, gp_wc, gp_wl, gp_wn, gp_wb, gp_wy, gc_ww, gc_wk, gc_wa, gc_wp, gc_wc, gc_wl, gc_wn, gc_wb, gc_wy, gl_ww, gl_wk, gl_wa, gl_wp, gl_wc, gl_wl, gl_wn, gl_wb, gl_wy, gn_ww, gn_wk, gn_wa, gn_wp, gn_wc, gn_wl, gn_wn, gn_wb, gn_wy, gb_ww, gb_wk, gb_wa, gb_wp, gb_wc, gb_wl, gb_wn, gb_wb, gb_wy, gy_ww, gy_wk, gy_wa, gy_wp, gy_wc, gy_wl, gy_wn, gy_wb, gy_wy, so_nI ht16, crossF, nn_nI (show c < 2 ^ 31 by omega), nI_pos' (show c < 2 ^ 31 by omega), cl8 hc8]
end
