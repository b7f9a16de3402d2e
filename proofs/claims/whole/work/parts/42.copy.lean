/-! ONE FAMILY BECOMES ANOTHER -/
theorem cpy_all {n : Nat} {f0 f1 : Nat → Int32} (h0 : ∀ i, n ≤ i → f0 i = 0) (h1 : ∀ i, n ≤ i → f1 i = 0) : va_cpy f0 f1 0 0 n = f0 := by
  funext j
  rcases Nat.lt_or_ge j n with h | h
  · rw [pk_cpy_in (Nat.zero_le j) (by omega)]
    congr 1
    omega
  · rw [pk_cpy_out (Or.inr (by omega)), h0 j h, h1 j h]
section
variable {sc : mx_X} {d : Nat} {g : mx_G} {o1 o2 : Nat} {F T : Fam}
theorem z16 : (16 : Int32).toNatClampNeg = 16 := by decide
theorem z8 : (8 : Int32).toNatClampNeg = 8 := by decide
theorem z0 : (0 : Int32).toNatClampNeg = 0 := by decide
theorem bc_w (hd : o2 + 6 < o1 ∨ o1 + 6 < o2) (hF : FI F) (hT : ∀ i, 16 ≤ i → gw T i = 0) : den sc d MX1_becomes 0 [some (.ref o1), some (.ref o2)] [] (putF (putF g o2 F) o1 T) = den sc d MX1_becomes 15 [some (.ref o1), some (.ref o2)] [] (putF (putF g o2 F) o1 (ww T (gw F))) := by
  have b0 : (putF (putF g o2 F) o1 T).1 o2 = some (cF o2 F) := by rw [pF_o (by omega)]; exact pF_0
  have b1 : (putF (putF g o2 F) o1 T).1 (o2 + 1) = some (cI 16 (gw F)) := by rw [pF_o (by omega)]; exact pF_w
  simp only [s_X1_becomes_0, s_X1_becomes_1, s_X1_becomes_4, s_X1_becomes_5, s_X1_becomes_6, s_X1_becomes_9, s_X1_becomes_10, b0, pF_0, cF, gf_hit, List.getElem?_cons_zero, List.getElem?_cons_succ, ob1_s]
  rw [s_X1_becomes_12 (by decide) (by decide) (by decide) (by decide) b1 pF_w (by decide) (by decide)]
  rw [z0, z16, cpy_all hF.w.2 hT, uF_w']
theorem bc_k (hd : o2 + 6 < o1 ∨ o1 + 6 < o2) (hF : FI F) (hT : ∀ i, 8 ≤ i → gk T i = 0) : den sc d MX1_becomes 15 [some (.ref o1), some (.ref o2)] [] (putF (putF g o2 F) o1 T) = den sc d MX1_becomes 30 [some (.ref o1), some (.ref o2)] [] (putF (putF g o2 F) o1 (wk T (gk F))) := by
  have b0 : (putF (putF g o2 F) o1 T).1 o2 = some (cF o2 F) := by rw [pF_o (by omega)]; exact pF_0
  have b1 : (putF (putF g o2 F) o1 T).1 (o2 + 2) = some (cI 8 (gk F)) := by rw [pF_o (by omega)]; exact pF_k
  simp only [s_X1_becomes_15, s_X1_becomes_16, s_X1_becomes_19, s_X1_becomes_20, s_X1_becomes_21, s_X1_becomes_24, s_X1_becomes_25, b0, pF_0, cF, gf_hit, List.getElem?_cons_zero, List.getElem?_cons_succ, ob1_s]
  rw [s_X1_becomes_27 (by decide) (by decide) (by decide) (by decide) b1 pF_k (by decide) (by decide)]
  rw [z0, z8, cpy_all hF.k.2 hT, uF_k']
theorem bc_a (hd : o2 + 6 < o1 ∨ o1 + 6 < o2) (hF : FI F) (hT : ∀ i, 8 ≤ i → ga T i = 0) : den sc d MX1_becomes 30 [some (.ref o1), some (.ref o2)] [] (putF (putF g o2 F) o1 T) = den sc d MX1_becomes 45 [some (.ref o1), some (.ref o2)] [] (putF (putF g o2 F) o1 (wa T (ga F))) := by
  have b0 : (putF (putF g o2 F) o1 T).1 o2 = some (cF o2 F) := by rw [pF_o (by omega)]; exact pF_0
  have b1 : (putF (putF g o2 F) o1 T).1 (o2 + 3) = some (cI 8 (ga F)) := by rw [pF_o (by omega)]; exact pF_a
  simp only [s_X1_becomes_30, s_X1_becomes_31, s_X1_becomes_34, s_X1_becomes_35, s_X1_becomes_36, s_X1_becomes_39, s_X1_becomes_40, b0, pF_0, cF, gf_hit, List.getElem?_cons_zero, List.getElem?_cons_succ, ob1_s]
  rw [s_X1_becomes_42 (by decide) (by decide) (by decide) (by decide) b1 pF_a (by decide) (by decide)]
  rw [z0, z8, cpy_all hF.a.2 hT, uF_a']
theorem bc_p (hd : o2 + 6 < o1 ∨ o1 + 6 < o2) (hF : FI F) (hT : ∀ i, 8 ≤ i → gp T i = 0) : den sc d MX1_becomes 45 [some (.ref o1), some (.ref o2)] [] (putF (putF g o2 F) o1 T) = den sc d MX1_becomes 60 [some (.ref o1), some (.ref o2)] [] (putF (putF g o2 F) o1 (wp T (gp F))) := by
  have b0 : (putF (putF g o2 F) o1 T).1 o2 = some (cF o2 F) := by rw [pF_o (by omega)]; exact pF_0
  have b1 : (putF (putF g o2 F) o1 T).1 (o2 + 4) = some (cI 8 (gp F)) := by rw [pF_o (by omega)]; exact pF_p
  simp only [s_X1_becomes_45, s_X1_becomes_46, s_X1_becomes_49, s_X1_becomes_50, s_X1_becomes_51, s_X1_becomes_54, s_X1_becomes_55, b0, pF_0, cF, gf_hit, List.getElem?_cons_zero, List.getElem?_cons_succ, ob1_s]
  rw [s_X1_becomes_57 (by decide) (by decide) (by decide) (by decide) b1 pF_p (by decide) (by decide)]
  rw [z0, z8, cpy_all hF.p.2 hT, uF_p']
theorem bc_c (hd : o2 + 6 < o1 ∨ o1 + 6 < o2) (hF : FI F) (hT : ∀ i, 8 ≤ i → gc T i = 0) : den sc d MX1_becomes 60 [some (.ref o1), some (.ref o2)] [] (putF (putF g o2 F) o1 T) = den sc d MX1_becomes 75 [some (.ref o1), some (.ref o2)] [] (putF (putF g o2 F) o1 (wc T (gc F))) := by
  have b0 : (putF (putF g o2 F) o1 T).1 o2 = some (cF o2 F) := by rw [pF_o (by omega)]; exact pF_0
  have b1 : (putF (putF g o2 F) o1 T).1 (o2 + 5) = some (cI 8 (gc F)) := by rw [pF_o (by omega)]; exact pF_c
  simp only [s_X1_becomes_60, s_X1_becomes_61, s_X1_becomes_64, s_X1_becomes_65, s_X1_becomes_66, s_X1_becomes_69, s_X1_becomes_70, b0, pF_0, cF, gf_hit, List.getElem?_cons_zero, List.getElem?_cons_succ, ob1_s]
  rw [s_X1_becomes_72 (by decide) (by decide) (by decide) (by decide) b1 pF_c (by decide) (by decide)]
  rw [z0, z8, cpy_all hF.c.2 hT, uF_c']
theorem bc_l (hd : o2 + 6 < o1 ∨ o1 + 6 < o2) (hF : FI F) (hT : ∀ i, 8 ≤ i → gl T i = 0) : den sc d MX1_becomes 75 [some (.ref o1), some (.ref o2)] [] (putF (putF g o2 F) o1 T) = den sc d MX1_becomes 90 [some (.ref o1), some (.ref o2)] [] (putF (putF g o2 F) o1 (wl T (gl F))) := by
  have b0 : (putF (putF g o2 F) o1 T).1 o2 = some (cF o2 F) := by rw [pF_o (by omega)]; exact pF_0
  have b1 : (putF (putF g o2 F) o1 T).1 (o2 + 6) = some (cI 8 (gl F)) := by rw [pF_o (by omega)]; exact pF_l
  simp only [s_X1_becomes_75, s_X1_becomes_76, s_X1_becomes_79, s_X1_becomes_80, s_X1_becomes_81, s_X1_becomes_84, s_X1_becomes_85, b0, pF_0, cF, gf_hit, List.getElem?_cons_zero, List.getElem?_cons_succ, ob1_s]
  rw [s_X1_becomes_87 (by decide) (by decide) (by decide) (by decide) b1 pF_l (by decide) (by decide)]
  rw [z0, z8, cpy_all hF.l.2 hT, uF_l']
theorem sp_fbecomes (hd : o2 + 6 < o1 ∨ o1 + 6 < o2) (hF : FI F) (hT : FI T) : call sc d MX1_becomes [.ref o1, .ref o2] (putF (putF g o2 F) o1 T) = some (none, putF (putF g o2 F) o1 F) := by
  have b0 : ∀ T, (putF (putF g o2 F) o1 T).1 o2 = some (cF o2 F) := fun T => by rw [pF_o (by omega)]; exact pF_0
  rw [c_X1_becomes, bc_w hd hF hT.w.2, bc_k hd hF (T := ww T (gw F)) hT.k.2, bc_a hd hF (T := wk (ww T (gw F)) (gk F)) hT.a.2, bc_p hd hF (T := wa (wk (ww T (gw F)) (gk F)) (ga F)) hT.p.2, bc_c hd hF (T := wp (wa (wk (ww T (gw F)) (gk F)) (ga F)) (gp F)) hT.c.2, bc_l hd hF (T := wc (wp (wa (wk (ww T (gw F)) (gk F)) (ga F)) (gp F)) (gc F)) hT.l.2]
  simp only [s_X1_becomes_90, s_X1_becomes_91, s_X1_becomes_92, s_X1_becomes_95, b0, pF_0, cF, gf_hit, pf_hit, List.getElem?_cons_zero, List.getElem?_cons_succ, ob1_s, List.length_cons, List.length_nil, List.set_cons_zero, List.set_cons_succ, show 7 < 0 + 1 + 1 + 1 + 1 + 1 + 1 + 1 + 1 + 1 + 1 from by decide, if_true]
  rw [uF_n' rfl rfl]
  simp only [s_X1_becomes_98, s_X1_becomes_99, s_X1_becomes_100, s_X1_becomes_103, b0, pF_0, cF, gf_hit, pf_hit, List.getElem?_cons_zero, List.getElem?_cons_succ, ob1_s, List.length_cons, List.length_nil, List.set_cons_zero, List.set_cons_succ, show 8 < 0 + 1 + 1 + 1 + 1 + 1 + 1 + 1 + 1 + 1 + 1 from by decide, if_true]
  rw [uF_b' rfl rfl]
  simp only [s_X1_becomes_106, s_X1_becomes_107, s_X1_becomes_108, s_X1_becomes_111, s_X1_becomes_114, b0, pF_0, cF, gf_hit, pf_hit, List.getElem?_cons_zero, List.getElem?_cons_succ, ob1_s, List.length_cons, List.length_nil, List.set_cons_zero, List.set_cons_succ, show 9 < 0 + 1 + 1 + 1 + 1 + 1 + 1 + 1 + 1 + 1 + 1 from by decide, if_true]
  rw [uF_y' rfl rfl]
  rfl
end

/-! ALL OF THE ROW TO A STORE, AND BACK -/
section
variable {sc : mx_X} {d : Nat} {g : mx_G} {F : Fam} {fr : List Value} {s : Nat}
theorem up_up {a : Nat} {c c' : mx_C} : mx_up (mx_up g a c) a c' = mx_up g a c' := by
  refine Prod.ext (funext fun j => ?_) rfl
  show va_up (va_up g.1 a (some c)) a (some c') j = va_up g.1 a (some c') j
  unfold va_up
  split <;> rfl
theorem up_self {a : Nat} {c : mx_C} (h : g.1 a = some c) : mx_up g a c = g := by
  refine Prod.ext (funext fun j => ?_) rfl
  show va_up g.1 a (some c) j = g.1 j
  unfold va_up
  split
  · rename_i e; rw [e, h]
  · rfl
theorem up_at {a : Nat} {c : mx_C} : (mx_up g a c).1 a = some c := va_up_self _ _ _
theorem up_o {a b : Nat} {c : mx_C} (h : b ≠ a) : (mx_up g a c).1 b = g.1 b := va_up_ne _ _ h
theorem lt59 {j : Nat} (h : j < 59) : ¬ (59 : Int32) ≤ nI j := nI_ge h (by decide)
theorem lp_keep (hs : s ≠ 42) (hs2 : s ≠ 43) {r : Nat → Int32} : ∀ (k j : Nat) (g : mx_G) (f : Nat → Int32), j + k = 59 → g.1 42 = some (.inr (11, .ref 43 :: fr)) → g.1 43 = some (cI 59 r) → g.1 s = some (cI 59 f) → den sc d MX11_moveAll 2 [some (.ref 42), some (.int 1), some (.ref s), some (.int (nI j))] [] g = some (none, mx_up g s (cI 59 (fun q => if j ≤ q ∧ q < 59 then r q else f q)))
  | 0, j, g, f, hj, hm, h43, hf => by
    obtain rfl : j = 59 := by omega
    have e : (fun q => if 59 ≤ q ∧ q < 59 then r q else f q) = f := funext fun q => if_neg (by omega)
    rw [e, up_self hf, s_X11_moveAll_2]
    simp only [s_X11_moveAll_0, s_X11_moveAll_1, s_X11_moveAll_3, s_X11_moveAll_5, s_X11_moveAll_8, s_X11_moveAll_9, s_X11_moveAll_12, s_X11_moveAll_13, s_X11_moveAll_14, s_X11_moveAll_15, s_X11_moveAll_18, s_X11_moveAll_19, s_X11_moveAll_20, s_X11_moveAll_21, s_X11_moveAll_24, s_X11_moveAll_25, s_X11_moveAll_28, s_X11_moveAll_29, s_X11_moveAll_30, s_X11_moveAll_31, s_X11_moveAll_32, s_X11_moveAll_33, s_X11_moveAll_36, s_X11_moveAll_39, show (59 : Int32) ≤ nI 59 from by decide, if_true]
  | k + 1, j, g, f, hj, hm, h43, hf => by
    have hlt : j < 59 := by omega
    have ih := lp_keep hs hs2 (r := r) k (j + 1) (mx_up g s (cI 59 (upd f j (r j)))) (upd f j (r j)) (by omega) (by rw [up_o (Ne.symm hs)]; exact hm) (by rw [up_o (Ne.symm hs2)]; exact h43) up_at
    rw [up_up] at ih
    have e : (fun q => if j + 1 ≤ q ∧ q < 59 then r q else upd f j (r j) q) = (fun q => if j ≤ q ∧ q < 59 then r q else f q) := funext fun q => by
      by_cases h : q = j
      · subst h; rw [if_neg (by omega), if_pos (by omega), pk_us]
      · rw [pk_un h]
        by_cases h2 : j ≤ q ∧ q < 59
        · rw [if_pos (by omega), if_pos h2]
        · rw [if_neg (by omega), if_neg h2]
    rw [e] at ih
    rw [s_X11_moveAll_2]
    simp only [s_X11_moveAll_0, s_X11_moveAll_1, s_X11_moveAll_3, s_X11_moveAll_5, s_X11_moveAll_8, s_X11_moveAll_9, s_X11_moveAll_12, s_X11_moveAll_13, s_X11_moveAll_14, s_X11_moveAll_15, s_X11_moveAll_18, s_X11_moveAll_19, s_X11_moveAll_20, s_X11_moveAll_21, s_X11_moveAll_24, s_X11_moveAll_25, s_X11_moveAll_28, s_X11_moveAll_29, s_X11_moveAll_30, s_X11_moveAll_31, s_X11_moveAll_32, s_X11_moveAll_33, s_X11_moveAll_36, s_X11_moveAll_39, lt59 hlt, if_false, show ¬ (1 : Int32) = 0 from by decide, hm, gf_hit, List.getElem?_cons_zero, ob1_s, av_hit h43, hf, cI, ai_hit, in59 hlt, cl59 hlt, if_true, nI_1]
    exact ih
theorem lp_back (hs : s ≠ 42) (hs2 : s ≠ 43) {r : Nat → Int32} : ∀ (k j : Nat) (g : mx_G) (f : Nat → Int32), j + k = 59 → g.1 42 = some (.inr (11, .ref 43 :: fr)) → g.1 s = some (cI 59 r) → g.1 43 = some (cI 59 f) → den sc d MX11_moveAll 2 [some (.ref 42), some (.int 0), some (.ref s), some (.int (nI j))] [] g = some (none, mx_up g 43 (cI 59 (fun q => if j ≤ q ∧ q < 59 then r q else f q)))
  | 0, j, g, f, hj, hm, h43, hf => by
    obtain rfl : j = 59 := by omega
    have e : (fun q => if 59 ≤ q ∧ q < 59 then r q else f q) = f := funext fun q => if_neg (by omega)
    rw [e, up_self hf, s_X11_moveAll_2]
    simp only [s_X11_moveAll_0, s_X11_moveAll_1, s_X11_moveAll_3, s_X11_moveAll_5, s_X11_moveAll_8, s_X11_moveAll_9, s_X11_moveAll_12, s_X11_moveAll_13, s_X11_moveAll_14, s_X11_moveAll_15, s_X11_moveAll_18, s_X11_moveAll_19, s_X11_moveAll_20, s_X11_moveAll_21, s_X11_moveAll_24, s_X11_moveAll_25, s_X11_moveAll_28, s_X11_moveAll_29, s_X11_moveAll_30, s_X11_moveAll_31, s_X11_moveAll_32, s_X11_moveAll_33, s_X11_moveAll_36, s_X11_moveAll_39, show (59 : Int32) ≤ nI 59 from by decide, if_true]
  | k + 1, j, g, f, hj, hm, h43, hf => by
    have hlt : j < 59 := by omega
    have ih := lp_back hs hs2 (r := r) k (j + 1) (mx_up g 43 (cI 59 (upd f j (r j)))) (upd f j (r j)) (by omega) (by rw [up_o (by decide)]; exact hm) (by rw [up_o hs2]; exact h43) up_at
    rw [up_up] at ih
    have e : (fun q => if j + 1 ≤ q ∧ q < 59 then r q else upd f j (r j) q) = (fun q => if j ≤ q ∧ q < 59 then r q else f q) := funext fun q => by
      by_cases h : q = j
      · subst h; rw [if_neg (by omega), if_pos (by omega), pk_us]
      · rw [pk_un h]
        by_cases h2 : j ≤ q ∧ q < 59
        · rw [if_pos (by omega), if_pos h2]
        · rw [if_neg (by omega), if_neg h2]
    rw [e] at ih
    rw [s_X11_moveAll_2]
    simp only [s_X11_moveAll_0, s_X11_moveAll_1, s_X11_moveAll_3, s_X11_moveAll_5, s_X11_moveAll_8, s_X11_moveAll_9, s_X11_moveAll_12, s_X11_moveAll_13, s_X11_moveAll_14, s_X11_moveAll_15, s_X11_moveAll_18, s_X11_moveAll_19, s_X11_moveAll_20, s_X11_moveAll_21, s_X11_moveAll_24, s_X11_moveAll_25, s_X11_moveAll_28, s_X11_moveAll_29, s_X11_moveAll_30, s_X11_moveAll_31, s_X11_moveAll_32, s_X11_moveAll_33, s_X11_moveAll_36, s_X11_moveAll_39, lt59 hlt, if_false, if_true, hm, gf_hit, List.getElem?_cons_zero, ob1_s, av_hit h43, hf, cI, ai_hit, in59 hlt, cl59 hlt, nI_1]
    exact ih
theorem rowO_z {F : Fam} {q : Nat} (h : 59 ≤ q) : rowO F q = 0 := by
  unfold rowO
  rw [if_neg (by omega), if_neg (by omega), if_neg (by omega), if_neg (by omega), if_pos h]
theorem sp_keep (hm : g.1 42 = some (.inr (11, .ref 43 :: fr))) (hs : s ≠ 42) (hs2 : s ≠ 43) {f : Nat → Int32} (hf : g.1 s = some (cI 59 f)) (hz : ∀ q, 59 ≤ q → f q = 0) : call sc d MX11_moveAll [.ref 42, .int 1, .ref s] (RF g F) = some (none, RF (mx_up g s (cI 59 (rowO F))) F) := by
  simp only [c_X11_moveAll, s_X11_moveAll_0, s_X11_moveAll_1]
  have h := lp_keep (sc := sc) (d := d) (fr := fr) hs hs2 (r := rowO F) 59 0 (RF g F) f rfl (rF_42 hm) rF_43 (by rw [rF_o hs2]; exact hf)
  have e : (fun q => if 0 ≤ q ∧ q < 59 then rowO F q else f q) = rowO F := funext fun q => by
    by_cases h : q < 59
    · rw [if_pos ⟨Nat.zero_le _, h⟩]
    · rw [if_neg (by omega), hz q (by omega), rowO_z (by omega)]
  rw [e] at h
  rw [show mx_up (RF g F) s (cI 59 (rowO F)) = RF (mx_up g s (cI 59 (rowO F))) F from Prod.ext (funext fun j => by
    show va_up _ s _ j = if j = 43 then _ else va_up g.1 s _ j
    unfold va_up
    by_cases h1 : j = s
    · subst h1; rw [if_pos rfl, if_neg hs2, if_pos rfl]
    · rw [if_neg h1, if_neg h1]; rfl) rfl] at h
  exact h
theorem sp_back (hm : g.1 42 = some (.inr (11, .ref 43 :: fr))) (hs : s ≠ 42) (hs2 : s ≠ 43) {G : Fam} (hf : g.1 s = some (cI 59 (rowO G))) : call sc d MX11_moveAll [.ref 42, .int 0, .ref s] (RF g F) = some (none, RF g G) := by
  simp only [c_X11_moveAll, s_X11_moveAll_0, s_X11_moveAll_1]
  have h := lp_back (sc := sc) (d := d) (fr := fr) hs hs2 (r := rowO G) 59 0 (RF g F) (rowO F) rfl (rF_42 hm) (by rw [rF_o hs2]; exact hf) rF_43
  have e : (fun q => if 0 ≤ q ∧ q < 59 then rowO G q else rowO F q) = rowO G := funext fun q => by
    by_cases h : q < 59
    · rw [if_pos ⟨Nat.zero_le _, h⟩]
    · rw [if_neg (by omega), rowO_z (by omega), rowO_z (by omega)]
  rw [e, rF_up rfl] at h
  exact h
end
