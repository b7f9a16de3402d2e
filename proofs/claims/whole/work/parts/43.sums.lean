/-! SUMS OVER THE PEOPLE -/
def foL (st : Nat → Int32 → Int32) : Nat → Nat → Int32 → Int32
  | 0, _, v => v
  | k + 1, j, v => foL st k (j + 1) (st j v)
def foF (F : Fam) (st : Nat → Int32 → Int32) : Int32 := foL st (gn F).toNatClampNeg 0 0
/-- how many things a set has -/
def cX (x : Int32) : Int32 := nI (cN x.toNatClampNeg)
theorem cX_nI {m : Nat} (h : m < 65536) : cX (nI m) = nI (cN m) := by unfold cX; rw [nI_clamp (by omega)]
theorem sp_bitsX {sc : mx_X} {d : Nat} {g : mx_G} {x : Int32} (h : nlt 65536 x) : call sc d MX11_bits [.int x] g = some (some (.int (cX x)), g) := by
  obtain ⟨m, hm, rfl⟩ := h
  rw [cX_nI hm]
  exact sp_bits hm
theorem sp_bitCountX {sc : mx_X} {d : Nat} {g : mx_G} {x : Int32} (h : nlt 65536 x) : call sc d MJ6_bitCount_0f7a4 [.int x] g = some (some (.int (cX x)), g) := by
  obtain ⟨m, hm, rfl⟩ := h
  rw [cX_nI hm]
  exact sp_bitCount hm
def stOld (F : Fam) (j : Nat) (v : Int32) : Int32 := if 70 ≤ ga F j then v ||| (1 : Int32) <<< (nI j &&& 31) else v
def stVal (F : Fam) (j : Nat) (v : Int32) : Int32 := v + valF (gp F j) (gw F)
def stHad (F : Fam) (j : Nat) (v : Int32) : Int32 := v ||| gp F j
def stLost (F : Fam) (j : Nat) (v : Int32) : Int32 := v + gl F j
def stAge (F : Fam) (j : Nat) (v : Int32) : Int32 := v + ga F j
def stCnt (F : Fam) (j : Nat) (v : Int32) : Int32 := v + cX (gp F j)
def stWho (F : Fam) (t j : Nat) (v : Int32) : Int32 := if bt (gp F j) t = true then v ||| (1 : Int32) <<< (nI j &&& 31) else v
theorem or_z (v : Int32) : v ||| 0 = v := by
  apply b_ext; intro j hj; rw [b_or, b_0, Bool.or_false]
theorem n_ge {n j : Nat} (hn : n ≤ 8) (h : j < n) : ¬ nI n ≤ nI j := fun e => by
  have := (nI_leI (show n < 2 ^ 31 by omega) (show j < 2 ^ 31 by omega)).mp e
  omega
theorem i59_2 : mx_in 2 59 = true := by decide
theorem c2 : (2 : Int32).toNatClampNeg = 2 := by decide

section
variable {sc : mx_X} {d : Nat} {g : mx_G} {o n : Nat} {F : Fam}
theorem lp_theOldest (h : FI F) (hn : n ≤ 8) (hg : gn F = nI n) : ∀ (k j : Nat) (v : Int32), j + k = n → den sc d MX1_theOldest 4 [some (.ref o), some (.int v), some (.int (nI j))] [] (putF g o F) = some (some (.int (foL (stOld F) k j v)), putF g o F)
  | 0, j, v, hj => by
    obtain rfl : j = n := by omega
    rw [s_X1_theOldest_4]
    simp only [s_X1_theOldest_0, s_X1_theOldest_1, s_X1_theOldest_2, s_X1_theOldest_3, s_X1_theOldest_5, s_X1_theOldest_6, s_X1_theOldest_9, s_X1_theOldest_12, s_X1_theOldest_13, s_X1_theOldest_16, s_X1_theOldest_17, s_X1_theOldest_18, s_X1_theOldest_20, s_X1_theOldest_23, s_X1_theOldest_24, s_X1_theOldest_25, s_X1_theOldest_26, s_X1_theOldest_27, s_X1_theOldest_28, s_X1_theOldest_29, s_X1_theOldest_32, s_X1_theOldest_35, s_X1_theOldest_36, pF_0, cF, gf_hit, List.getElem?_cons_zero, List.getElem?_cons_succ, ob1_s, hg, Int32.le_refl, if_true, foL]
  | k + 1, j, v, hj => by
    have hj8 : j < 8 := by omega
    have ih := lp_theOldest h hn hg k (j + 1) (stOld F j v) (by omega)
    rw [s_X1_theOldest_4]
    simp only [s_X1_theOldest_0, s_X1_theOldest_1, s_X1_theOldest_2, s_X1_theOldest_3, s_X1_theOldest_5, s_X1_theOldest_6, s_X1_theOldest_9, s_X1_theOldest_12, s_X1_theOldest_13, s_X1_theOldest_16, s_X1_theOldest_17, s_X1_theOldest_18, s_X1_theOldest_20, s_X1_theOldest_23, s_X1_theOldest_24, s_X1_theOldest_25, s_X1_theOldest_26, s_X1_theOldest_27, s_X1_theOldest_28, s_X1_theOldest_29, s_X1_theOldest_32, s_X1_theOldest_35, s_X1_theOldest_36, pF_0, cF, gf_hit, List.getElem?_cons_zero, List.getElem?_cons_succ, ob1_s, hg, n_ge hn (show j < n by omega), av_a, av_p, av_l, cI, in8 hj8, cl8 hj8, nI_1, foL, ck0, ck1, ck2, ck3, ck4, Option.toList_some, Option.toList_none, List.cons_append, List.nil_append, gf_hit, pf_hit, ai_hit, al_hit, ar_hit, ob_hit, if_true, if_false, reduceIte, reduceCtorEq]
    by_cases h7 : 70 ≤ ga F j
    · rw [if_neg (Int32.not_lt.mpr h7)]
      rw [show stOld F j v = v ||| (1 : Int32) <<< (nI j &&& 31) from if_pos h7] at ih ⊢
      exact ih
    · rw [if_pos (Int32.not_le.mp h7)]
      rw [show stOld F j v = v from if_neg h7] at ih ⊢
      exact ih
theorem sp_theOldest (h : FI F) : call sc d MX1_theOldest [.ref o] (putF g o F) = some (some (.int (foF F (stOld F))), putF g o F) := by
  obtain ⟨n, hn, hg⟩ := h.n
  simp only [c_X1_theOldest, s_X1_theOldest_0, s_X1_theOldest_1, s_X1_theOldest_2, s_X1_theOldest_3]
  unfold foF
  rw [hg, nI_clamp (by omega)]
  exact lp_theOldest h (show n ≤ 8 by omega) hg n 0 0 (by omega)
theorem lp_worthOfAllPockets (h : FI F) (hn : n ≤ 8) (hg : gn F = nI n) : ∀ (k j : Nat) (v : Int32), j + k = n → den sc (d + 3) MX1_worthOfAllPockets 4 [some (.ref o), some (.int v), some (.int (nI j))] [] (putF g o F) = some (some (.int (foL (stVal F) k j v)), putF g o F)
  | 0, j, v, hj => by
    obtain rfl : j = n := by omega
    rw [s_X1_worthOfAllPockets_4]
    simp only [s_X1_worthOfAllPockets_0, s_X1_worthOfAllPockets_1, s_X1_worthOfAllPockets_2, s_X1_worthOfAllPockets_3, s_X1_worthOfAllPockets_5, s_X1_worthOfAllPockets_6, s_X1_worthOfAllPockets_9, s_X1_worthOfAllPockets_12, s_X1_worthOfAllPockets_13, s_X1_worthOfAllPockets_14, s_X1_worthOfAllPockets_15, s_X1_worthOfAllPockets_18, s_X1_worthOfAllPockets_19, s_X1_worthOfAllPockets_20, s_X1_worthOfAllPockets_23, s_X1_worthOfAllPockets_26, s_X1_worthOfAllPockets_27, pF_0, cF, gf_hit, List.getElem?_cons_zero, List.getElem?_cons_succ, ob1_s, hg, Int32.le_refl, if_true, foL]
  | k + 1, j, v, hj => by
    have hj8 : j < 8 := by omega
    have ih := lp_worthOfAllPockets h hn hg k (j + 1) (stVal F j v) (by omega)
    rw [s_X1_worthOfAllPockets_4]
    simp only [s_X1_worthOfAllPockets_0, s_X1_worthOfAllPockets_1, s_X1_worthOfAllPockets_2, s_X1_worthOfAllPockets_3, s_X1_worthOfAllPockets_5, s_X1_worthOfAllPockets_6, s_X1_worthOfAllPockets_9, s_X1_worthOfAllPockets_12, s_X1_worthOfAllPockets_13, s_X1_worthOfAllPockets_14, s_X1_worthOfAllPockets_15, s_X1_worthOfAllPockets_18, s_X1_worthOfAllPockets_19, s_X1_worthOfAllPockets_20, s_X1_worthOfAllPockets_23, s_X1_worthOfAllPockets_26, s_X1_worthOfAllPockets_27, pF_0, cF, gf_hit, List.getElem?_cons_zero, List.getElem?_cons_succ, ob1_s, hg, n_ge hn (show j < n by omega), rcF, sp_pocketWorth hj8, av_a, av_p, av_l, cI, in8 hj8, cl8 hj8, nI_1, foL, ck0, ck1, ck2, ck3, ck4, Option.toList_some, Option.toList_none, List.cons_append, List.nil_append, gf_hit, pf_hit, ai_hit, al_hit, ar_hit, ob_hit, if_true, if_false, reduceIte, reduceCtorEq]
    exact ih
theorem sp_worthOfAllPockets (h : FI F) : call sc (d + 3) MX1_worthOfAllPockets [.ref o] (putF g o F) = some (some (.int (foF F (stVal F))), putF g o F) := by
  obtain ⟨n, hn, hg⟩ := h.n
  simp only [c_X1_worthOfAllPockets, s_X1_worthOfAllPockets_0, s_X1_worthOfAllPockets_1, s_X1_worthOfAllPockets_2, s_X1_worthOfAllPockets_3]
  unfold foF
  rw [hg, nI_clamp (by omega)]
  exact lp_worthOfAllPockets h (show n ≤ 8 by omega) hg n 0 0 (by omega)
theorem lp_ownedThings (h : FI F) (hn : n ≤ 8) (hg : gn F = nI n) : ∀ (k j : Nat) (v : Int32), j + k = n → den sc d MX1_ownedThings 4 [some (.ref o), some (.int v), some (.int (nI j))] [] (putF g o F) = some (some (.int (foL (stHad F) k j v)), putF g o F)
  | 0, j, v, hj => by
    obtain rfl : j = n := by omega
    rw [s_X1_ownedThings_4]
    simp only [s_X1_ownedThings_0, s_X1_ownedThings_1, s_X1_ownedThings_2, s_X1_ownedThings_3, s_X1_ownedThings_5, s_X1_ownedThings_6, s_X1_ownedThings_9, s_X1_ownedThings_12, s_X1_ownedThings_13, s_X1_ownedThings_14, s_X1_ownedThings_17, s_X1_ownedThings_18, s_X1_ownedThings_19, s_X1_ownedThings_20, s_X1_ownedThings_21, s_X1_ownedThings_24, s_X1_ownedThings_27, s_X1_ownedThings_28, pF_0, cF, gf_hit, List.getElem?_cons_zero, List.getElem?_cons_succ, ob1_s, hg, Int32.le_refl, if_true, foL]
  | k + 1, j, v, hj => by
    have hj8 : j < 8 := by omega
    have ih := lp_ownedThings h hn hg k (j + 1) (stHad F j v) (by omega)
    rw [s_X1_ownedThings_4]
    simp only [s_X1_ownedThings_0, s_X1_ownedThings_1, s_X1_ownedThings_2, s_X1_ownedThings_3, s_X1_ownedThings_5, s_X1_ownedThings_6, s_X1_ownedThings_9, s_X1_ownedThings_12, s_X1_ownedThings_13, s_X1_ownedThings_14, s_X1_ownedThings_17, s_X1_ownedThings_18, s_X1_ownedThings_19, s_X1_ownedThings_20, s_X1_ownedThings_21, s_X1_ownedThings_24, s_X1_ownedThings_27, s_X1_ownedThings_28, pF_0, cF, gf_hit, List.getElem?_cons_zero, List.getElem?_cons_succ, ob1_s, hg, n_ge hn (show j < n by omega), av_a, av_p, av_l, cI, in8 hj8, cl8 hj8, nI_1, foL, ck0, ck1, ck2, ck3, ck4, Option.toList_some, Option.toList_none, List.cons_append, List.nil_append, gf_hit, pf_hit, ai_hit, al_hit, ar_hit, ob_hit, if_true, if_false, reduceIte, reduceCtorEq]
    exact ih
theorem sp_ownedThings (h : FI F) : call sc d MX1_ownedThings [.ref o] (putF g o F) = some (some (.int (foF F (stHad F))), putF g o F) := by
  obtain ⟨n, hn, hg⟩ := h.n
  simp only [c_X1_ownedThings, s_X1_ownedThings_0, s_X1_ownedThings_1, s_X1_ownedThings_2, s_X1_ownedThings_3]
  unfold foF
  rw [hg, nI_clamp (by omega)]
  exact lp_ownedThings h (show n ≤ 8 by omega) hg n 0 0 (by omega)
theorem lp_lostByAll (h : FI F) (hn : n ≤ 8) (hg : gn F = nI n) : ∀ (k j : Nat) (v : Int32), j + k = n → den sc d MX1_lostByAll 4 [some (.ref o), some (.int v), some (.int (nI j))] [] (putF g o F) = some (some (.int (foL (stLost F) k j v)), putF g o F)
  | 0, j, v, hj => by
    obtain rfl : j = n := by omega
    rw [s_X1_lostByAll_4]
    simp only [s_X1_lostByAll_0, s_X1_lostByAll_1, s_X1_lostByAll_2, s_X1_lostByAll_3, s_X1_lostByAll_5, s_X1_lostByAll_6, s_X1_lostByAll_9, s_X1_lostByAll_12, s_X1_lostByAll_13, s_X1_lostByAll_14, s_X1_lostByAll_17, s_X1_lostByAll_18, s_X1_lostByAll_19, s_X1_lostByAll_20, s_X1_lostByAll_21, s_X1_lostByAll_24, s_X1_lostByAll_27, s_X1_lostByAll_28, pF_0, cF, gf_hit, List.getElem?_cons_zero, List.getElem?_cons_succ, ob1_s, hg, Int32.le_refl, if_true, foL]
  | k + 1, j, v, hj => by
    have hj8 : j < 8 := by omega
    have ih := lp_lostByAll h hn hg k (j + 1) (stLost F j v) (by omega)
    rw [s_X1_lostByAll_4]
    simp only [s_X1_lostByAll_0, s_X1_lostByAll_1, s_X1_lostByAll_2, s_X1_lostByAll_3, s_X1_lostByAll_5, s_X1_lostByAll_6, s_X1_lostByAll_9, s_X1_lostByAll_12, s_X1_lostByAll_13, s_X1_lostByAll_14, s_X1_lostByAll_17, s_X1_lostByAll_18, s_X1_lostByAll_19, s_X1_lostByAll_20, s_X1_lostByAll_21, s_X1_lostByAll_24, s_X1_lostByAll_27, s_X1_lostByAll_28, pF_0, cF, gf_hit, List.getElem?_cons_zero, List.getElem?_cons_succ, ob1_s, hg, n_ge hn (show j < n by omega), av_a, av_p, av_l, cI, in8 hj8, cl8 hj8, nI_1, foL, ck0, ck1, ck2, ck3, ck4, Option.toList_some, Option.toList_none, List.cons_append, List.nil_append, gf_hit, pf_hit, ai_hit, al_hit, ar_hit, ob_hit, if_true, if_false, reduceIte, reduceCtorEq]
    exact ih
theorem sp_lostByAll (h : FI F) : call sc d MX1_lostByAll [.ref o] (putF g o F) = some (some (.int (foF F (stLost F))), putF g o F) := by
  obtain ⟨n, hn, hg⟩ := h.n
  simp only [c_X1_lostByAll, s_X1_lostByAll_0, s_X1_lostByAll_1, s_X1_lostByAll_2, s_X1_lostByAll_3]
  unfold foF
  rw [hg, nI_clamp (by omega)]
  exact lp_lostByAll h (show n ≤ 8 by omega) hg n 0 0 (by omega)
theorem lp_agesOfAll (h : FI F) (hn : n ≤ 8) (hg : gn F = nI n) : ∀ (k j : Nat) (v : Int32), j + k = n → den sc d MX1_agesOfAll 4 [some (.ref o), some (.int v), some (.int (nI j))] [] (putF g o F) = some (some (.int (foL (stAge F) k j v)), putF g o F)
  | 0, j, v, hj => by
    obtain rfl : j = n := by omega
    rw [s_X1_agesOfAll_4]
    simp only [s_X1_agesOfAll_0, s_X1_agesOfAll_1, s_X1_agesOfAll_2, s_X1_agesOfAll_3, s_X1_agesOfAll_5, s_X1_agesOfAll_6, s_X1_agesOfAll_9, s_X1_agesOfAll_12, s_X1_agesOfAll_13, s_X1_agesOfAll_14, s_X1_agesOfAll_17, s_X1_agesOfAll_18, s_X1_agesOfAll_19, s_X1_agesOfAll_20, s_X1_agesOfAll_21, s_X1_agesOfAll_24, s_X1_agesOfAll_27, s_X1_agesOfAll_28, pF_0, cF, gf_hit, List.getElem?_cons_zero, List.getElem?_cons_succ, ob1_s, hg, Int32.le_refl, if_true, foL]
  | k + 1, j, v, hj => by
    have hj8 : j < 8 := by omega
    have ih := lp_agesOfAll h hn hg k (j + 1) (stAge F j v) (by omega)
    rw [s_X1_agesOfAll_4]
    simp only [s_X1_agesOfAll_0, s_X1_agesOfAll_1, s_X1_agesOfAll_2, s_X1_agesOfAll_3, s_X1_agesOfAll_5, s_X1_agesOfAll_6, s_X1_agesOfAll_9, s_X1_agesOfAll_12, s_X1_agesOfAll_13, s_X1_agesOfAll_14, s_X1_agesOfAll_17, s_X1_agesOfAll_18, s_X1_agesOfAll_19, s_X1_agesOfAll_20, s_X1_agesOfAll_21, s_X1_agesOfAll_24, s_X1_agesOfAll_27, s_X1_agesOfAll_28, pF_0, cF, gf_hit, List.getElem?_cons_zero, List.getElem?_cons_succ, ob1_s, hg, n_ge hn (show j < n by omega), av_a, av_p, av_l, cI, in8 hj8, cl8 hj8, nI_1, foL, ck0, ck1, ck2, ck3, ck4, Option.toList_some, Option.toList_none, List.cons_append, List.nil_append, gf_hit, pf_hit, ai_hit, al_hit, ar_hit, ob_hit, if_true, if_false, reduceIte, reduceCtorEq]
    exact ih
theorem sp_agesOfAll (h : FI F) : call sc d MX1_agesOfAll [.ref o] (putF g o F) = some (some (.int (foF F (stAge F))), putF g o F) := by
  obtain ⟨n, hn, hg⟩ := h.n
  simp only [c_X1_agesOfAll, s_X1_agesOfAll_0, s_X1_agesOfAll_1, s_X1_agesOfAll_2, s_X1_agesOfAll_3]
  unfold foF
  rw [hg, nI_clamp (by omega)]
  exact lp_agesOfAll h (show n ≤ 8 by omega) hg n 0 0 (by omega)
theorem lp_thingsInPockets (h : FI F) (hn : n ≤ 8) (hg : gn F = nI n) : ∀ (k j : Nat) (v : Int32), j + k = n → den sc (d + 1) MX1_thingsInPockets 4 [some (.ref o), some (.int v), some (.int (nI j))] [] (putF g o F) = some (some (.int (foL (stCnt F) k j v)), putF g o F)
  | 0, j, v, hj => by
    obtain rfl : j = n := by omega
    rw [s_X1_thingsInPockets_4]
    simp only [s_X1_thingsInPockets_0, s_X1_thingsInPockets_1, s_X1_thingsInPockets_2, s_X1_thingsInPockets_3, s_X1_thingsInPockets_5, s_X1_thingsInPockets_6, s_X1_thingsInPockets_9, s_X1_thingsInPockets_12, s_X1_thingsInPockets_13, s_X1_thingsInPockets_14, s_X1_thingsInPockets_17, s_X1_thingsInPockets_18, s_X1_thingsInPockets_19, s_X1_thingsInPockets_22, s_X1_thingsInPockets_23, s_X1_thingsInPockets_24, s_X1_thingsInPockets_27, s_X1_thingsInPockets_30, s_X1_thingsInPockets_31, pF_0, cF, gf_hit, List.getElem?_cons_zero, List.getElem?_cons_succ, ob1_s, hg, Int32.le_refl, if_true, foL]
  | k + 1, j, v, hj => by
    have hj8 : j < 8 := by omega
    have ih := lp_thingsInPockets h hn hg k (j + 1) (stCnt F j v) (by omega)
    rw [s_X1_thingsInPockets_4]
    simp only [s_X1_thingsInPockets_0, s_X1_thingsInPockets_1, s_X1_thingsInPockets_2, s_X1_thingsInPockets_3, s_X1_thingsInPockets_5, s_X1_thingsInPockets_6, s_X1_thingsInPockets_9, s_X1_thingsInPockets_12, s_X1_thingsInPockets_13, s_X1_thingsInPockets_14, s_X1_thingsInPockets_17, s_X1_thingsInPockets_18, s_X1_thingsInPockets_19, s_X1_thingsInPockets_22, s_X1_thingsInPockets_23, s_X1_thingsInPockets_24, s_X1_thingsInPockets_27, s_X1_thingsInPockets_30, s_X1_thingsInPockets_31, pF_0, cF, gf_hit, List.getElem?_cons_zero, List.getElem?_cons_succ, ob1_s, hg, n_ge hn (show j < n by omega), sp_bitCountX (h.p.1 j hj8), av_a, av_p, av_l, cI, in8 hj8, cl8 hj8, nI_1, foL, ck0, ck1, ck2, ck3, ck4, Option.toList_some, Option.toList_none, List.cons_append, List.nil_append, gf_hit, pf_hit, ai_hit, al_hit, ar_hit, ob_hit, if_true, if_false, reduceIte, reduceCtorEq]
    exact ih
theorem sp_thingsInPockets (h : FI F) : call sc (d + 1) MX1_thingsInPockets [.ref o] (putF g o F) = some (some (.int (foF F (stCnt F))), putF g o F) := by
  obtain ⟨n, hn, hg⟩ := h.n
  simp only [c_X1_thingsInPockets, s_X1_thingsInPockets_0, s_X1_thingsInPockets_1, s_X1_thingsInPockets_2, s_X1_thingsInPockets_3]
  unfold foF
  rw [hg, nI_clamp (by omega)]
  exact lp_thingsInPockets h (show n ≤ 8 by omega) hg n 0 0 (by omega)
end
section
variable {sc : mx_X} {d : Nat} {g : mx_G} {n : Nat} {F : Fam} {fr : List Value}
theorem lp_moldest (hm : g.1 42 = some (.inr (11, .ref 43 :: fr))) (h : FI F) (hn : n ≤ 8) (hg : gn F = nI n) : ∀ (k j : Nat) (v : Int32), j + k = n → den sc (d + 1) MX11_oldest 4 [some (.ref 42), some (.int v), some (.int (nI j))] [] (RF g F) = some (some (.int (foL (stOld F) k j v)), RF g F)
  | 0, j, v, hj => by
    obtain rfl : j = n := by omega
    rw [s_X11_oldest_4]
    simp only [s_X11_oldest_0, s_X11_oldest_1, s_X11_oldest_2, s_X11_oldest_3, s_X11_oldest_5, s_X11_oldest_6, s_X11_oldest_9, s_X11_oldest_10, s_X11_oldest_11, s_X11_oldest_14, s_X11_oldest_15, s_X11_oldest_16, s_X11_oldest_17, s_X11_oldest_18, s_X11_oldest_21, s_X11_oldest_23, s_X11_oldest_26, s_X11_oldest_27, s_X11_oldest_28, s_X11_oldest_29, s_X11_oldest_32, s_X11_oldest_33, s_X11_oldest_34, s_X11_oldest_35, s_X11_oldest_38, s_X11_oldest_41, s_X11_oldest_42, rF_42 hm, gf_hit, List.getElem?_cons_zero, ob1_s, av_hit rF_43, cI, ai_hit, i59_2, c2, ro_n, hg, Int32.le_refl, if_true, foL]
  | k + 1, j, v, hj => by
    have hj8 : j < 8 := by omega
    have ih := lp_moldest hm h hn hg k (j + 1) (stOld F j v) (by omega)
    rw [s_X11_oldest_4]
    simp only [s_X11_oldest_0, s_X11_oldest_1, s_X11_oldest_2, s_X11_oldest_3, s_X11_oldest_5, s_X11_oldest_6, s_X11_oldest_9, s_X11_oldest_10, s_X11_oldest_11, s_X11_oldest_14, s_X11_oldest_15, s_X11_oldest_16, s_X11_oldest_17, s_X11_oldest_18, s_X11_oldest_21, s_X11_oldest_23, s_X11_oldest_26, s_X11_oldest_27, s_X11_oldest_28, s_X11_oldest_29, s_X11_oldest_32, s_X11_oldest_33, s_X11_oldest_34, s_X11_oldest_35, s_X11_oldest_38, s_X11_oldest_41, s_X11_oldest_42, rF_42 hm, List.getElem?_cons_zero, ob1_s, av_hit rF_43, cI, i59_2, c2, ro_n, hg, n_ge hn (show j < n by omega), mrc hm, sp_its1 hm hj8, nI_1, foL, ck0, ck1, ck2, ck3, ck4, Option.toList_some, Option.toList_none, List.cons_append, List.nil_append, gf_hit, pf_hit, ai_hit, al_hit, ar_hit, ob_hit, if_true, if_false, reduceIte, reduceCtorEq]
    by_cases h7 : ga F j = 70
    · have h7' : 70 ≤ ga F j := by rw [h7]; decide
      rw [show stOld F j v = v ||| (1 : Int32) <<< (nI j &&& 31) from if_pos h7'] at ih ⊢
      simp only [h7, if_true, if_false, not_true, ne_eq, reduceIte]
      exact ih
    · have h7' : ¬ 70 ≤ ga F j := by
        obtain ⟨a, ha, ea⟩ := h.a.1 j hj8
        intro e
        rw [ea] at e h7
        have := (nI_leI (a := 70) (by decide) (show a < 2 ^ 31 by omega)).mp e
        exact h7 (by rw [show a = 70 by omega]; rfl)
      rw [show stOld F j v = v from if_neg h7'] at ih ⊢
      simp only [h7, if_true, if_false, or_z, reduceIte]
      exact ih
theorem sp_moldest (hm : g.1 42 = some (.inr (11, .ref 43 :: fr))) (h : FI F) : call sc (d + 1) MX11_oldest [.ref 42] (RF g F) = some (some (.int (foF F (stOld F))), RF g F) := by
  obtain ⟨n, hn, hg⟩ := h.n
  simp only [c_X11_oldest, s_X11_oldest_0, s_X11_oldest_1, s_X11_oldest_2, s_X11_oldest_3]
  unfold foF
  rw [hg, nI_clamp (by omega)]
  exact lp_moldest hm h (show n ≤ 8 by omega) hg n 0 0 (by omega)
theorem lp_mvalueOfAll (hm : g.1 42 = some (.inr (11, .ref 43 :: fr))) (h : FI F) (hn : n ≤ 8) (hg : gn F = nI n) : ∀ (k j : Nat) (v : Int32), j + k = n → den sc (d + 1) MX11_valueOfAll 4 [some (.ref 42), some (.int v), some (.int (nI j))] [] (RF g F) = some (some (.int (foL (stVal F) k j v)), RF g F)
  | 0, j, v, hj => by
    obtain rfl : j = n := by omega
    rw [s_X11_valueOfAll_4]
    simp only [s_X11_valueOfAll_0, s_X11_valueOfAll_1, s_X11_valueOfAll_2, s_X11_valueOfAll_3, s_X11_valueOfAll_5, s_X11_valueOfAll_6, s_X11_valueOfAll_9, s_X11_valueOfAll_10, s_X11_valueOfAll_11, s_X11_valueOfAll_14, s_X11_valueOfAll_15, s_X11_valueOfAll_16, s_X11_valueOfAll_17, s_X11_valueOfAll_18, s_X11_valueOfAll_19, s_X11_valueOfAll_22, s_X11_valueOfAll_25, s_X11_valueOfAll_26, s_X11_valueOfAll_27, s_X11_valueOfAll_30, s_X11_valueOfAll_33, s_X11_valueOfAll_34, rF_42 hm, gf_hit, List.getElem?_cons_zero, ob1_s, av_hit rF_43, cI, ai_hit, i59_2, c2, ro_n, hg, Int32.le_refl, if_true, foL]
  | k + 1, j, v, hj => by
    have hj8 : j < 8 := by omega
    have ih := lp_mvalueOfAll hm h hn hg k (j + 1) (stVal F j v) (by omega)
    rw [s_X11_valueOfAll_4]
    simp only [s_X11_valueOfAll_0, s_X11_valueOfAll_1, s_X11_valueOfAll_2, s_X11_valueOfAll_3, s_X11_valueOfAll_5, s_X11_valueOfAll_6, s_X11_valueOfAll_9, s_X11_valueOfAll_10, s_X11_valueOfAll_11, s_X11_valueOfAll_14, s_X11_valueOfAll_15, s_X11_valueOfAll_16, s_X11_valueOfAll_17, s_X11_valueOfAll_18, s_X11_valueOfAll_19, s_X11_valueOfAll_22, s_X11_valueOfAll_25, s_X11_valueOfAll_26, s_X11_valueOfAll_27, s_X11_valueOfAll_30, s_X11_valueOfAll_33, s_X11_valueOfAll_34, rF_42 hm, List.getElem?_cons_zero, ob1_s, av_hit rF_43, cI, i59_2, c2, ro_n, hg, n_ge hn (show j < n by omega), mrc hm, sp_its2 hm hj8, sp_valueOf hm, nI_1, foL, ck0, ck1, ck2, ck3, ck4, Option.toList_some, Option.toList_none, List.cons_append, List.nil_append, gf_hit, pf_hit, ai_hit, al_hit, ar_hit, ob_hit, if_true, if_false, reduceIte, reduceCtorEq]
    exact ih
theorem sp_mvalueOfAll (hm : g.1 42 = some (.inr (11, .ref 43 :: fr))) (h : FI F) : call sc (d + 1) MX11_valueOfAll [.ref 42] (RF g F) = some (some (.int (foF F (stVal F))), RF g F) := by
  obtain ⟨n, hn, hg⟩ := h.n
  simp only [c_X11_valueOfAll, s_X11_valueOfAll_0, s_X11_valueOfAll_1, s_X11_valueOfAll_2, s_X11_valueOfAll_3]
  unfold foF
  rw [hg, nI_clamp (by omega)]
  exact lp_mvalueOfAll hm h (show n ≤ 8 by omega) hg n 0 0 (by omega)
theorem lp_mhadByAny (hm : g.1 42 = some (.inr (11, .ref 43 :: fr))) (h : FI F) (hn : n ≤ 8) (hg : gn F = nI n) : ∀ (k j : Nat) (v : Int32), j + k = n → den sc (d + 1) MX11_hadByAny 4 [some (.ref 42), some (.int v), some (.int (nI j))] [] (RF g F) = some (some (.int (foL (stHad F) k j v)), RF g F)
  | 0, j, v, hj => by
    obtain rfl : j = n := by omega
    rw [s_X11_hadByAny_4]
    simp only [s_X11_hadByAny_0, s_X11_hadByAny_1, s_X11_hadByAny_2, s_X11_hadByAny_3, s_X11_hadByAny_5, s_X11_hadByAny_6, s_X11_hadByAny_9, s_X11_hadByAny_10, s_X11_hadByAny_11, s_X11_hadByAny_14, s_X11_hadByAny_15, s_X11_hadByAny_16, s_X11_hadByAny_17, s_X11_hadByAny_18, s_X11_hadByAny_21, s_X11_hadByAny_22, s_X11_hadByAny_23, s_X11_hadByAny_26, s_X11_hadByAny_29, s_X11_hadByAny_30, rF_42 hm, gf_hit, List.getElem?_cons_zero, ob1_s, av_hit rF_43, cI, ai_hit, i59_2, c2, ro_n, hg, Int32.le_refl, if_true, foL]
  | k + 1, j, v, hj => by
    have hj8 : j < 8 := by omega
    have ih := lp_mhadByAny hm h hn hg k (j + 1) (stHad F j v) (by omega)
    rw [s_X11_hadByAny_4]
    simp only [s_X11_hadByAny_0, s_X11_hadByAny_1, s_X11_hadByAny_2, s_X11_hadByAny_3, s_X11_hadByAny_5, s_X11_hadByAny_6, s_X11_hadByAny_9, s_X11_hadByAny_10, s_X11_hadByAny_11, s_X11_hadByAny_14, s_X11_hadByAny_15, s_X11_hadByAny_16, s_X11_hadByAny_17, s_X11_hadByAny_18, s_X11_hadByAny_21, s_X11_hadByAny_22, s_X11_hadByAny_23, s_X11_hadByAny_26, s_X11_hadByAny_29, s_X11_hadByAny_30, rF_42 hm, List.getElem?_cons_zero, ob1_s, av_hit rF_43, cI, i59_2, c2, ro_n, hg, n_ge hn (show j < n by omega), mrc hm, sp_its2 hm hj8, nI_1, foL, ck0, ck1, ck2, ck3, ck4, Option.toList_some, Option.toList_none, List.cons_append, List.nil_append, gf_hit, pf_hit, ai_hit, al_hit, ar_hit, ob_hit, if_true, if_false, reduceIte, reduceCtorEq]
    exact ih
theorem sp_mhadByAny (hm : g.1 42 = some (.inr (11, .ref 43 :: fr))) (h : FI F) : call sc (d + 1) MX11_hadByAny [.ref 42] (RF g F) = some (some (.int (foF F (stHad F))), RF g F) := by
  obtain ⟨n, hn, hg⟩ := h.n
  simp only [c_X11_hadByAny, s_X11_hadByAny_0, s_X11_hadByAny_1, s_X11_hadByAny_2, s_X11_hadByAny_3]
  unfold foF
  rw [hg, nI_clamp (by omega)]
  exact lp_mhadByAny hm h (show n ≤ 8 by omega) hg n 0 0 (by omega)
theorem lp_mthingsOf (hm : g.1 42 = some (.inr (11, .ref 43 :: fr))) (h : FI F) (hn : n ≤ 8) (hg : gn F = nI n) : ∀ (k j : Nat) (v : Int32), j + k = n → den sc (d + 1) MX11_thingsOf 4 [some (.ref 42), some (.int v), some (.int (nI j))] [] (RF g F) = some (some (.int (foL (stCnt F) k j v)), RF g F)
  | 0, j, v, hj => by
    obtain rfl : j = n := by omega
    rw [s_X11_thingsOf_4]
    simp only [s_X11_thingsOf_0, s_X11_thingsOf_1, s_X11_thingsOf_2, s_X11_thingsOf_3, s_X11_thingsOf_5, s_X11_thingsOf_6, s_X11_thingsOf_9, s_X11_thingsOf_10, s_X11_thingsOf_11, s_X11_thingsOf_14, s_X11_thingsOf_15, s_X11_thingsOf_16, s_X11_thingsOf_17, s_X11_thingsOf_18, s_X11_thingsOf_21, s_X11_thingsOf_24, s_X11_thingsOf_25, s_X11_thingsOf_26, s_X11_thingsOf_29, s_X11_thingsOf_32, s_X11_thingsOf_33, rF_42 hm, gf_hit, List.getElem?_cons_zero, ob1_s, av_hit rF_43, cI, ai_hit, i59_2, c2, ro_n, hg, Int32.le_refl, if_true, foL]
  | k + 1, j, v, hj => by
    have hj8 : j < 8 := by omega
    have ih := lp_mthingsOf hm h hn hg k (j + 1) (stCnt F j v) (by omega)
    rw [s_X11_thingsOf_4]
    simp only [s_X11_thingsOf_0, s_X11_thingsOf_1, s_X11_thingsOf_2, s_X11_thingsOf_3, s_X11_thingsOf_5, s_X11_thingsOf_6, s_X11_thingsOf_9, s_X11_thingsOf_10, s_X11_thingsOf_11, s_X11_thingsOf_14, s_X11_thingsOf_15, s_X11_thingsOf_16, s_X11_thingsOf_17, s_X11_thingsOf_18, s_X11_thingsOf_21, s_X11_thingsOf_24, s_X11_thingsOf_25, s_X11_thingsOf_26, s_X11_thingsOf_29, s_X11_thingsOf_32, s_X11_thingsOf_33, rF_42 hm, List.getElem?_cons_zero, ob1_s, av_hit rF_43, cI, i59_2, c2, ro_n, hg, n_ge hn (show j < n by omega), mrc hm, sp_its2 hm hj8, sp_bitsX (h.p.1 j hj8), nI_1, foL, ck0, ck1, ck2, ck3, ck4, Option.toList_some, Option.toList_none, List.cons_append, List.nil_append, gf_hit, pf_hit, ai_hit, al_hit, ar_hit, ob_hit, if_true, if_false, reduceIte, reduceCtorEq]
    exact ih
theorem sp_mthingsOf (hm : g.1 42 = some (.inr (11, .ref 43 :: fr))) (h : FI F) : call sc (d + 1) MX11_thingsOf [.ref 42] (RF g F) = some (some (.int (foF F (stCnt F))), RF g F) := by
  obtain ⟨n, hn, hg⟩ := h.n
  simp only [c_X11_thingsOf, s_X11_thingsOf_0, s_X11_thingsOf_1, s_X11_thingsOf_2, s_X11_thingsOf_3]
  unfold foF
  rw [hg, nI_clamp (by omega)]
  exact lp_mthingsOf hm h (show n ≤ 8 by omega) hg n 0 0 (by omega)
theorem lp_sumOf4 (hm : g.1 42 = some (.inr (11, .ref 43 :: fr))) (hn : n ≤ 8) (hg : gn F = nI n) : ∀ (k j : Nat) (v : Int32), j + k = n → den sc (d + 1) MX11_sumOf 4 [some (.ref 42), some (.int 4), some (.int v), some (.int (nI j))] [] (RF g F) = some (some (.int (foL (stLost F) k j v)), RF g F)
  | 0, j, v, hj => by
    obtain rfl : j = n := by omega
    rw [s_X11_sumOf_4]
    simp only [s_X11_sumOf_0, s_X11_sumOf_1, s_X11_sumOf_2, s_X11_sumOf_3, s_X11_sumOf_5, s_X11_sumOf_6, s_X11_sumOf_9, s_X11_sumOf_10, s_X11_sumOf_11, s_X11_sumOf_14, s_X11_sumOf_15, s_X11_sumOf_16, s_X11_sumOf_17, s_X11_sumOf_18, s_X11_sumOf_21, s_X11_sumOf_22, s_X11_sumOf_23, s_X11_sumOf_26, s_X11_sumOf_29, s_X11_sumOf_30, rF_42 hm, gf_hit, List.getElem?_cons_zero, ob1_s, av_hit rF_43, cI, ai_hit, i59_2, c2, ro_n, hg, Int32.le_refl, if_true, foL]
  | k + 1, j, v, hj => by
    have hj8 : j < 8 := by omega
    have ih := lp_sumOf4 hm hn hg k (j + 1) (stLost F j v) (by omega)
    rw [s_X11_sumOf_4]
    simp only [s_X11_sumOf_0, s_X11_sumOf_1, s_X11_sumOf_2, s_X11_sumOf_3, s_X11_sumOf_5, s_X11_sumOf_6, s_X11_sumOf_9, s_X11_sumOf_10, s_X11_sumOf_11, s_X11_sumOf_14, s_X11_sumOf_15, s_X11_sumOf_16, s_X11_sumOf_17, s_X11_sumOf_18, s_X11_sumOf_21, s_X11_sumOf_22, s_X11_sumOf_23, s_X11_sumOf_26, s_X11_sumOf_29, s_X11_sumOf_30, rF_42 hm, List.getElem?_cons_zero, ob1_s, av_hit rF_43, cI, i59_2, c2, ro_n, hg, n_ge hn (show j < n by omega), mrc hm, sp_its4 hm hj8, nI_1, foL, ck0, ck1, ck2, ck3, ck4, Option.toList_some, Option.toList_none, List.cons_append, List.nil_append, gf_hit, pf_hit, ai_hit, al_hit, ar_hit, ob_hit, if_true, if_false, reduceIte, reduceCtorEq]
    exact ih
theorem sp_sumOf4 (hm : g.1 42 = some (.inr (11, .ref 43 :: fr))) (h : FI F) : call sc (d + 1) MX11_sumOf [.ref 42, .int 4] (RF g F) = some (some (.int (foF F (stLost F))), RF g F) := by
  obtain ⟨n, hn, hg⟩ := h.n
  simp only [c_X11_sumOf, s_X11_sumOf_0, s_X11_sumOf_1, s_X11_sumOf_2, s_X11_sumOf_3]
  unfold foF
  rw [hg, nI_clamp (by omega)]
  exact lp_sumOf4 hm (show n ≤ 8 by omega) hg n 0 0 (by omega)
theorem lp_sumOf1 (hm : g.1 42 = some (.inr (11, .ref 43 :: fr))) (hn : n ≤ 8) (hg : gn F = nI n) : ∀ (k j : Nat) (v : Int32), j + k = n → den sc (d + 1) MX11_sumOf 4 [some (.ref 42), some (.int 1), some (.int v), some (.int (nI j))] [] (RF g F) = some (some (.int (foL (stAge F) k j v)), RF g F)
  | 0, j, v, hj => by
    obtain rfl : j = n := by omega
    rw [s_X11_sumOf_4]
    simp only [s_X11_sumOf_0, s_X11_sumOf_1, s_X11_sumOf_2, s_X11_sumOf_3, s_X11_sumOf_5, s_X11_sumOf_6, s_X11_sumOf_9, s_X11_sumOf_10, s_X11_sumOf_11, s_X11_sumOf_14, s_X11_sumOf_15, s_X11_sumOf_16, s_X11_sumOf_17, s_X11_sumOf_18, s_X11_sumOf_21, s_X11_sumOf_22, s_X11_sumOf_23, s_X11_sumOf_26, s_X11_sumOf_29, s_X11_sumOf_30, rF_42 hm, gf_hit, List.getElem?_cons_zero, ob1_s, av_hit rF_43, cI, ai_hit, i59_2, c2, ro_n, hg, Int32.le_refl, if_true, foL]
  | k + 1, j, v, hj => by
    have hj8 : j < 8 := by omega
    have ih := lp_sumOf1 hm hn hg k (j + 1) (stAge F j v) (by omega)
    rw [s_X11_sumOf_4]
    simp only [s_X11_sumOf_0, s_X11_sumOf_1, s_X11_sumOf_2, s_X11_sumOf_3, s_X11_sumOf_5, s_X11_sumOf_6, s_X11_sumOf_9, s_X11_sumOf_10, s_X11_sumOf_11, s_X11_sumOf_14, s_X11_sumOf_15, s_X11_sumOf_16, s_X11_sumOf_17, s_X11_sumOf_18, s_X11_sumOf_21, s_X11_sumOf_22, s_X11_sumOf_23, s_X11_sumOf_26, s_X11_sumOf_29, s_X11_sumOf_30, rF_42 hm, List.getElem?_cons_zero, ob1_s, av_hit rF_43, cI, i59_2, c2, ro_n, hg, n_ge hn (show j < n by omega), mrc hm, sp_its1 hm hj8, nI_1, foL, ck0, ck1, ck2, ck3, ck4, Option.toList_some, Option.toList_none, List.cons_append, List.nil_append, gf_hit, pf_hit, ai_hit, al_hit, ar_hit, ob_hit, if_true, if_false, reduceIte, reduceCtorEq]
    exact ih
theorem sp_sumOf1 (hm : g.1 42 = some (.inr (11, .ref 43 :: fr))) (h : FI F) : call sc (d + 1) MX11_sumOf [.ref 42, .int 1] (RF g F) = some (some (.int (foF F (stAge F))), RF g F) := by
  obtain ⟨n, hn, hg⟩ := h.n
  simp only [c_X11_sumOf, s_X11_sumOf_0, s_X11_sumOf_1, s_X11_sumOf_2, s_X11_sumOf_3]
  unfold foF
  rw [hg, nI_clamp (by omega)]
  exact lp_sumOf1 hm (show n ≤ 8 by omega) hg n 0 0 (by omega)
end
