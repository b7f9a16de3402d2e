/-! THE MODEL'S KINDS -/
theorem cntF_0 : ∀ (k m : Nat), m < 2 ^ k → cntF k m = 0 → m = 0
  | 0, m, h, _ => by simpa using h
  | k + 1, m, h, h0 => by
    have h0' : m % 2 + cntF k (m / 2) = 0 := h0
    have := cntF_0 k (m / 2) (by rw [Nat.pow_succ] at h; omega) (by omega)
    omega
theorem cntF_1 : ∀ (k m t : Nat), m < 2 ^ k → m.testBit t = true → cntF k m ≤ 1 → m = 2 ^ t
  | 0, m, t, h, ht, _ => by
    have : m = 0 := by simpa using h
    subst this
    simp at ht
  | k + 1, m, 0, h, ht, h1 => by
    have h1' : m % 2 + cntF k (m / 2) ≤ 1 := h1
    have hm : m % 2 = 1 := by simpa [Nat.testBit_zero] using ht
    have := cntF_0 k (m / 2) (by rw [Nat.pow_succ] at h; omega) (by omega)
    rw [Nat.pow_zero]
    omega
  | k + 1, m, t + 1, h, ht, h1 => by
    have h1' : m % 2 + cntF k (m / 2) ≤ 1 := h1
    have hlt : m / 2 < 2 ^ k := by rw [Nat.pow_succ] at h; omega
    have ht' : (m / 2).testBit t = true := by rw [Nat.testBit_div_two]; exact ht
    have hne : cntF k (m / 2) ≠ 0 := fun h0 => by
      have := cntF_0 k (m / 2) hlt h0
      rw [this] at ht'
      simp at ht'
    have := cntF_1 k (m / 2) t hlt ht' (by omega)
    rw [Nat.pow_succ]
    omega
theorem rm_bt {s : Int32} {t i : Nat} (ht : t < 32) (hi : i < 32) : bt (rm s (nI t)) i = (bt s i && !decide (i = t)) := by
  rw [rm_pos (nn_nI (by omega)), b_and, b_xor, bt_sb t ht hi, b_m1 i hi, Bool.xor_true]
theorem rm_0 {m t : Nat} (hm : m < 65536) (ht : t < 16) (hb : m.testBit t = true) : rm (nI m) (nI t) = 0 ↔ cN m ≤ 1 := by
  constructor
  · intro h
    have : m = 2 ^ t := by
      apply Nat.eq_of_testBit_eq
      intro i
      rw [Nat.testBit_two_pow]
      by_cases hit : t = i
      · subst hit; rw [hb]; simp
      · rw [decide_eq_false hit]
        rcases Nat.lt_or_ge i 32 with hi | hi
        · have h2 := congrArg (fun x => bt x i) h
          simp only [rm_bt (show t < 32 by omega) hi, b_0, nI_bt hi] at h2
          have : ¬ i = t := fun e => hit e.symm
          simpa [this] using h2
        · exact Nat.testBit_lt_two_pow (Nat.lt_of_lt_of_le (show m < 2 ^ 16 from hm) (Nat.pow_le_pow_right (by decide) (by omega)))
    rw [this]
    exact (by decide +kernel : ∀ t, t < 16 → cN (2 ^ t) ≤ 1) t ht
  · intro h
    rw [cntF_1 16 m t hm hb h]
    exact (by decide +kernel : ∀ t, t < 16 → rm (nI (2 ^ t)) (nI t) = 0) t ht
theorem bsL_has {lt : Int32 → Int32 → Bool} {s : Int32} {w : Nat → Int32} : ∀ (k j : Nat) (best : Int32), j + k = 16 → (best = -1 ∨ ∃ i, i < 16 ∧ best = nI i ∧ bt s i = true) → (bsL lt s w k j best = -1 ∨ ∃ i, i < 16 ∧ bsL lt s w k j best = nI i ∧ bt s i = true)
  | 0, _, _, _, h => h
  | k + 1, j, best, hj, h => by
    refine bsL_has k (j + 1) _ (by omega) ?_
    unfold bs1
    split
    · rename_i hh
      exact Or.inr ⟨j, by omega, rfl, hh.1⟩
    · exact h
theorem bsL_m1 {lt : Int32 → Int32 → Bool} {s : Int32} {w : Nat → Int32} : ∀ (k j : Nat) (best : Int32), j + k = 16 → bsL lt s w k j best = -1 → best = -1 ∧ ∀ i, j ≤ i → i < 16 → bt s i = false
  | 0, j, best, hj, h => ⟨h, fun i h1 h2 => by omega⟩
  | k + 1, j, best, hj, h => by
    obtain ⟨h1, h2⟩ := bsL_m1 k (j + 1) _ (by omega) h
    unfold bs1 at h1
    split at h1
    · exact absurd h1 (by
        have : ¬ nI j < 0 := nn_nI (by omega)
        intro e
        rw [e] at this
        exact this (by decide))
    · rename_i hh
      refine ⟨h1, fun i hi h16 => ?_⟩
      rcases Nat.lt_or_ge j i with hji | hji
      · exact h2 i hji h16
      · obtain rfl : i = j := by omega
        cases hb : bt s i
        · rfl
        · exact absurd ⟨hb, Or.inl (by rw [h1]; decide)⟩ hh
theorem rm_w {m : Nat} {w : Nat → Int32} (hm : m < 65536) : rm (nI m) (worstF (nI m) w) = 0 ↔ cN m ≤ 1 := by
  rcases bsL_has (lt := fun x y => decide (y < x)) (s := nI m) (w := w) 16 0 (-1) rfl (Or.inl rfl) with h | ⟨i, hi, h, hb⟩
  · have e : worstF (nI m) w = -1 := h
    have h0 : m = 0 := by
      apply Nat.eq_of_testBit_eq
      intro i
      rw [Nat.zero_testBit]
      rcases Nat.lt_or_ge i 16 with hi | hi
      · have := (bsL_m1 16 0 (-1) rfl h).2 i (Nat.zero_le _) hi
        rwa [nI_bt (by omega)] at this
      · exact Nat.testBit_lt_two_pow (Nat.lt_of_lt_of_le (show m < 2 ^ 16 from hm) (Nat.pow_le_pow_right (by decide) hi))
    rw [e, rm_neg (by decide), h0]
    decide
  · have e : worstF (nI m) w = nI i := h
    rw [nI_bt (by omega)] at hb
    rw [e, rm_0 hm hi hb]
theorem showF_le {kd age : Int32} {w : Nat → Int32} {m : Nat} (hm : m < 65536) : ∃ k, k < 65536 ∧ showF kd age (nI m) w = nI k := by
  have hh : ∀ k, k < 65536 → ∀ t, ∃ k', k' < 65536 ∧ rm (nI k) t = nI k' := fun k hk t => by
    by_cases h : t < 0
    · exact ⟨k, hk, rm_neg h⟩
    · refine ⟨(rm (nI k) t).toBitVec.toNat, ?_, ?_⟩
      · show ((nI k &&& (so t ^^^ -1)).toBitVec).toNat < 65536
        rw [Int32.toBitVec_and, BitVec.toNat_and]
        refine Nat.lt_of_le_of_lt Nat.and_le_left ?_
        show (BitVec.ofNat 32 k).toNat < 65536
        rw [BitVec.toNat_ofNat]
        omega
      · apply Int32.toBitVec_inj.mp
        show _ = BitVec.ofNat 32 _
        rw [BitVec.ofNat_toNat, BitVec.setWidth_eq]
  unfold showF hid
  split
  · exact hh m hm _
  · split
    · obtain ⟨k, hk, e⟩ := hh m hm (bestF (nI m) w)
      rw [e]
      exact hh k hk _
    · split
      · split
        · exact ⟨0, by decide, rfl⟩
        · exact ⟨m, hm, rfl⟩
      · exact ⟨m, hm, rfl⟩
section
variable {sc : mx_X} {d : Nat} {g : mx_G} {F : Fam} {fr : List Value} {i kk : Nat}
theorem mrc (hm : g.1 42 = some (.inr (11, .ref 43 :: fr))) : mx_rc (RF g F) 42 = some 11 := rc_hit (by rw [rF_o (by decide)]; exact hm)
theorem t01 : (0 : Int32).toInt < 1 ∨ 5 < (0 : Int32).toInt := by decide
theorem t02 : (0 : Int32).toInt < 2 ∨ 5 < (0 : Int32).toInt := by decide
theorem t12 : (1 : Int32).toInt < 2 ∨ 5 < (1 : Int32).toInt := by decide
theorem ev_age : ∀ a, a < 128 → (nI a - nI a / 2 * 2 = 0 ∨ nI a - nI a / 2 * 2 = 1) := by decide +kernel
theorem sp_mshows (hm : g.1 42 = some (.inr (11, .ref 43 :: fr))) (hi : i < 8) (hk : gk F i = nI kk) (hkk : kk < 6) : call sc (d + 1) MX11_shows [.ref 42, .int (nI i)] (RF g F) = some (some (.int (showF (gk F i) (ga F i) (gp F i) (gw F))), RF g F) := by
  by_cases ha : ga F i < 49
  · have ha' := Int32.not_le.mpr ha
    rcases six hkk with rfl | rfl | rfl | rfl | rfl | rfl <;>
    simp [c_X11_shows, s_X11_shows_0, s_X11_shows_1, s_X11_shows_2, s_X11_shows_3, s_X11_shows_6, s_X11_shows_7, s_X11_shows_8, s_X11_shows_9, s_X11_shows_10, s_X11_shows_13, s_X11_shows_16, s_X11_shows_17, s_X11_shows_18, s_X11_shows_19, s_X11_shows_20, s_X11_shows_23_1, s_X11_shows_23_2, s_X11_shows_23_3, s_X11_shows_23_4, s_X11_shows_23_5, s_X11_shows_56, s_X11_shows_57, s_X11_shows_58, s_X11_shows_59, s_X11_shows_60, s_X11_shows_61, s_X11_shows_64, s_X11_shows_67, s_X11_shows_68, s_X11_shows_69, s_X11_shows_70, s_X11_shows_71, s_X11_shows_74, s_X11_shows_76, s_X11_shows_79, s_X11_shows_80, s_X11_shows_83, s_X11_shows_84, s_X11_shows_85, s_X11_shows_86, mrc hm, sp_its2 hm hi, sp_its0 hm hi, sp_its1 hm hi, sp_bestOf hm, sp_but, ck0, ck1, ck2, ck3, hk, showF, hid, s_X11_shows_23_d t01, ha, ha', show (nI 0 : Int32) = 0 from rfl, show (nI 1 : Int32) = 1 from rfl, show (nI 2 : Int32) = 2 from rfl, show (nI 3 : Int32) = 3 from rfl, show (nI 4 : Int32) = 4 from rfl, show (nI 5 : Int32) = 5 from rfl]
  · have ha' := Int32.not_lt.mp ha
    rcases six hkk with rfl | rfl | rfl | rfl | rfl | rfl <;>
    simp [c_X11_shows, s_X11_shows_0, s_X11_shows_1, s_X11_shows_2, s_X11_shows_3, s_X11_shows_6, s_X11_shows_7, s_X11_shows_8, s_X11_shows_9, s_X11_shows_10, s_X11_shows_13, s_X11_shows_16, s_X11_shows_17, s_X11_shows_18, s_X11_shows_19, s_X11_shows_20, s_X11_shows_23_1, s_X11_shows_23_2, s_X11_shows_23_3, s_X11_shows_23_4, s_X11_shows_23_5, s_X11_shows_56, s_X11_shows_57, s_X11_shows_58, s_X11_shows_59, s_X11_shows_60, s_X11_shows_61, s_X11_shows_64, s_X11_shows_67, s_X11_shows_68, s_X11_shows_69, s_X11_shows_70, s_X11_shows_71, s_X11_shows_74, s_X11_shows_76, s_X11_shows_79, s_X11_shows_80, s_X11_shows_83, s_X11_shows_84, s_X11_shows_85, s_X11_shows_86, mrc hm, sp_its2 hm hi, sp_its0 hm hi, sp_its1 hm hi, sp_bestOf hm, sp_but, ck0, ck1, ck2, ck3, hk, showF, hid, s_X11_shows_23_d t01, ha, ha', show (nI 0 : Int32) = 0 from rfl, show (nI 1 : Int32) = 1 from rfl, show (nI 2 : Int32) = 2 from rfl, show (nI 3 : Int32) = 3 from rfl, show (nI 4 : Int32) = 4 from rfl, show (nI 5 : Int32) = 5 from rfl]
theorem sp_mtaken (hm : g.1 42 = some (.inr (11, .ref 43 :: fr))) (hi : i < 8) (hk : gk F i = nI kk) (hkk : kk < 6) {m : Nat} (hp : gp F i = nI m) (hlt : m < 65536) : call sc (d + 2) MX11_taken [.ref 42, .int (nI i)] (RF g F) = some (some (.int (takeF (gk F i) (showF (gk F i) (ga F i) (gp F i) (gw F)) (gw F))), RF g F) := by
  obtain ⟨k, hklt, hs⟩ := showF_le (kd := gk F i) (age := ga F i) (w := gw F) hlt
  have hw := rm_w (w := gw F) hklt
  rw [← hp] at hs
  have hsh := sp_mshows (sc := sc) (d := d) hm hi hk hkk
  rw [hs] at hsh ⊢
  have hb := sp_bits (sc := sc) (d := d + 1) (g := RF g F) hklt
  by_cases h1 : cN k ≤ 1
  · have hle : nI (cN k) ≤ 1 := (nI_leI (show cN k < 2 ^ 31 from Nat.lt_of_le_of_lt (cN_le k) (by decide)) (show 1 < 2 ^ 31 by decide)).mpr h1
    have hr : rm (nI k) (worstF (nI k) (gw F)) = 0 := hw.mpr h1
    rcases six hkk with rfl | rfl | rfl | rfl | rfl | rfl <;>
    simp [c_X11_taken, s_X11_taken_0, s_X11_taken_1, s_X11_taken_2, s_X11_taken_5, s_X11_taken_6, s_X11_taken_7, s_X11_taken_8, s_X11_taken_11, s_X11_taken_12, s_X11_taken_13, s_X11_taken_14, s_X11_taken_15, s_X11_taken_18_2, s_X11_taken_18_3, s_X11_taken_18_4, s_X11_taken_18_5, s_X11_taken_48, s_X11_taken_49, s_X11_taken_50, s_X11_taken_51, s_X11_taken_54, s_X11_taken_55, s_X11_taken_56, s_X11_taken_59, s_X11_taken_60, s_X11_taken_63, s_X11_taken_64, s_X11_taken_65, s_X11_taken_66, s_X11_taken_69, s_X11_taken_72, s_X11_taken_75, s_X11_taken_76, s_X11_taken_77, s_X11_taken_78, s_X11_taken_79, s_X11_taken_82, mrc hm, hsh, hb, sp_its0 hm hi, sp_bestOf hm, sp_worstOf hm, sp_lastOf, sp_but, ck0, ck1, ck2, ck3, hk, takeF, s_X11_taken_18_d t02, s_X11_taken_18_d t12, hle, hr, show (nI 0 : Int32) = 0 from rfl, show (nI 1 : Int32) = 1 from rfl, show (nI 2 : Int32) = 2 from rfl, show (nI 3 : Int32) = 3 from rfl, show (nI 4 : Int32) = 4 from rfl, show (nI 5 : Int32) = 5 from rfl]
  · have hle : ¬ nI (cN k) ≤ 1 := fun h => h1 ((nI_leI (show cN k < 2 ^ 31 from Nat.lt_of_le_of_lt (cN_le k) (by decide)) (show 1 < 2 ^ 31 by decide)).mp h)
    have hr : ¬ rm (nI k) (worstF (nI k) (gw F)) = 0 := fun h => h1 (hw.mp h)
    rcases six hkk with rfl | rfl | rfl | rfl | rfl | rfl <;>
    simp [c_X11_taken, s_X11_taken_0, s_X11_taken_1, s_X11_taken_2, s_X11_taken_5, s_X11_taken_6, s_X11_taken_7, s_X11_taken_8, s_X11_taken_11, s_X11_taken_12, s_X11_taken_13, s_X11_taken_14, s_X11_taken_15, s_X11_taken_18_2, s_X11_taken_18_3, s_X11_taken_18_4, s_X11_taken_18_5, s_X11_taken_48, s_X11_taken_49, s_X11_taken_50, s_X11_taken_51, s_X11_taken_54, s_X11_taken_55, s_X11_taken_56, s_X11_taken_59, s_X11_taken_60, s_X11_taken_63, s_X11_taken_64, s_X11_taken_65, s_X11_taken_66, s_X11_taken_69, s_X11_taken_72, s_X11_taken_75, s_X11_taken_76, s_X11_taken_77, s_X11_taken_78, s_X11_taken_79, s_X11_taken_82, mrc hm, hsh, hb, sp_its0 hm hi, sp_bestOf hm, sp_worstOf hm, sp_lastOf, sp_but, ck0, ck1, ck2, ck3, hk, takeF, s_X11_taken_18_d t02, s_X11_taken_18_d t12, hle, hr, show (nI 0 : Int32) = 0 from rfl, show (nI 1 : Int32) = 1 from rfl, show (nI 2 : Int32) = 2 from rfl, show (nI 3 : Int32) = 3 from rfl, show (nI 4 : Int32) = 4 from rfl, show (nI 5 : Int32) = 5 from rfl]
theorem sp_findsAt (hm : g.1 42 = some (.inr (11, .ref 43 :: fr))) (hi : i < 8) (hk : gk F i = nI kk) (hkk : kk < 6) {a : Nat} (ha : a < 128) : call sc (d + 1) MX11_findsAt [.ref 42, .int (nI i), .int (nI a)] (RF g F) = some (some (.int (findF (gk F i) (nI a))), RF g F) := by
  rcases ev_age a ha with he | he <;>
  rcases six hkk with rfl | rfl | rfl | rfl | rfl | rfl <;>
  simp [c_X11_findsAt, s_X11_findsAt_0, s_X11_findsAt_1, s_X11_findsAt_2, s_X11_findsAt_3, s_X11_findsAt_5, s_X11_findsAt_6, s_X11_findsAt_7, s_X11_findsAt_8, s_X11_findsAt_9, s_X11_findsAt_10, s_X11_findsAt_13_2, s_X11_findsAt_13_3, s_X11_findsAt_13_4, s_X11_findsAt_13_5, s_X11_findsAt_44, s_X11_findsAt_45, s_X11_findsAt_46, s_X11_findsAt_47, s_X11_findsAt_48, s_X11_findsAt_51, s_X11_findsAt_52, s_X11_findsAt_55, s_X11_findsAt_56, s_X11_findsAt_57, s_X11_findsAt_58, s_X11_findsAt_59, s_X11_findsAt_60, s_X11_findsAt_62, s_X11_findsAt_63, s_X11_findsAt_64, s_X11_findsAt_65, s_X11_findsAt_66, s_X11_findsAt_67, mrc hm, sp_its0 hm hi, ck0, ck1, ck2, ck3, hk, findF, fi0, s_X11_findsAt_13_d t02, s_X11_findsAt_13_d t12, he, show (nI 0 : Int32) = 0 from rfl, show (nI 1 : Int32) = 1 from rfl, show (nI 2 : Int32) = 2 from rfl, show (nI 3 : Int32) = 3 from rfl, show (nI 4 : Int32) = 4 from rfl, show (nI 5 : Int32) = 5 from rfl]
end
/-! THE CLASS'S FAMILY: what is found next, what a pocket is worth -/
section
variable {sc : mx_X} {d : Nat} {g : mx_G} {o i kk : Nat} {F : Fam}
def nextF (F : Fam) (i : Nat) : Int32 := if 70 ≤ ga F i then -1 else findF (gk F i) (ga F i + 1)
theorem sp_foundNextBy (hW : WY g) (ho : 8 ≤ o) (hi : i < 8) (hk : gk F i = nI kk) (hkk : kk < 6) : call sc (d + 2) MX1_foundNextBy [.ref o, .int (nI i)] (putF g o F) = some (some (.int (nextF F i)), putF g o F) := by
  obtain ⟨w1, w2, w3, w4, w5, w6, w7⟩ := hW.put (F := F) ho
  have r2 := rc_hit w2; have r3 := rc_hit w3; have r4 := rc_hit w4; have r5 := rc_hit w5; have r6 := rc_hit w6; have r7 := rc_hit w7
  by_cases ha : 70 ≤ ga F i
  · have ha' := Int32.not_lt.mpr ha
    simp [c_X1_foundNextBy, s_X1_foundNextBy_0, s_X1_foundNextBy_1, s_X1_foundNextBy_4, s_X1_foundNextBy_5, s_X1_foundNextBy_6, s_X1_foundNextBy_8, s_X1_foundNextBy_11, s_X1_foundNextBy_12, s_X1_foundNextBy_15, s_X1_foundNextBy_16, s_X1_foundNextBy_19, s_X1_foundNextBy_20, s_X1_foundNextBy_23, s_X1_foundNextBy_24, s_X1_foundNextBy_25, s_X1_foundNextBy_26, s_X1_foundNextBy_27, s_X1_foundNextBy_30, s_X1_foundNextBy_31, s_X1_foundNextBy_32, s_X1_foundNextBy_33, s_X1_foundNextBy_34_0, s_X1_foundNextBy_34_2, s_X1_foundNextBy_34_3, s_X1_foundNextBy_34_4, s_X1_foundNextBy_34_6, s_X1_foundNextBy_34_9, s_X1_foundNextBy_37, pF_0, cF, gf_hit, ob1_s, av_a, cI, ai_hit, in8 hi, cl8 hi, ha, ha', nextF]
  · have ha' := Int32.not_le.mp ha
    rcases six hkk with rfl | rfl | rfl | rfl | rfl | rfl <;>
    simp [c_X1_foundNextBy, s_X1_foundNextBy_0, s_X1_foundNextBy_1, s_X1_foundNextBy_4, s_X1_foundNextBy_5, s_X1_foundNextBy_6, s_X1_foundNextBy_8, s_X1_foundNextBy_11, s_X1_foundNextBy_12, s_X1_foundNextBy_15, s_X1_foundNextBy_16, s_X1_foundNextBy_19, s_X1_foundNextBy_20, s_X1_foundNextBy_23, s_X1_foundNextBy_24, s_X1_foundNextBy_25, s_X1_foundNextBy_26, s_X1_foundNextBy_27, s_X1_foundNextBy_30, s_X1_foundNextBy_31, s_X1_foundNextBy_32, s_X1_foundNextBy_33, s_X1_foundNextBy_34_0, s_X1_foundNextBy_34_2, s_X1_foundNextBy_34_3, s_X1_foundNextBy_34_4, s_X1_foundNextBy_34_6, s_X1_foundNextBy_34_9, s_X1_foundNextBy_37, pF_0, cF, gf_hit, ob1_s, av_k, av_p, av_a, cI, ai_hit, ar_hit, in8 hi, cl8 hi, hk, w1, wayRow, va_rf, i60, i61, i62, i63, i64, i65, r2, r3, r4, r5, r6, r7, sp_X3_finds, sp_X4_finds w4, sp_X0_finds w5, sp_X9_finds, ck0, findF, ha, ha', nextF, show (nI 0 : Int32) = 0 from rfl, show (nI 1 : Int32) = 1 from rfl, show (nI 2 : Int32) = 2 from rfl, show (nI 3 : Int32) = 3 from rfl, show (nI 4 : Int32) = 4 from rfl, show (nI 5 : Int32) = 5 from rfl]
theorem lp_pocketWorth (hi : i < 8) : ∀ (k j : Nat) (v : Int32), j + k = 16 → den sc (d + 2) MX1_pocketWorth 4 [some (.ref o), some (.int (nI i)), some (.int v), some (.int (nI j))] [] (putF g o F) = some (some (.int (valL (gp F i) (gw F) k j v)), putF g o F)
  | 0, j, v, hj => by
    obtain rfl : j = 16 := by omega
    rw [s_X1_pocketWorth_4]
    simp only [s_X1_pocketWorth_0, s_X1_pocketWorth_1, s_X1_pocketWorth_2, s_X1_pocketWorth_3, s_X1_pocketWorth_5, s_X1_pocketWorth_7, s_X1_pocketWorth_10, s_X1_pocketWorth_11, s_X1_pocketWorth_12, s_X1_pocketWorth_13, s_X1_pocketWorth_16, s_X1_pocketWorth_19, s_X1_pocketWorth_20, s_X1_pocketWorth_21, s_X1_pocketWorth_24, s_X1_pocketWorth_25, s_X1_pocketWorth_26, s_X1_pocketWorth_27, s_X1_pocketWorth_28, s_X1_pocketWorth_31, s_X1_pocketWorth_34, s_X1_pocketWorth_35, ge16, if_true, valL]
  | k + 1, j, v, hj => by
    have hlt : j < 16 := by omega
    have ih := lp_pocketWorth hi k (j + 1) (if bt (gp F i) j = true then v + gw F j else v) (by omega)
    have hrc : mx_rc (putF g o F) o = some 1 := rc_hit pF_0
    rw [s_X1_pocketWorth_4]
    simp only [s_X1_pocketWorth_0, s_X1_pocketWorth_1, s_X1_pocketWorth_2, s_X1_pocketWorth_3, s_X1_pocketWorth_5, s_X1_pocketWorth_7, s_X1_pocketWorth_10, s_X1_pocketWorth_11, s_X1_pocketWorth_12, s_X1_pocketWorth_13, s_X1_pocketWorth_16, s_X1_pocketWorth_19, s_X1_pocketWorth_20, s_X1_pocketWorth_21, s_X1_pocketWorth_24, s_X1_pocketWorth_25, s_X1_pocketWorth_26, s_X1_pocketWorth_27, s_X1_pocketWorth_28, s_X1_pocketWorth_31, s_X1_pocketWorth_34, s_X1_pocketWorth_35, ng16 hlt, if_false, hrc, sp_has hi (show j < 32 by omega), pF_0, cF, gf_hit, List.getElem?_cons_zero, List.getElem?_cons_succ, ob1_s, av_w, cI, ai_hit, in_nI hlt (by decide), cl_nI hlt (by decide), if_true, nI_1, valL, ck0, ck1, ck2, ck3, Option.toList_some, List.cons_append, List.nil_append]
    rw [← ih]
    cases bt (gp F i) j <;> simp [b2]
theorem sp_pocketWorth (hi : i < 8) : call sc (d + 2) MX1_pocketWorth [.ref o, .int (nI i)] (putF g o F) = some (some (.int (valF (gp F i) (gw F))), putF g o F) := by
  simp only [c_X1_pocketWorth, s_X1_pocketWorth_0, s_X1_pocketWorth_1, s_X1_pocketWorth_2, s_X1_pocketWorth_3]
  exact lp_pocketWorth hi 16 0 0 rfl
end
