/-! COUNTING BITS -/
def cntF : Nat → Nat → Nat
  | 0, _ => 0
  | k + 1, m => m % 2 + cntF k (m / 2)
def cN (m : Nat) : Nat := cntF 16 m
theorem and_mod2 (a b : Nat) : (a &&& b) % 2 = if a % 2 = 1 ∧ b % 2 = 1 then 1 else 0 := by
  have h : (a &&& b).testBit 0 = (a.testBit 0 && b.testBit 0) := Nat.testBit_and a b 0
  simp only [Nat.testBit_zero] at h
  split
  · rename_i hh
    rw [hh.1, hh.2] at h
    simpa using h
  · rename_i hh
    have : ¬ (a &&& b) % 2 = 1 := fun h1 => hh (by rw [h1] at h; simpa using h.symm)
    omega
theorem and_div2 (a b : Nat) : (a &&& b) / 2 = a / 2 &&& b / 2 := by
  apply Nat.eq_of_testBit_eq
  intro i
  rw [Nat.testBit_div_two, Nat.testBit_and, Nat.testBit_and, Nat.testBit_div_two, Nat.testBit_div_two]
theorem kern : ∀ (k m : Nat), 0 < m → m < 2 ^ k → cntF k (m &&& (m - 1)) + 1 = cntF k m
  | 0, m, h0, h => by omega
  | k + 1, m, h0, h => by
    show (m &&& (m - 1)) % 2 + cntF k ((m &&& (m - 1)) / 2) + 1 = m % 2 + cntF k (m / 2)
    rw [and_mod2, and_div2]
    rcases Nat.mod_two_eq_zero_or_one m with hm | hm
    · have e : (m - 1) / 2 = m / 2 - 1 := by omega
      have ih := kern k (m / 2) (by omega) (by rw [Nat.pow_succ] at h; omega)
      rw [e, if_neg (by omega), hm, Nat.zero_add, Nat.zero_add, ih]
    · have e : (m - 1) / 2 = m / 2 := by omega
      rw [e, Nat.and_self, if_neg (by omega), hm]
      omega
theorem nI_land {a b : Nat} : nI a &&& nI b = nI (a &&& b) := by
  apply Int32.toBitVec_inj.mp
  rw [Int32.toBitVec_and]
  show BitVec.ofNat 32 a &&& BitVec.ofNat 32 b = BitVec.ofNat 32 (a &&& b)
  apply BitVec.eq_of_getLsbD_eq
  intro i hi
  simp [BitVec.getLsbD_ofNat, hi]
theorem nI_bt {a i : Nat} (hi : i < 32) : bt (nI a) i = a.testBit i := by
  show (BitVec.ofNat 32 a).getLsbD i = _
  rw [BitVec.getLsbD_ofNat, decide_eq_true hi, Bool.true_and]
theorem nI_ushr {a n : Nat} (hn : n < 32) (ha : a < 2 ^ 32) : ((nI a).toUInt32 >>> ((nI n).toUInt32 &&& Int32.toUInt32 31)).toInt32 = nI (a >>> n) := by
  apply b_ext
  intro i hi
  rw [b_ushr n hn, nI_bt hi, Nat.testBit_shiftRight]
  rcases Nat.lt_or_ge (n + i) 32 with h | h
  · rw [nI_bt h]
  · rw [b_big h, Nat.testBit_lt_two_pow (Nat.lt_of_lt_of_le ha (Nat.pow_le_pow_right (by decide) h))]
theorem cntF_le : ∀ (k m : Nat), cntF k m ≤ k
  | 0, _ => Nat.le_refl 0
  | k + 1, m => by
    have := cntF_le k (m / 2)
    show m % 2 + cntF k (m / 2) ≤ k + 1
    omega
theorem cN_le (m : Nat) : cN m ≤ 16 := cntF_le 16 m
def swN1 (x : Nat) : Nat := x - (x >>> 1 &&& 1431655765)
def swN2 (x : Nat) : Nat := (x &&& 858993459) + (x >>> 2 &&& 858993459)
def swN3 (x : Nat) : Nat := x + x >>> 4 &&& 252645135
def swN4 (x : Nat) : Nat := x + x >>> 8
def swN5 (x : Nat) : Nat := x + x >>> 16
def swN (x : Nat) : Nat := swN5 (swN4 (swN3 (swN2 (swN1 x)))) &&& 63
theorem and_256 {p q M : Nat} (hq : q < 256) : (256 * p + q) &&& M = 256 * (p &&& M / 256) + (q &&& M % 256) := by
  have h1 : ((256 * p + q) &&& M) % 2 ^ 8 = (256 * p + q) % 2 ^ 8 &&& M % 2 ^ 8 := Nat.and_mod_two_pow
  have h2 : ((256 * p + q) &&& M) >>> 8 = (256 * p + q) >>> 8 &&& M >>> 8 := Nat.shiftRight_and_distrib
  rw [Nat.shiftRight_eq_div_pow, Nat.shiftRight_eq_div_pow, Nat.shiftRight_eq_div_pow, show (256 * p + q) / 2 ^ 8 = p by omega] at h2
  rw [show (256 * p + q) % 2 ^ 8 = q by omega] at h1
  have h3 := Nat.div_add_mod ((256 * p + q) &&& M) 256
  rw [show (256 : Nat) = 2 ^ 8 from rfl] at h3 ⊢
  rw [h1, h2] at h3
  exact h3.symm
theorem sw_a : ∀ r, r < 2 → ∀ b, b < 256 → (128 * r + b / 2) &&& 85 = b >>> 1 &&& 1431655765 := by decide +kernel
theorem sw_b : ∀ a, a < 256 → a / 2 &&& 5592405 = a >>> 1 &&& 1431655765 := by decide +kernel
theorem sw_c : ∀ r, r < 4 → ∀ b, b < 256 → (64 * r + b / 4) &&& 51 = b >>> 2 &&& 858993459 := by decide +kernel
theorem sw_d : ∀ a, a < 256 → a / 4 &&& 3355443 = a >>> 2 &&& 858993459 := by decide +kernel
theorem sw_e : ∀ b, b < 256 → b &&& 51 = b &&& 858993459 := by decide +kernel
theorem sw_f : ∀ a, a < 256 → a &&& 3355443 = a &&& 858993459 := by decide +kernel
theorem sw_g : ∀ a, a < 256 → swN1 a < 256 ∧ swN2 (swN1 a) < 256 ∧ swN2 (swN1 a) % 16 ≤ 4 ∧ swN2 (swN1 a) / 16 ≤ 4 ∧ swN3 (swN2 (swN1 a)) = cntF 8 a := by decide +kernel
theorem sw_h : ∀ r, r < 5 → ∀ b, b < 69 → b % 16 ≤ 4 → (b + b / 16 + 16 * r) &&& 15 = swN3 b ∧ b + b / 16 + 16 * r < 256 := by decide +kernel
theorem sw_i : ∀ a, a < 69 → a + a / 16 &&& 986895 = swN3 a := by decide +kernel
theorem sw_j : ∀ x, x < 9 → ∀ y, y < 9 → swN5 (swN4 (256 * x + y)) &&& 63 = x + y := by decide +kernel
theorem sw_1 {a b : Nat} (ha : a < 256) (hb : b < 256) : swN1 (256 * a + b) = 256 * swN1 a + swN1 b := by
  have e : (256 * a + b) >>> 1 = 256 * (a / 2) + (128 * (a % 2) + b / 2) := by rw [Nat.shiftRight_eq_div_pow]; omega
  have la : (a >>> 1 &&& 1431655765) ≤ a := Nat.le_trans Nat.and_le_left (by rw [Nat.shiftRight_eq_div_pow]; exact Nat.div_le_self _ _)
  have lb : (b >>> 1 &&& 1431655765) ≤ b := Nat.le_trans Nat.and_le_left (by rw [Nat.shiftRight_eq_div_pow]; exact Nat.div_le_self _ _)
  unfold swN1
  rw [e, and_256 (by omega), show 1431655765 / 256 = 5592405 from rfl, show 1431655765 % 256 = 85 from rfl, sw_a (a % 2) (by omega) b hb, sw_b a ha]
  omega
theorem sw_2 {a b : Nat} (ha : a < 256) (hb : b < 256) : swN2 (256 * a + b) = 256 * swN2 a + swN2 b := by
  have e : (256 * a + b) >>> 2 = 256 * (a / 4) + (64 * (a % 4) + b / 4) := by rw [Nat.shiftRight_eq_div_pow]; omega
  unfold swN2
  rw [e, and_256 hb, and_256 (show 64 * (a % 4) + b / 4 < 256 by omega), show 858993459 / 256 = 3355443 from rfl, show 858993459 % 256 = 51 from rfl, sw_c (a % 4) (by omega) b hb, sw_d a ha, sw_e b hb, sw_f a ha]
  omega
theorem sw_3 {a b : Nat} (ha : a % 16 ≤ 4) (ha2 : a / 16 ≤ 4) (hb : b % 16 ≤ 4) (hb2 : b / 16 ≤ 4) : swN3 (256 * a + b) = 256 * swN3 a + swN3 b := by
  have e : 256 * a + b + (256 * a + b) >>> 4 = 256 * (a + a / 16) + (b + b / 16 + 16 * (a % 16)) := by rw [Nat.shiftRight_eq_div_pow]; omega
  obtain ⟨h1, h2⟩ := sw_h (a % 16) (by omega) b (by omega) hb
  show (256 * a + b + (256 * a + b) >>> 4) &&& 252645135 = _
  rw [e, and_256 h2, show 252645135 / 256 = 986895 from rfl, show 252645135 % 256 = 15 from rfl, h1, sw_i a (by omega)]
theorem cntF_add : ∀ (i j m : Nat), cntF (i + j) m = cntF i (m % 2 ^ i) + cntF j (m / 2 ^ i)
  | 0, j, m => by
    rw [Nat.zero_add, Nat.pow_zero, Nat.div_one]
    exact (Nat.zero_add _).symm
  | i + 1, j, m => by
    rw [show i + 1 + j = i + j + 1 by omega]
    show m % 2 + cntF (i + j) (m / 2) = (m % 2 ^ (i + 1)) % 2 + cntF i (m % 2 ^ (i + 1) / 2) + cntF j (m / 2 ^ (i + 1))
    rw [cntF_add i j (m / 2), Nat.div_div_eq_div_mul, show 2 * 2 ^ i = 2 ^ (i + 1) by rw [Nat.pow_succ]; omega]
    have e1 : (m % 2 ^ (i + 1)) % 2 = m % 2 := Nat.mod_mod_of_dvd _ ⟨2 ^ i, by rw [Nat.pow_succ]; omega⟩
    have e2 : m % 2 ^ (i + 1) / 2 = m / 2 % 2 ^ i := by
      rw [Nat.pow_succ, Nat.mul_comm, Nat.mod_mul_right_div_self]
    rw [e1, e2]
    omega
theorem sw_ok {a b : Nat} (ha : a < 256) (hb : b < 256) : swN (256 * a + b) = cN (256 * a + b) := by
  obtain ⟨a1, a2, a3, a4, a5⟩ := sw_g a ha
  obtain ⟨b1, b2, b3, b4, b5⟩ := sw_g b hb
  unfold swN
  rw [sw_1 ha hb, sw_2 a1 b1, sw_3 a3 a4 b3 b4, a5, b5]
  have la := cntF_le 8 a
  have lb := cntF_le 8 b
  rw [sw_j (cntF 8 a) (by omega) (cntF 8 b) (by omega)]
  show _ = cntF (8 + 8) (256 * a + b)
  rw [cntF_add, show (256 * a + b) % 2 ^ 8 = b by omega, show (256 * a + b) / 2 ^ 8 = a by omega]
  omega
section
variable {sc : mx_X} {d : Nat} {g : mx_G} {m : Nat} {m0 : Nat}
theorem lp_bits : ∀ (k m n : Nat), m < 65536 → cN m = k → den sc d MX11_bits 4 [some (.int (nI m0)), some (.int (nI n)), some (.int (nI m))] [] g = some (some (.int (nI (n + cN m))), g)
  | k, 0, n, h, hk => by
    rw [s_X11_bits_4]
    simp only [s_X11_bits_0, s_X11_bits_1, s_X11_bits_2, s_X11_bits_3, s_X11_bits_5, s_X11_bits_8, s_X11_bits_11, s_X11_bits_12, s_X11_bits_13, s_X11_bits_14, s_X11_bits_15, s_X11_bits_16, s_X11_bits_17, s_X11_bits_20, s_X11_bits_21, nI_0, if_true]
    rfl
  | 0, m + 1, n, h, hk => by
    have := kern 16 (m + 1) (by omega) h
    unfold cN at hk
    omega
  | k + 1, m + 1, n, h, hk => by
    have hkm := kern 16 (m + 1) (by omega) h
    have hle : (m + 1 &&& m) ≤ m + 1 := Nat.and_le_left
    have ih := lp_bits k (m + 1 &&& m) (n + 1) (by omega) (by unfold cN at hk ⊢; rw [Nat.add_sub_cancel] at hkm; omega)
    rw [s_X11_bits_4]
    simp only [s_X11_bits_0, s_X11_bits_1, s_X11_bits_2, s_X11_bits_3, s_X11_bits_5, s_X11_bits_8, s_X11_bits_11, s_X11_bits_12, s_X11_bits_13, s_X11_bits_14, s_X11_bits_15, s_X11_bits_16, s_X11_bits_17, s_X11_bits_20, s_X11_bits_21, nI_ne0 (Nat.succ_pos m) (show m + 1 < 2 ^ 31 by omega), if_false, nI_pred, nI_land, nI_1]
    rw [ih]
    unfold cN
    rw [Nat.add_sub_cancel] at hkm
    rw [show n + 1 + cntF 16 (m + 1 &&& m) = n + cntF 16 (m + 1) by omega]
theorem sp_bits (h : m < 65536) : call sc d MX11_bits [.int (nI m)] g = some (some (.int (nI (cN m))), g) := by
  simp only [c_X11_bits, s_X11_bits_0, s_X11_bits_1, s_X11_bits_2, s_X11_bits_3]
  rw [show cN m = 0 + cN m by omega]
  exact lp_bits _ m 0 h rfl
theorem sw_ok' (h : m < 65536) : swN m = cN m := by
  have := sw_ok (a := m / 256) (b := m % 256) (by omega) (by omega)
  rwa [show 256 * (m / 256) + m % 256 = m by omega] at this
theorem shr_le (x n : Nat) : x >>> n ≤ x := by rw [Nat.shiftRight_eq_div_pow]; exact Nat.div_le_self _ _
theorem bc_0 {x : Nat} (hx : x < 2 ^ 32) : den sc d MJ6_bitCount_0f7a4 0 [some (.int (nI x))] [] g = den sc d MJ6_bitCount_0f7a4 10 [some (.int (nI (swN1 x)))] [] g := by
  simp only [s_J6_bitCount_0f7a4_0, s_J6_bitCount_0f7a4_1, s_J6_bitCount_0f7a4_2, s_J6_bitCount_0f7a4_3, s_J6_bitCount_0f7a4_4, s_J6_bitCount_0f7a4_7, s_J6_bitCount_0f7a4_8, s_J6_bitCount_0f7a4_9]
  have e : ((nI x).toUInt32 >>> ((1 : Int32).toUInt32 &&& Int32.toUInt32 31)).toInt32 = nI (x >>> 1) := nI_ushr (n := 1) (by decide) hx
  have e2 : nI (x >>> 1) &&& (1431655765 : Int32) = nI (x >>> 1 &&& 1431655765) := nI_land
  rw [e, e2, pk_sub (Nat.le_trans Nat.and_le_left (shr_le x 1))]
  rfl
theorem bc_1 {x : Nat} (hx : x < 2 ^ 32) : den sc d MJ6_bitCount_0f7a4 10 [some (.int (nI x))] [] g = den sc d MJ6_bitCount_0f7a4 24 [some (.int (nI (swN2 x)))] [] g := by
  simp only [s_J6_bitCount_0f7a4_10, s_J6_bitCount_0f7a4_11, s_J6_bitCount_0f7a4_14, s_J6_bitCount_0f7a4_15, s_J6_bitCount_0f7a4_16, s_J6_bitCount_0f7a4_17, s_J6_bitCount_0f7a4_18, s_J6_bitCount_0f7a4_21, s_J6_bitCount_0f7a4_22, s_J6_bitCount_0f7a4_23]
  have e : ((nI x).toUInt32 >>> ((2 : Int32).toUInt32 &&& Int32.toUInt32 31)).toInt32 = nI (x >>> 2) := nI_ushr (n := 2) (by decide) hx
  have e2 : ∀ y, nI y &&& (858993459 : Int32) = nI (y &&& 858993459) := fun y => nI_land
  rw [e, e2, e2, nI_add]
  rfl
theorem bc_2 {x : Nat} (hx : x < 2 ^ 32) : den sc d MJ6_bitCount_0f7a4 24 [some (.int (nI x))] [] g = den sc d MJ6_bitCount_0f7a4 34 [some (.int (nI (swN3 x)))] [] g := by
  simp only [s_J6_bitCount_0f7a4_24, s_J6_bitCount_0f7a4_25, s_J6_bitCount_0f7a4_26, s_J6_bitCount_0f7a4_27, s_J6_bitCount_0f7a4_28, s_J6_bitCount_0f7a4_29, s_J6_bitCount_0f7a4_32, s_J6_bitCount_0f7a4_33]
  have e : ((nI x).toUInt32 >>> ((4 : Int32).toUInt32 &&& Int32.toUInt32 31)).toInt32 = nI (x >>> 4) := nI_ushr (n := 4) (by decide) hx
  have e2 : ∀ y, nI y &&& (252645135 : Int32) = nI (y &&& 252645135) := fun y => nI_land
  rw [e, nI_add, e2]
  rfl
theorem bc_3 {x : Nat} (hx : x < 2 ^ 32) : den sc d MJ6_bitCount_0f7a4 34 [some (.int (nI x))] [] g = den sc d MJ6_bitCount_0f7a4 41 [some (.int (nI (swN4 x)))] [] g := by
  simp only [s_J6_bitCount_0f7a4_34, s_J6_bitCount_0f7a4_35, s_J6_bitCount_0f7a4_36, s_J6_bitCount_0f7a4_38, s_J6_bitCount_0f7a4_39, s_J6_bitCount_0f7a4_40]
  have e : ((nI x).toUInt32 >>> ((8 : Int32).toUInt32 &&& Int32.toUInt32 31)).toInt32 = nI (x >>> 8) := nI_ushr (n := 8) (by decide) hx
  rw [e, nI_add]
  rfl
theorem bc_4 {x : Nat} (hx : x < 2 ^ 32) : den sc d MJ6_bitCount_0f7a4 41 [some (.int (nI x))] [] g = some (some (.int (nI (swN5 x &&& 63))), g) := by
  simp only [s_J6_bitCount_0f7a4_41, s_J6_bitCount_0f7a4_42, s_J6_bitCount_0f7a4_43, s_J6_bitCount_0f7a4_45, s_J6_bitCount_0f7a4_46, s_J6_bitCount_0f7a4_47, s_J6_bitCount_0f7a4_48, s_J6_bitCount_0f7a4_49, s_J6_bitCount_0f7a4_51, s_J6_bitCount_0f7a4_52]
  have e : ((nI x).toUInt32 >>> ((16 : Int32).toUInt32 &&& Int32.toUInt32 31)).toInt32 = nI (x >>> 16) := nI_ushr (n := 16) (by decide) hx
  have e2 : ∀ y, nI y &&& (63 : Int32) = nI (y &&& 63) := fun y => nI_land
  rw [e, nI_add, e2]
  rfl
theorem sp_bitCount (h : m < 65536) : call sc d MJ6_bitCount_0f7a4 [.int (nI m)] g = some (some (.int (nI (cN m))), g) := by
  have l1 : (m >>> 1 &&& 1431655765) ≤ m := Nat.le_trans Nat.and_le_left (shr_le m 1)
  have h1 : swN1 m < 2 ^ 16 := by unfold swN1; omega
  have h2 : swN2 (swN1 m) < 2 ^ 17 := by
    have a : (swN1 m &&& 858993459) ≤ swN1 m := Nat.and_le_left
    have b : (swN1 m >>> 2 &&& 858993459) ≤ swN1 m := Nat.le_trans Nat.and_le_left (shr_le _ 2)
    unfold swN2; omega
  have h3 : swN3 (swN2 (swN1 m)) < 2 ^ 18 := by
    have a : swN3 (swN2 (swN1 m)) ≤ swN2 (swN1 m) + swN2 (swN1 m) >>> 4 := Nat.and_le_left
    have b := shr_le (swN2 (swN1 m)) 4
    omega
  have h4 : swN4 (swN3 (swN2 (swN1 m))) < 2 ^ 19 := by
    have b := shr_le (swN3 (swN2 (swN1 m))) 8
    unfold swN4; omega
  rw [c_J6_bitCount_0f7a4, bc_0 (by omega), bc_1 (by omega), bc_2 (by omega), bc_3 (by omega), bc_4 (by omega), ← sw_ok' h]
  rfl
end
