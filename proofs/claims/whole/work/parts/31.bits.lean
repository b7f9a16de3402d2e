/-! BITS (the first family of kit/laws/BITS.to-paste, and what is said here with it) -/
def bt (x : Int32) (i : Nat) : Bool := x.toBitVec.getLsbD i
theorem b_ext {x y : Int32} (h : ∀ i, i < 32 → bt x i = bt y i) : x = y := Int32.toBitVec_inj.mp (BitVec.eq_of_getLsbD_eq (fun i hi => h i hi))
theorem b_or (x y : Int32) (i : Nat) : bt (x ||| y) i = (bt x i || bt y i) := by unfold bt; rw [Int32.toBitVec_or, BitVec.getLsbD_or]
theorem b_and (x y : Int32) (i : Nat) : bt (x &&& y) i = (bt x i && bt y i) := by unfold bt; rw [Int32.toBitVec_and, BitVec.getLsbD_and]
theorem b_xor (x y : Int32) (i : Nat) : bt (x ^^^ y) i = (bt x i ^^ bt y i) := by unfold bt; rw [Int32.toBitVec_xor, BitVec.getLsbD_xor]
theorem b_big {x : Int32} {i : Nat} (h : 32 ≤ i) : bt x i = false := BitVec.getLsbD_of_ge _ _ h
theorem b_255 (i : Nat) : bt 255 i = decide (i < 8) := by
  rcases Nat.lt_or_ge i 32 with h | h
  · exact (by decide +kernel : ∀ i, i < 32 → bt 255 i = decide (i < 8)) i h
  · rw [b_big h, decide_eq_false (by omega)]
theorem b_65535 (i : Nat) : bt 65535 i = decide (i < 16) := by
  rcases Nat.lt_or_ge i 32 with h | h
  · exact (by decide +kernel : ∀ i, i < 32 → bt 65535 i = decide (i < 16)) i h
  · rw [b_big h, decide_eq_false (by omega)]
theorem b_m1 : ∀ i, i < 32 → bt (-1) i = true := by decide +kernel
theorem b_0 (i : Nat) : bt 0 i = false := BitVec.getLsbD_zero
theorem s_l : ∀ n, n < 32 → ((nI n &&& 31).toBitVec.smod 32).toNat = n := by decide +kernel
theorem s_u : ∀ n, n < 32 → (((nI n).toUInt32 &&& Int32.toUInt32 31).toBitVec % 32).toNat = n := by decide +kernel
theorem b_shl (n : Nat) (hn : n < 32) (x : Int32) {i : Nat} (hi : i < 32) : bt (x <<< (nI n &&& 31)) i = (decide (n ≤ i) && bt x (i - n)) := by
  unfold bt
  rw [Int32.toBitVec_shiftLeft]
  show (x.toBitVec <<< ((nI n &&& 31).toBitVec.smod 32).toNat).getLsbD i = _
  rw [s_l n hn, BitVec.getLsbD_shiftLeft]
  rcases Nat.lt_or_ge i n with h | h
  · simp [h, Nat.not_le.mpr h]
  · simp [hi, h, Nat.not_lt.mpr h]
theorem b_ushr (n : Nat) (hn : n < 32) (x : Int32) (i : Nat) : bt ((x.toUInt32 >>> ((nI n).toUInt32 &&& Int32.toUInt32 31)).toInt32) i = bt x (n + i) := by
  show (x.toUInt32 >>> ((nI n).toUInt32 &&& Int32.toUInt32 31)).toBitVec.getLsbD i = x.toUInt32.toBitVec.getLsbD (n + i)
  rw [UInt32.toBitVec_shiftRight]
  show (x.toUInt32.toBitVec >>> (((nI n).toUInt32 &&& Int32.toUInt32 31).toBitVec % 32).toNat).getLsbD i = _
  rw [s_u n hn, BitVec.getLsbD_ushiftRight]
theorem b_sshr (n : Nat) (hn : n < 32) (x : Int32) {i : Nat} (hi : i < 32) : bt (x >>> (nI n &&& 31)) i = if n + i < 32 then bt x (n + i) else bt x 31 := by
  unfold bt
  rw [Int32.toBitVec_shiftRight]
  show (x.toBitVec.sshiftRight ((nI n &&& 31).toBitVec.smod 32).toNat).getLsbD i = _
  rw [s_l n hn, BitVec.getLsbD_sshiftRight, BitVec.msb_eq_getLsbD_last]
  simp [hi]
theorem bt_1 (i : Nat) : bt 1 i = decide (i = 0) := by
  rcases Nat.lt_or_ge i 32 with h | h
  · exact (by decide +kernel : ∀ i, i < 32 → bt 1 i = decide (i = 0)) i h
  · rw [b_big h, decide_eq_false (by omega)]
theorem bt_sb (j : Nat) (hj : j < 32) {i : Nat} (hi : i < 32) : bt ((1 : Int32) <<< (nI j &&& 31)) i = decide (i = j) := by
  rw [b_shl j hj 1 hi, bt_1]
  by_cases h : i = j
  · subst h; simp
  · by_cases h2 : j ≤ i
    · simp [h, h2]; omega
    · simp [h, h2]
/-- (set & 1 << j) == 0 -/
theorem ctl {s : Int32} {j : Nat} (hj : j < 32) : (s &&& ((1 : Int32) <<< (nI j &&& 31)) = 0) = (bt s j = false) := by
  apply propext
  constructor
  · intro h
    have h1 : bt (s &&& ((1 : Int32) <<< (nI j &&& 31))) j = false := by rw [h]; exact b_0 j
    rw [b_and, bt_sb j hj hj] at h1
    simpa using h1
  · intro h
    apply b_ext
    intro i hi
    rw [b_and, bt_sb j hj hi, b_0]
    by_cases hij : i = j
    · subst hij; rw [h]; rfl
    · simp [hij]
/-- (set >> j & 1) == 1 -/
theorem ctm {s : Int32} {j : Nat} (hj : j < 32) : ((s >>> (nI j &&& 31)) &&& 1 = 1) = (bt s j = true) := by
  have h0 : bt (s >>> (nI j &&& 31)) 0 = bt s j := by rw [b_sshr j hj s (by omega)]; simp [hj]
  apply propext
  constructor
  · intro h
    have h1 : bt ((s >>> (nI j &&& 31)) &&& 1) 0 = true := by rw [h]; rfl
    rw [b_and, h0] at h1
    simpa [bt_1] using h1
  · intro h
    apply b_ext
    intro i hi
    rw [b_and, bt_1]
    by_cases hi0 : i = 0
    · subst hi0; rw [h0, h]; rfl
    · simp [hi0]
/-- (set >> j & 1) == 0 -/
theorem ctm0 {s : Int32} {j : Nat} (hj : j < 32) : ((s >>> (nI j &&& 31)) &&& 1 = 0) = (bt s j = false) := by
  have h0 : bt (s >>> (nI j &&& 31)) 0 = bt s j := by rw [b_sshr j hj s (by omega)]; simp [hj]
  apply propext
  constructor
  · intro h
    have h1 : bt ((s >>> (nI j &&& 31)) &&& 1) 0 = false := by rw [h]; rfl
    rw [b_and, h0] at h1
    simpa [bt_1] using h1
  · intro h
    apply b_ext
    intro i hi
    rw [b_and, bt_1]
    by_cases hi0 : i = 0
    · subst hi0; rw [h0, h]; rfl
    · simp [hi0, b_0]
/-- a thing as a set: -1 is none -/
def so (t : Int32) : Int32 := if t < 0 then 0 else (1 : Int32) <<< (t &&& 31)
def rm (s t : Int32) : Int32 := s &&& (so t ^^^ (-1))
theorem so_neg {t : Int32} (h : t < 0) : so t = 0 := if_pos h
theorem so_pos {t : Int32} (h : ¬ t < 0) : so t = (1 : Int32) <<< (t &&& 31) := if_neg h
theorem and_m1 (s : Int32) : s &&& (0 ^^^ (-1)) = s := by
  apply b_ext
  intro i hi
  rw [b_and, b_xor, b_0, b_m1 i hi]
  simp
theorem rm_neg {s t : Int32} (h : t < 0) : rm s t = s := by unfold rm; rw [so_neg h, and_m1]
theorem rm_pos {s t : Int32} (h : ¬ t < 0) : rm s t = s &&& (((1 : Int32) <<< (t &&& 31)) ^^^ (-1)) := by unfold rm; rw [so_pos h]
-- numbers of loops
theorem ng16 {j : Nat} (h : j < 16) : ¬ (16 : Int32) ≤ nI j := nI_ge h (by decide)
theorem ge16 : (16 : Int32) ≤ nI 16 := by decide
theorem in_nI {j n : Nat} (h : j < n) (hn : n < 2 ^ 31) : mx_in (nI j) n = true := mx_in_iff.mpr (vp_in_nI h hn)
theorem cl_nI {j n : Nat} (h : j < n) (hn : n < 2 ^ 31) : (nI j).toNatClampNeg = j := nI_clamp (by omega)
theorem nn_nI {j : Nat} (h : j < 2 ^ 31) : ¬ nI j < 0 := nI_pos h
