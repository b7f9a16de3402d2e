/-! FEWEST: the subsets of a set, in their order -/
def dep : Nat → Nat → Nat → Nat
  | 0, _, _ => 0
  | k + 1, m, i => if m % 2 = 1 then i % 2 + 2 * dep k (m / 2) (i / 2) else 2 * dep k (m / 2) i
theorem cntF_s (k m : Nat) : cntF (k + 1) m = m % 2 + cntF k (m / 2) := rfl
theorem pow_odd {k m : Nat} (h : m % 2 = 1) : 2 ^ cntF (k + 1) m = 2 * 2 ^ cntF k (m / 2) := by rw [cntF_s, h, Nat.add_comm, Nat.pow_succ, Nat.mul_comm]
theorem pow_even {k m : Nat} (h : ¬ m % 2 = 1) : 2 ^ cntF (k + 1) m = 2 ^ cntF k (m / 2) := by rw [cntF_s, show m % 2 = 0 by omega, Nat.zero_add]
theorem dep_lt : ∀ (k m i : Nat), dep k m i < 2 ^ k
  | 0, _, _ => Nat.one_pos
  | k + 1, m, i => by
    have h1 := dep_lt k (m / 2) (i / 2)
    have h2 := dep_lt k (m / 2) i
    unfold dep
    rw [Nat.pow_succ]
    split <;> omega
theorem dep_0 : ∀ (k m : Nat), dep k m 0 = 0
  | 0, _ => rfl
  | k + 1, m => by
    have h := dep_0 k (m / 2)
    unfold dep
    rw [show 0 / 2 = 0 from rfl, h]
    split <;> rfl
theorem dep_comp : ∀ (k m i : Nat), m < 2 ^ k → i < 2 ^ cntF k m → dep k m i + dep k m (2 ^ cntF k m - 1 - i) = m
  | 0, m, i, hm, hi => by
    have : m = 0 := by simpa using hm
    subst this
    rfl
  | k + 1, m, i, hm, hi => by
    have hm' : m / 2 < 2 ^ k := by rw [Nat.pow_succ] at hm; omega
    by_cases h : m % 2 = 1
    · rw [pow_odd h] at hi ⊢
      have ih := dep_comp k (m / 2) (i / 2) hm' (by omega)
      unfold dep
      rw [if_pos h, if_pos h, show (2 * 2 ^ cntF k (m / 2) - 1 - i) / 2 = 2 ^ cntF k (m / 2) - 1 - i / 2 by omega]
      omega
    · rw [pow_even h] at hi ⊢
      have ih := dep_comp k (m / 2) i hm' hi
      unfold dep
      rw [if_neg h, if_neg h]
      omega
theorem dep_pos : ∀ (k m i : Nat), i < 2 ^ cntF k m → dep k m i = 0 → i = 0
  | 0, m, i, hi, _ => by
    have : i < 1 := hi
    omega
  | k + 1, m, i, hi, h0 => by
    by_cases h : m % 2 = 1
    · rw [pow_odd h] at hi
      unfold dep at h0
      rw [if_pos h] at h0
      have := dep_pos k (m / 2) (i / 2) (by omega) (by omega)
      omega
    · rw [pow_even h] at hi
      unfold dep at h0
      rw [if_neg h] at h0
      exact dep_pos k (m / 2) i hi (by omega)
theorem and_2 {p q M : Nat} (hq : q < 2) : (2 * p + q) &&& M = 2 * (p &&& M / 2) + (q &&& M % 2) := by
  have h1 := and_mod2 (2 * p + q) M
  have h2 := and_div2 (2 * p + q) M
  rw [show (2 * p + q) / 2 = p by omega] at h2
  rw [show (2 * p + q) % 2 = q by omega] at h1
  have h3 : q &&& M % 2 = if q = 1 ∧ M % 2 = 1 then 1 else 0 := by
    rcases (show q = 0 ∨ q = 1 by omega) with rfl | rfl <;> rcases Nat.mod_two_eq_zero_or_one M with e | e <;> rw [e] <;> rfl
  rw [h3, ← h1, ← h2]
  omega
theorem dep_sub : ∀ (k m i : Nat), dep k m i &&& m = dep k m i
  | 0, m, i => by show 0 &&& m = 0; simp
  | k + 1, m, i => by
    have h1 := dep_sub k (m / 2) (i / 2)
    have h2 := dep_sub k (m / 2) i
    unfold dep
    split
    · rename_i h
      rw [Nat.add_comm, and_2 (by omega), h1, h]
      have : i % 2 &&& 1 = i % 2 := by rcases Nat.mod_two_eq_zero_or_one i with e | e <;> rw [e] <;> rfl
      rw [this]
    · have := and_2 (p := dep k (m / 2) i) (q := 0) (M := m) (by omega)
      rw [Nat.add_zero] at this
      rw [this, h2]
      simp
/-- the next smaller subset -/
theorem dep_down : ∀ (k m i : Nat), i + 1 < 2 ^ cntF k m → (dep k m (i + 1) - 1) &&& m = dep k m i
  | 0, m, i, hi => by
    have : i + 1 < 1 := hi
    omega
  | k + 1, m, i, hi => by
    by_cases h : m % 2 = 1
    · rw [pow_odd h] at hi
      unfold dep
      rw [if_pos h, if_pos h]
      rcases Nat.mod_two_eq_zero_or_one i with e | e
      · rw [show (i + 1) / 2 = i / 2 by omega, show (i + 1) % 2 = 1 by omega, e, show 1 + 2 * dep k (m / 2) (i / 2) - 1 = 2 * dep k (m / 2) (i / 2) + 0 by omega, and_2 (by omega)]
        have hs := dep_sub k (m / 2) (i / 2)
        rw [hs]
        simp
      · have hd : 0 < dep k (m / 2) (i / 2 + 1) := by
          rcases Nat.eq_zero_or_pos (dep k (m / 2) (i / 2 + 1)) with e0 | e0
          · exact absurd (dep_pos k (m / 2) (i / 2 + 1) (by omega) e0) (by omega)
          · exact e0
        have ih := dep_down k (m / 2) (i / 2) (by omega)
        rw [show (i + 1) / 2 = i / 2 + 1 by omega, show (i + 1) % 2 = 0 by omega, e, show 0 + 2 * dep k (m / 2) (i / 2 + 1) - 1 = 2 * (dep k (m / 2) (i / 2 + 1) - 1) + 1 by omega, and_2 (by omega), ih, h]
        show 2 * _ + 1 = 1 + 2 * _
        omega
    · rw [pow_even h] at hi
      have hd : 0 < dep k (m / 2) (i + 1) := by
        rcases Nat.eq_zero_or_pos (dep k (m / 2) (i + 1)) with e0 | e0
        · exact absurd (dep_pos k (m / 2) (i + 1) hi e0) (by omega)
        · exact e0
      have ih := dep_down k (m / 2) i hi
      unfold dep
      rw [if_neg h, if_neg h, show 2 * dep k (m / 2) (i + 1) - 1 = 2 * (dep k (m / 2) (i + 1) - 1) + 1 by omega, and_2 (by omega), ih, show m % 2 = 0 by omega]
      simp
theorem dep_cnt : ∀ (k m i : Nat), cntF k (dep k m i) ≤ cntF k m
  | 0, _, _ => Nat.le_refl 0
  | k + 1, m, i => by
    have h1 := dep_cnt k (m / 2) (i / 2)
    have h2 := dep_cnt k (m / 2) i
    rw [cntF_s, cntF_s]
    unfold dep
    split
    · rename_i h
      rw [show (i % 2 + 2 * dep k (m / 2) (i / 2)) / 2 = dep k (m / 2) (i / 2) by omega]
      omega
    · rw [show 2 * dep k (m / 2) i / 2 = dep k (m / 2) i by omega]
      omega
theorem dep_last {k m : Nat} (hm : m < 2 ^ k) : dep k m (2 ^ cntF k m - 1) = m := by
  have h := dep_comp k m 0 hm (Nat.two_pow_pos _)
  rw [dep_0, Nat.sub_zero, Nat.zero_add] at h
  exact h
/-- the next greater subset, by numbers -/
theorem dep_up {k m i : Nat} (hm : m < 2 ^ k) (hi : i + 1 < 2 ^ cntF k m) : dep k m i < m ∧ dep k m (i + 1) = m - ((m - dep k m i - 1) &&& m) := by
  have h1 := dep_comp k m i hm (by omega)
  have h2 := dep_comp k m (i + 1) hm hi
  have h3 := dep_down k m (2 ^ cntF k m - 1 - (i + 1)) (by omega)
  rw [show 2 ^ cntF k m - 1 - (i + 1) + 1 = 2 ^ cntF k m - 1 - i by omega] at h3
  have h4 : 0 < dep k m (2 ^ cntF k m - 1 - i) := by
    rcases Nat.eq_zero_or_pos (dep k m (2 ^ cntF k m - 1 - i)) with e0 | e0
    · exact absurd (dep_pos k m _ (by omega) e0) (by omega)
    · exact e0
  rw [show m - dep k m i - 1 = dep k m (2 ^ cntF k m - 1 - i) - 1 by omega, h3]
  omega
theorem xor_div2 (a b : Nat) : (a ^^^ b) / 2 = a / 2 ^^^ b / 2 := by
  apply Nat.eq_of_testBit_eq
  intro i
  rw [Nat.testBit_div_two, Nat.testBit_xor, Nat.testBit_xor, Nat.testBit_div_two, Nat.testBit_div_two]
theorem xor_mod2 (a b : Nat) : (a ^^^ b) % 2 = (a % 2 + b % 2) % 2 := by
  have h : (a ^^^ b).testBit 0 = (a.testBit 0 ^^ b.testBit 0) := Nat.testBit_xor a b 0
  simp only [Nat.testBit_zero] at h
  rcases Nat.mod_two_eq_zero_or_one a with ea | ea <;> rcases Nat.mod_two_eq_zero_or_one b with eb | eb <;> rw [ea, eb] at h ⊢ <;> rcases Nat.mod_two_eq_zero_or_one (a ^^^ b) with ec | ec <;> rw [ec] at h ⊢ <;> simp at h
theorem add_xor : ∀ (k m y : Nat), m < 2 ^ k → (y &&& m) + (m ^^^ (y &&& m)) = m
  | 0, m, y, h => by
    have : m = 0 := by simpa using h
    subst this
    simp
  | k + 1, m, y, h => by
    have ih := add_xor k (m / 2) (y / 2) (by rw [Nat.pow_succ] at h; omega)
    have a1 := and_div2 y m
    have a2 := xor_div2 m (y &&& m)
    have a3 := and_mod2 y m
    have a4 := xor_mod2 m (y &&& m)
    rw [a1] at a2
    rw [← a2, ← a1] at ih
    by_cases hh : y % 2 = 1 ∧ m % 2 = 1
    · rw [if_pos hh] at a3; omega
    · rw [if_neg hh] at a3; omega
theorem sub_and {m y : Nat} : m - (y &&& m) = m ^^^ (y &&& m) := by
  have h := add_xor m m y Nat.lt_two_pow_self
  omega
theorem up_I {m x : Nat} (hm : m < 65536) (hx : x < m) : (nI x - nI m) &&& nI m = nI (m - ((m - x - 1) &&& m)) := by
  have e : nI x - nI m = nI (m - x - 1) ^^^ (-1) := by
    have e1 : nI (m - x - 1) ^^^ (-1) = ~~~ nI (m - x - 1) := by
      apply b_ext
      intro i hi
      rw [b_xor, b_m1 i hi, Bool.xor_true]
      unfold bt
      rw [Int32.toBitVec_not, BitVec.getLsbD_not, decide_eq_true hi, Bool.true_and]
    rw [e1, Int32.not_eq_neg_sub]
    apply Int32.toInt_inj.mp
    have a1 := pk_sub_toInt (a := x) (b := m) (by omega) (by omega)
    rw [a1]
    have e2 : -nI (m - x - 1) - 1 = nI 0 - nI (m - x) := by
      obtain ⟨q, hq⟩ : ∃ q, m - x = q + 1 := ⟨m - x - 1, by omega⟩
      rw [hq, Nat.add_sub_cancel, nI_succ, nI_0, Int32.zero_sub, Int32.neg_add, Int32.sub_eq_add_neg]
    rw [e2, pk_sub_toInt (by omega) (by omega)]
    omega
  rw [e, sub_and]
  apply b_ext
  intro i hi
  rw [b_and, b_xor, b_m1 i hi, nI_bt hi, nI_bt hi, nI_bt hi, Nat.testBit_xor, Nat.testBit_and]
  cases m.testBit i <;> cases (m - x - 1).testBit i <;> rfl
theorem down_I {m x : Nat} (h : 0 < x) : (nI x - 1) &&& nI m = nI ((x - 1) &&& m) := by
  obtain ⟨q, rfl⟩ : ∃ q, x = q + 1 := ⟨x - 1, by omega⟩
  rw [nI_pred, nI_land, Nat.add_sub_cancel]
/-! the two searches -/
section
variable (cnt : Nat → Nat) (ok : Nat → Bool)
def fwU : Nat → Nat → Nat → Option Nat → Option Nat
  | 0, _, _, a => a
  | k + 1, j, few, a => if cnt j < few ∧ ok j = true then fwU k (j + 1) (cnt j) (some j) else fwU k (j + 1) few a
def fwC (j : Nat) (a : Option Nat) : Prop := match a with
  | none => True
  | some b => cnt j ≤ cnt b
def fwN (j : Nat) (a : Option Nat) : Option Nat := match a with
  | none => if ok j = true then some j else none
  | some b => if cnt j ≤ cnt b ∧ ok j = true then some j else some b
def fwD : Nat → Option Nat → Option Nat
  | 0, a => a
  | j + 1, a => fwD j (fwN cnt ok j a)
/-- r is the best of those from lo up to hi -/
def fwB (lo hi : Nat) (r : Option Nat) : Prop := match r with
  | none => ∀ i, lo ≤ i → i < hi → ok i = false
  | some b => lo ≤ b ∧ b < hi ∧ ok b = true ∧ ∀ i, lo ≤ i → i < hi → ok i = true → cnt b < cnt i ∨ (cnt b = cnt i ∧ b ≤ i)
theorem fwB_one {lo hi : Nat} {r s : Option Nat} (h1 : fwB cnt ok lo hi r) (h2 : fwB cnt ok lo hi s) : r = s := by
  cases r with
  | none =>
    cases s with
    | none => rfl
    | some b =>
      have x := h1 b h2.1 h2.2.1
      have y := h2.2.2.1
      rw [x] at y
      exact absurd y (by decide)
  | some a =>
    cases s with
    | none =>
      have x := h2 a h1.1 h1.2.1
      have y := h1.2.2.1
      rw [x] at y
      exact absurd y (by decide)
    | some b =>
      have x := h1.2.2.2 b h2.1 h2.2.1 h2.2.2.1
      have y := h2.2.2.2 a h1.1 h1.2.1 h1.2.2.1
      have : a = b := by omega
      rw [this]
theorem fwU_ok {c : Nat} : ∀ (k j few : Nat) (a : Option Nat), (∀ i, i < j + k → cnt i < c) → fwB cnt ok 0 j a → (match a with | none => few = c | some b => few = cnt b) → fwB cnt ok 0 (j + k) (fwU cnt ok k j few a)
  | 0, j, few, a, _, h, _ => h
  | k + 1, j, few, a, hc, h, hf => by
    unfold fwU
    rw [show j + (k + 1) = j + 1 + k by omega]
    have hcj := hc j (by omega)
    split
    · rename_i hh
      refine fwU_ok k (j + 1) (cnt j) (some j) (fun i hi => hc i (by omega)) ⟨by omega, by omega, hh.2, fun i _ hi ho => ?_⟩ rfl
      by_cases e : i = j
      · subst e; exact Or.inr ⟨rfl, Nat.le_refl _⟩
      · cases a with
        | none => rw [h i (by omega) (by omega)] at ho; exact absurd ho (by decide)
        | some b =>
          have := h.2.2.2 i (by omega) (by omega) ho
          have hf' : few = cnt b := hf
          omega
    · rename_i hh
      refine fwU_ok k (j + 1) few a (fun i hi => hc i (by omega)) ?_ hf
      cases a with
      | none =>
        intro i _ hi
        by_cases e : i = j
        · subst e
          have hf' : few = c := hf
          cases ho : ok i
          · rfl
          · exact absurd ⟨by omega, ho⟩ hh
        · exact h i (by omega) (by omega)
      | some b =>
        refine ⟨h.1, by have := h.2.1; omega, h.2.2.1, fun i _ hi ho => ?_⟩
        by_cases e : i = j
        · subst e
          have hf' : few = cnt b := hf
          have hb := h.2.1
          have : ¬ cnt i < few := fun q => hh ⟨q, ho⟩
          omega
        · exact h.2.2.2 i (by omega) (by omega) ho
theorem fwD_ok {N : Nat} : ∀ (j : Nat) (a : Option Nat), j ≤ N → fwB cnt ok j N a → fwB cnt ok 0 N (fwD cnt ok j a)
  | 0, _, _, h => h
  | j + 1, a, hj, h => by
    refine fwD_ok j _ (by omega) ?_
    unfold fwN
    cases a with
    | none =>
      dsimp only
      cases ho : ok j
      · intro i hi hN
        by_cases e : i = j
        · subst e; exact ho
        · exact h i (by omega) hN
      · refine ⟨by omega, by omega, ho, fun i hi hN hoi => ?_⟩
        by_cases e : i = j
        · subst e; exact Or.inr ⟨rfl, Nat.le_refl _⟩
        · rw [h i (by omega) hN] at hoi; exact absurd hoi (by decide)
    | some b =>
      dsimp only
      split
      · rename_i hh
        refine ⟨by omega, by omega, hh.2, fun i hi hN hoi => ?_⟩
        by_cases e : i = j
        · subst e; exact Or.inr ⟨rfl, Nat.le_refl _⟩
        · have := h.2.2.2 i (by omega) hN hoi
          have := hh.1
          omega
      · rename_i hh
        refine ⟨by have := h.1; omega, h.2.1, h.2.2.1, fun i hi hN hoi => ?_⟩
        by_cases e : i = j
        · subst e
          have hb := h.1
          have : ¬ cnt i ≤ cnt b := fun q => hh ⟨q, hoi⟩
          omega
        · exact h.2.2.2 i (by omega) hN hoi
theorem fw_same {c N : Nat} (hc : ∀ i, i < N → cnt i < c) : fwU cnt ok N 0 c none = fwD cnt ok N none := by
  have h1 := fwU_ok cnt ok N 0 c none (by rw [Nat.zero_add]; exact hc) (fun i _ hi => absurd hi (by omega)) rfl
  rw [Nat.zero_add] at h1
  exact fwB_one cnt ok h1 (fwD_ok cnt ok N none (Nat.le_refl _) (fun i h1 h2 => absurd h1 (by omega)))
end
