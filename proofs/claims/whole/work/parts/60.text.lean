/-! THE TEXT: its tokens -/
def isSp (x : Int32) : Bool := decide (x = 32)
def isLt (x : Int32) : Bool := wi x 97 122
def isDg (x : Int32) : Bool := wi x 48 57
/-- behind a run of bytes of one kind -/
def rnL (P : Int32 → Bool) (t : Nat → Int32) : Nat → Nat → Nat
  | 0, q => q
  | k + 1, q => if P (t q) = true then rnL P t k (q + 1) else q
def nmL (t : Nat → Int32) : Nat → Nat → Nat → Nat
  | 0, _, v => v
  | k + 1, q, v => if isDg (t q) = true then nmL t k (q + 1) (min (10 * v + ((t q).toNatClampNeg - 48)) 1000) else v
def mvL (t : Nat → Int32) : Nat → Nat → Nat → Nat
  | 0, _, v => v
  | k + 1, q, v => if isDg (t q) = true then mvL t k (q + 1) (if 999 < v then 10000 else 10 * v + ((t q).toNatClampNeg - 48)) else v
/-- the letters of a word as numbers, the last first -/
def rlF (f : Nat → Int32) (s : Nat) : Nat → List Nat
  | 0 => []
  | n + 1 => ((f (s + n)).toNatClampNeg - 96) :: rlF f s n
def hr : List Nat → Nat
  | [] => 0
  | d :: l => d + 27 * hr l
def wdB (a j : Nat) : Int32 := (mx_byt.getD a []).getD j 0
def wdN (a : Nat) : Nat := (mx_byt.getD a []).length
def wdR (a : Nat) : List Nat := rlF (wdB a) 0 (wdN a)
theorem rnL_le {P : Int32 → Bool} {t : Nat → Int32} : ∀ (k q : Nat), q ≤ rnL P t k q ∧ rnL P t k q ≤ q + k
  | 0, q => ⟨Nat.le_refl _, Nat.le_refl _⟩
  | k + 1, q => by
    have h := rnL_le (P := P) (t := t) k (q + 1)
    unfold rnL
    split <;> omega
theorem rnL_all {P : Int32 → Bool} {t : Nat → Int32} : ∀ (k q j : Nat), q ≤ j → j < rnL P t k q → P (t j) = true
  | 0, q, j, h1, h2 => absurd h2 (by unfold rnL; omega)
  | k + 1, q, j, h1, h2 => by
    unfold rnL at h2
    split at h2
    · rename_i hp
      by_cases e : j = q
      · subst e; exact hp
      · exact rnL_all k (q + 1) j (by omega) h2
    · omega
theorem rnL_one {P : Int32 → Bool} {t : Nat → Int32} {k q : Nat} (h : P (t q) = true) (hk : 0 < k) : q + 1 ≤ rnL P t k q := by
  obtain ⟨j, rfl⟩ : ∃ j, k = j + 1 := ⟨k - 1, by omega⟩
  unfold rnL
  rw [if_pos h]
  exact (rnL_le j (q + 1)).1
theorem mv_nm {t : Nat → Int32} : ∀ (k q v : Nat), min (mvL t k q v) 1000 = nmL t k q (min v 1000)
  | 0, _, _ => rfl
  | k + 1, q, v => by
    unfold mvL nmL
    split
    · rw [mv_nm k (q + 1)]
      congr 1
      split <;> omega
    · rfl
theorem hr_inj : ∀ (l1 l2 : List Nat), (∀ d ∈ l1, 1 ≤ d ∧ d ≤ 26) → (∀ d ∈ l2, 1 ≤ d ∧ d ≤ 26) → hr l1 = hr l2 → l1 = l2
  | [], [], _, _, _ => rfl
  | [], d :: l, _, h2, h => by
    have h3 := h2 d List.mem_cons_self
    unfold hr at h
    unfold hr at h
    omega
  | d :: l, [], h1, _, h => by
    have h3 := h1 d List.mem_cons_self
    unfold hr at h
    unfold hr at h
    omega
  | d :: l, e :: m, h1, h2, h => by
    have h3 := h1 d List.mem_cons_self
    have h4 := h2 e List.mem_cons_self
    have h' : d + 27 * hr l = e + 27 * hr m := h
    have hd : d = e := by omega
    have hl := hr_inj l m (fun x hx => h1 x (List.mem_cons_of_mem _ hx)) (fun x hx => h2 x (List.mem_cons_of_mem _ hx)) (by omega)
    rw [hd, hl]
theorem rlF_len {f : Nat → Int32} {s : Nat} : ∀ n, (rlF f s n).length = n
  | 0 => rfl
  | n + 1 => by show (rlF f s n).length + 1 = n + 1; rw [rlF_len n]
theorem isLt_n {x : Int32} (h : isLt x = true) : ∃ b, 97 ≤ b ∧ b ≤ 122 ∧ x = nI b := by
  unfold isLt at h
  rcases wiG x (lo := 97) (hi := 122) (by decide) (by decide) with e | ⟨_, b, h1, h2, h3⟩
  · rw [show wi x 97 122 = false from e] at h; exact absurd h (by decide)
  · exact ⟨b, h1, h2, h3⟩
theorem isDg_n {x : Int32} (h : isDg x = true) : ∃ b, 48 ≤ b ∧ b ≤ 57 ∧ x = nI b := by
  unfold isDg at h
  rcases wiG x (lo := 48) (hi := 57) (by decide) (by decide) with e | ⟨_, b, h1, h2, h3⟩
  · rw [show wi x 48 57 = false from e] at h; exact absurd h (by decide)
  · exact ⟨b, h1, h2, h3⟩
theorem rlF_mem {f : Nat → Int32} {s : Nat} : ∀ n, (∀ j, j < n → isLt (f (s + j)) = true) → ∀ d ∈ rlF f s n, 1 ≤ d ∧ d ≤ 26
  | 0, _, d, hd => absurd hd List.not_mem_nil
  | n + 1, h, d, hd => by
    rcases List.mem_cons.mp hd with e | e
    · obtain ⟨b, h1, h2, h3⟩ := isLt_n (h n (by omega))
      rw [h3, nI_clamp (by omega)] at e
      omega
    · exact rlF_mem n (fun j hj => h j (by omega)) d e
theorem hr_lt : ∀ (l : List Nat), (∀ d ∈ l, 1 ≤ d ∧ d ≤ 26) → hr l < 27 ^ l.length
  | [], _ => by decide
  | d :: l, h => by
    have h1 := hr_lt l (fun x hx => h x (List.mem_cons_of_mem _ hx))
    have h2 := h d List.mem_cons_self
    show d + 27 * hr l < 27 ^ (l.length + 1)
    rw [Nat.pow_succ]
    omega
/-- the same letters, the same numbers -/
theorem rlF_eq {f g : Nat → Int32} {s u : Nat} : ∀ n, (∀ j, j < n → isLt (f (s + j)) = true) → (∀ j, j < n → isLt (g (u + j)) = true) → (rlF f s n = rlF g u n ↔ ∀ j, j < n → f (s + j) = g (u + j))
  | 0, _, _ => ⟨fun _ j hj => absurd hj (by omega), fun _ => rfl⟩
  | n + 1, h1, h2 => by
    have ih := rlF_eq (f := f) (g := g) (s := s) (u := u) n (fun j hj => h1 j (by omega)) (fun j hj => h2 j (by omega))
    obtain ⟨b, b1, b2, b3⟩ := isLt_n (h1 n (by omega))
    obtain ⟨c, c1, c2, c3⟩ := isLt_n (h2 n (by omega))
    constructor
    · intro h j hj
      have h' : ((f (s + n)).toNatClampNeg - 96) :: rlF f s n = ((g (u + n)).toNatClampNeg - 96) :: rlF g u n := h
      rw [List.cons.injEq] at h'
      by_cases e : j = n
      · subst e
        have h3 := h'.1
        rw [b3, c3, nI_clamp (by omega), nI_clamp (by omega)] at h3
        rw [b3, c3, show b = c by omega]
      · exact ih.mp h'.2 j (by omega)
    · intro h
      show ((f (s + n)).toNatClampNeg - 96) :: rlF f s n = ((g (u + n)).toNatClampNeg - 96) :: rlF g u n
      rw [h n (by omega), ih.mpr (fun j hj => h j (by omega))]
theorem wd_lt : ∀ a, a < 11 → ∀ j, j < wdN a → isLt (wdB a (0 + j)) = true := by decide +kernel
theorem wd_n : ∀ a, a < 11 → wdN a ≤ 9 := by decide +kernel
theorem wd_h : ∀ a, a < 11 → hr (wdR a) < 2 ^ 62 := by decide +kernel
theorem wd_m : ∀ a, a < 11 → ¬ (-1 : Int64) = lN (hr (wdR a)) := by decide +kernel
theorem wd_c : ∀ a, a < 11 → ∀ j, j < wdN a → ((wdB a j &&& 255).toUInt32 % 65536).toInt32 = wdB a j ∧ narrow .char (.int (wdB a j)) = .int (wdB a j) := by decide +kernel
section
variable (t : Nat → Int32) (L : Nat)
def sk (q : Nat) : Nat := rnL isSp t (L - q) q
def kd (q : Nat) : Nat := if L ≤ sk t L q then 0 else if isLt (t (sk t L q)) = true then 1 else if isDg (t (sk t L q)) = true then 2 else if t (sk t L q) = 59 then 3 else 4
def en (q : Nat) : Nat := if L ≤ sk t L q then sk t L q else if isLt (t (sk t L q)) = true then rnL isLt t (L - sk t L q) (sk t L q) else if isDg (t (sk t L q)) = true then rnL isDg t (L - sk t L q) (sk t L q) else sk t L q + 1
def nm (q : Nat) : Nat := nmL t (L - sk t L q) (sk t L q) 0
def mv (q : Nat) : Nat := mvL t (L - sk t L q) (sk t L q) 0
def isW (a q : Nat) : Bool := decide (kd t L q = 1 ∧ rlF t (sk t L q) (en t L q - sk t L q) = wdR a)
def isN (q m : Nat) : Bool := decide (kd t L q = 2 ∧ nm t L q ≤ m)
end
section
variable {t : Nat → Int32} {L q : Nat}
theorem sk_le (h : q ≤ L) : q ≤ sk t L q ∧ sk t L q ≤ L := by
  have := rnL_le (P := isSp) (t := t) (L - q) q
  unfold sk
  omega
theorem en_le (h : q ≤ L) : sk t L q ≤ en t L q ∧ en t L q ≤ L := by
  have h1 := sk_le (t := t) h
  have h2 := rnL_le (P := isLt) (t := t) (L - sk t L q) (sk t L q)
  have h3 := rnL_le (P := isDg) (t := t) (L - sk t L q) (sk t L q)
  unfold en
  split
  · omega
  · split
    · omega
    · split <;> omega
theorem en_gt (h : q ≤ L) (hk : kd t L q ≠ 0) : q + 1 ≤ en t L q := by
  have h1 := sk_le (t := t) h
  unfold kd at hk
  unfold en
  split
  · rename_i h2; rw [if_pos h2] at hk; exact absurd rfl hk
  · split
    · rename_i h2 h3
      have := rnL_one (P := isLt) (t := t) (k := L - sk t L q) h3 (by omega)
      omega
    · split
      · rename_i h2 h3 h4
        have := rnL_one (P := isDg) (t := t) (k := L - sk t L q) h4 (by omega)
        omega
      · omega
theorem kd1_let (hk : kd t L q = 1) : ∀ j, j < en t L q - sk t L q → isLt (t (sk t L q + j)) = true := by
  intro j hj
  unfold kd at hk
  split at hk
  · exact absurd hk (by decide)
  · rename_i h1
    split at hk
    · rename_i h2
      unfold en at hj
      rw [if_neg h1, if_pos h2] at hj
      exact rnL_all (L - sk t L q) (sk t L q) _ (by omega) (by omega)
    · split at hk
      · exact absurd hk (by decide)
      · split at hk <;> exact absurd hk (by decide)
theorem kd_end (h : L ≤ q) : kd t L q = 0 := by
  unfold kd sk
  rw [show L - q = 0 by omega]
  exact if_pos h
/-- the model's hash of n letters -/
def wv (t : Nat → Int32) (s n : Nat) : Int64 := if n ≤ 12 then lN (hr (rlF t s n)) else -1
theorem wv_iff {s n a : Nat} (ha : a < 11) (hl : ∀ j, j < n → isLt (t (s + j)) = true) : wv t s n = lN (hr (wdR a)) ↔ rlF t s n = wdR a := by
  have hw := wd_n a ha
  have hwm : ∀ d ∈ wdR a, 1 ≤ d ∧ d ≤ 26 := rlF_mem (wdN a) (wd_lt a ha)
  unfold wv
  split
  · rename_i hn
    have hm := rlF_mem n hl
    have h1 : hr (rlF t s n) < 2 ^ 62 := by
      have := hr_lt _ hm
      rw [rlF_len] at this
      exact Nat.lt_of_lt_of_le this (Nat.le_trans (Nat.pow_le_pow_right (by decide) hn) (by decide))
    have h2 := wd_h a ha
    rw [pk_lEQ (by omega) (by omega)]
    exact ⟨hr_inj _ _ hm hwm, fun e => by rw [e]⟩
  · rename_i hn
    constructor
    · intro e; exact absurd e (wd_m a ha)
    · intro e
      have := congrArg List.length e
      unfold wdR at this
      rw [rlF_len, rlF_len] at this
      omega
end
/-! THE GRAMMAR -/
section
variable (t : Nat → Int32) (L : Nat)
def pNum (a m : Nat) (df : Int32) (q : Nat) : Option Int32 × Nat := if isW t L a q = true then (if isN t L (en t L q) m = true then (some (nI (nm t L (en t L q))), en t L (en t L q)) else (none, en t L q)) else (some df, q)
def thL : Nat → Nat → Nat → Int32 → Option Int32 × Nat
  | 0, _, q, s => (some s, q)
  | k + 1, i, q, s => if kd t L q = 2 then (if isN t L q 15 = true then thL k (i + 1) (en t L q) (s ||| so (nI (nm t L q))) else (none, q)) else (if 0 < i then (some s, q) else (none, q))
def pHav (q : Nat) : Option Int32 × Nat := if isW t L 7 q = true then thL t L 4 0 (en t L q) 0 else (some 0, q)
def pPer (k : Int32) (q : Nat) (F : Fam) : Option Fam × Nat := if gn F < 8 then (match pNum t L 6 70 0 (en t L q) with
  | (none, r) => (none, r)
  | (some a, r) => match pHav t L r with
    | (none, r) => (none, r)
    | (some s, r) => match pNum t L 8 (gn F).toNatClampNeg (-1) r with
      | (none, r) => (none, r)
      | (some c, r) => (some (addF F (gn F).toNatClampNeg k a s c), r)) else (none, q)
def pWor (q : Nat) (F : Fam) : Option Fam × Nat := if isN t L (en t L q) 15 = true then (if isN t L (en t L (en t L q)) 99 = true then (some (ww F (upd (gw F) (nm t L (en t L q)) (nI (nm t L (en t L (en t L q)))))), en t L (en t L (en t L q))) else (none, en t L (en t L q))) else (none, en t L q)
def pBur (q : Nat) (F : Fam) : Option Fam × Nat := if isN t L (en t L q) 15 = true then (some (wb F (gb F ||| so (nI (nm t L (en t L q))))), en t L (en t L q)) else (none, en t L q)
def kn (q : Nat) : Option Nat := if isW t L 0 q = true then some 0 else if isW t L 1 q = true then some 1 else if isW t L 2 q = true then some 2 else if isW t L 3 q = true then some 3 else if isW t L 4 q = true then some 4 else if isW t L 5 q = true then some 5 else none
def pItm (q : Nat) (F : Fam) : Option Fam × Nat := match kn t L q with
  | some k => pPer t L (nI k) q F
  | none => if isW t L 9 q = true then pWor t L q F else if isW t L 10 q = true then pBur t L q F else (none, q)
def txL : Nat → Nat → Nat → Fam → Int32 × Option Fam
  | 0, _, q, _ => (-1 - nI (sk t L q), none)
  | k + 1, n, q, F => match pItm t L q F with
    | (none, r) => (-1 - nI (sk t L r), none)
    | (some G, r) => if kd t L r = 0 then (nI n, some G) else if kd t L r = 3 then txL k (n + 1) (en t L r) G else (-1 - nI (sk t L r), none)
end
def o_family (A : AS) : Int32 × AS := match txL (aT A) (aL A) 120 1 0 (aF A) with
  | (v, none) => (v, sT A (aT A) 0)
  | (v, some G) => (v, sT (sF A G) (aT A) 0)
section
variable {t : Nat → Int32} {L q : Nat} {F : Fam}
theorem isW_k {a : Nat} (h : isW t L a q = true) : kd t L q = 1 := (of_decide_eq_true h).1
theorem isN_k {m : Nat} (h : isN t L q m = true) : kd t L q = 2 ∧ nm t L q ≤ m := of_decide_eq_true h
theorem en_q (h : q ≤ L) : q ≤ en t L q ∧ en t L q ≤ L := by
  have h1 := sk_le (t := t) h
  have h2 := en_le (t := t) h
  omega
theorem pNum_le {a m : Nat} {df : Int32} (h : q ≤ L) : q ≤ (pNum t L a m df q).2 ∧ (pNum t L a m df q).2 ≤ L := by
  have h1 := en_q (t := t) h
  have h2 := en_q (t := t) (q := en t L q) h1.2
  unfold pNum
  split
  · split <;> (dsimp only; omega)
  · dsimp only; omega
theorem thL_le : ∀ (k i q : Nat) (s : Int32), q ≤ L → q ≤ (thL t L k i q s).2 ∧ (thL t L k i q s).2 ≤ L
  | 0, _, q, s, h => ⟨Nat.le_refl _, h⟩
  | k + 1, i, q, s, h => by
    have h1 := en_q (t := t) h
    have ih := thL_le k (i + 1) (en t L q) (s ||| so (nI (nm t L q))) h1.2
    unfold thL
    split
    · split
      · omega
      · dsimp only; omega
    · split <;> (dsimp only; omega)
theorem pHav_le (h : q ≤ L) : q ≤ (pHav t L q).2 ∧ (pHav t L q).2 ≤ L := by
  have h1 := en_q (t := t) h
  have h2 := thL_le (t := t) 4 0 (en t L q) 0 h1.2
  unfold pHav
  split
  · omega
  · dsimp only; omega
theorem pNum_ok {a m : Nat} {df v : Int32} {r : Nat} (e : pNum t L a m df q = (some v, r)) : v = df ∨ ∃ n, n ≤ m ∧ v = nI n := by
  unfold pNum at e
  split at e
  · split at e
    · rename_i h2
      have := (Prod.mk.inj e).1
      exact Or.inr ⟨_, (isN_k h2).2, (Option.some.inj this).symm⟩
    · exact absurd (Prod.mk.inj e).1 (by simp)
  · exact Or.inl (Option.some.inj (Prod.mk.inj e).1).symm
theorem thL_ok : ∀ (k i q : Nat) (s v : Int32) (r : Nat), nlt 65536 s → thL t L k i q s = (some v, r) → nlt 65536 v
  | 0, _, q, s, v, r, hs, e => by
    have : s = v := Option.some.inj (Prod.mk.inj e).1
    rw [← this]; exact hs
  | k + 1, i, q, s, v, r, hs, e => by
    unfold thL at e
    split at e
    · split at e
      · rename_i h2
        exact thL_ok k (i + 1) _ _ v r (nlt_or hs (nlt_so (Or.inr ⟨_, by have := (isN_k h2).2; omega, rfl⟩))) e
      · exact absurd (Prod.mk.inj e).1 (by simp)
    · split at e
      · have : s = v := Option.some.inj (Prod.mk.inj e).1
        rw [← this]; exact hs
      · exact absurd (Prod.mk.inj e).1 (by simp)
theorem pHav_ok {v : Int32} {r : Nat} (e : pHav t L q = (some v, r)) : nlt 65536 v := by
  unfold pHav at e
  split at e
  · exact thL_ok 4 0 _ 0 v r ⟨0, by decide, rfl⟩ e
  · have : 0 = v := Option.some.inj (Prod.mk.inj e).1
    rw [← this]; exact ⟨0, by decide, rfl⟩
theorem pPer_ok {k : Nat} {G : Fam} {r : Nat} (hF : FI F) (hk : k < 6) (e : pPer t L (nI k) q F = (some G, r)) : FI G := by
  obtain ⟨n, hn, hg⟩ := hF.n
  unfold pPer at e
  split at e
  · rename_i h8
    have hn8 : n < 8 := by rw [hg] at h8; exact (nI_ltI (by omega) (show 8 < 2 ^ 31 by decide)).mp h8
    rw [hg, nI_clamp (by omega)] at e
    cases e1 : pNum t L 6 70 0 (en t L q) with
    | mk o1 r1 =>
      cases o1 with
      | none => rw [e1] at e; exact absurd (Prod.mk.inj e).1 (by simp)
      | some a =>
        rw [e1] at e
        dsimp only at e
        cases e2 : pHav t L r1 with
        | mk o2 r2 =>
          cases o2 with
          | none => rw [e2] at e; exact absurd (Prod.mk.inj e).1 (by simp)
          | some s =>
            rw [e2] at e
            dsimp only at e
            cases e3 : pNum t L 8 n (-1) r2 with
            | mk o3 r3 =>
              cases o3 with
              | none => rw [e3] at e; exact absurd (Prod.mk.inj e).1 (by simp)
              | some c =>
                rw [e3] at e
                have he := Option.some.inj (Prod.mk.inj e).1
                rw [← he]
                obtain ⟨sn, hs, rfl⟩ := pHav_ok e2
                have hc : csOk c := by
                  rcases pNum_ok e3 with h | ⟨m, h1, h2⟩
                  · exact Or.inl h
                  · exact Or.inr ⟨m, by omega, h2⟩
                rcases pNum_ok e1 with rfl | ⟨m, h1, rfl⟩
                · exact add_ok hF hn8 hk (a := 0) (by decide) hs hc
                · exact add_ok hF hn8 hk (by omega) hs hc
  · exact absurd (Prod.mk.inj e).1 (by simp)
theorem pPer_le {k : Int32} (h : q ≤ L) : q ≤ (pPer t L k q F).2 ∧ (pPer t L k q F).2 ≤ L := by
  have h1 := en_q (t := t) h
  unfold pPer
  split
  · have h2 := pNum_le (t := t) (L := L) (q := en t L q) (a := 6) (m := 70) (df := 0) h1.2
    cases e1 : pNum t L 6 70 0 (en t L q) with
    | mk o1 r1 =>
      rw [e1] at h2
      dsimp only at h2
      cases o1 with
      | none => dsimp only; omega
      | some a =>
        dsimp only
        have h3 := pHav_le (t := t) (L := L) (q := r1) h2.2
        cases e2 : pHav t L r1 with
        | mk o2 r2 =>
          rw [e2] at h3
          dsimp only at h3
          cases o2 with
          | none => dsimp only; omega
          | some s =>
            dsimp only
            have h4 := pNum_le (t := t) (L := L) (q := r2) (a := 8) (m := (gn F).toNatClampNeg) (df := -1) h3.2
            cases e3 : pNum t L 8 (gn F).toNatClampNeg (-1) r2 with
            | mk o3 r3 =>
              rw [e3] at h4
              dsimp only at h4
              cases o3 <;> (dsimp only; omega)
  · dsimp only; omega
theorem kn_lt {k : Nat} (h : kn t L q = some k) : k < 6 ∧ isW t L k q = true := by
  unfold kn at h
  split at h
  · rename_i e; cases h; exact ⟨by decide, e⟩
  split at h
  · rename_i e; cases h; exact ⟨by decide, e⟩
  split at h
  · rename_i e; cases h; exact ⟨by decide, e⟩
  split at h
  · rename_i e; cases h; exact ⟨by decide, e⟩
  split at h
  · rename_i e; cases h; exact ⟨by decide, e⟩
  split at h
  · rename_i e; cases h; exact ⟨by decide, e⟩
  · exact absurd h (by simp)
theorem pItm_ok {G : Fam} {r : Nat} (hF : FI F) (e : pItm t L q F = (some G, r)) : FI G := by
  unfold pItm at e
  cases ek : kn t L q with
  | some k => rw [ek] at e; exact pPer_ok hF (kn_lt ek).1 e
  | none =>
    rw [ek] at e
    dsimp only at e
    split at e
    · unfold pWor at e
      split at e
      · rename_i h1
        split at e
        · rename_i h2
          have := Option.some.inj (Prod.mk.inj e).1
          rw [← this]
          have a1 := (isN_k h1).2
          have a2 := (isN_k h2).2
          exact hF.ww (hF.w.upd (by omega) ⟨_, by omega, rfl⟩)
        · exact absurd (Prod.mk.inj e).1 (by simp)
      · exact absurd (Prod.mk.inj e).1 (by simp)
    · split at e
      · unfold pBur at e
        split at e
        · have := Option.some.inj (Prod.mk.inj e).1
          rw [← this]
          exact hF.wb
        · exact absurd (Prod.mk.inj e).1 (by simp)
      · exact absurd (Prod.mk.inj e).1 (by simp)
theorem pItm_le (h : q ≤ L) : q ≤ (pItm t L q F).2 ∧ (pItm t L q F).2 ≤ L := by
  have h1 := en_q (t := t) h
  have h2 := en_q (t := t) (q := en t L q) h1.2
  have h3 := en_q (t := t) (q := en t L (en t L q)) h2.2
  unfold pItm
  cases ek : kn t L q with
  | some k => exact pPer_le h
  | none =>
    dsimp only
    split
    · unfold pWor
      split
      · split <;> (dsimp only; omega)
      · dsimp only; omega
    · split
      · unfold pBur
        split <;> (dsimp only; omega)
      · dsimp only; omega
theorem pItm_end (h : L ≤ q) : pItm t L q F = (none, q) := by
  have hk := kd_end (t := t) h
  have hw : ∀ a, isW t L a q = false := fun a => by
    unfold isW
    rw [hk]
    simp
  unfold pItm kn
  simp [hw]
theorem txL_0 {n : Nat} : txL t L 0 n q F = (-1 - nI (sk t L q), none) := rfl
theorem txL_s {k n : Nat} : txL t L (k + 1) n q F = (match pItm t L q F with
    | (none, r) => (-1 - nI (sk t L r), none)
    | (some G, r) => if kd t L r = 0 then (nI n, some G) else if kd t L r = 3 then txL t L k (n + 1) (en t L r) G else (-1 - nI (sk t L r), none)) := rfl
theorem txL_ok (k : Nat) : ∀ (n q : Nat) (F G : Fam) (v : Int32), FI F → txL t L k n q F = (v, some G) → FI G := by
  induction k with
  | zero =>
    intro n q F G v _ e
    rw [txL_0] at e
    exact absurd (Prod.mk.inj e).2 (by simp)
  | succ k ih =>
    intro n q F G v hF e
    rw [txL_s] at e
    cases e1 : pItm t L q F with
    | mk o r =>
      rw [e1] at e
      cases o with
      | none => exact absurd (Prod.mk.inj e).2 (by simp)
      | some G1 =>
        dsimp only at e
        have hG := pItm_ok hF e1
        split at e
        · rw [← Option.some.inj (Prod.mk.inj e).2]; exact hG
        · split at e
          · exact ih (n + 1) _ _ _ _ hG e
          · exact absurd (Prod.mk.inj e).2 (by simp)
end
