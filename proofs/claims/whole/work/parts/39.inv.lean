/-! WHAT HOLDS OF EVERY FAMILY -/
def nlt (k : Nat) (x : Int32) : Prop := ∃ m, m < k ∧ x = nI m
def AL (n : Nat) (P : Int32 → Prop) (f : Nat → Int32) : Prop := (∀ i, i < n → P (f i)) ∧ ∀ i, n ≤ i → f i = 0
theorem AL.upd {n : Nat} {P : Int32 → Prop} {f : Nat → Int32} {i : Nat} {v : Int32} (h : AL n P f) (hi : i < n) (hv : P v) : AL n P (upd f i v) := by
  refine ⟨fun j hj => ?_, fun j hj => ?_⟩
  · by_cases e : j = i
    · subst e; rw [pk_us]; exact hv
    · rw [pk_un e]; exact h.1 j hj
  · rw [pk_un (by omega)]; exact h.2 j hj
def FI (F : Fam) : Prop := nlt 9 (gn F) ∧ AL 16 (nlt 100) (gw F) ∧ AL 8 (nlt 6) (gk F) ∧ AL 8 (nlt 71) (ga F) ∧ AL 8 (nlt 65536) (gp F) ∧ AL 8 csOk (gc F) ∧ AL 8 (nlt 1000) (gl F)
theorem FI.n {F : Fam} (h : FI F) : nlt 9 (gn F) := h.1
theorem FI.w {F : Fam} (h : FI F) : AL 16 (nlt 100) (gw F) := h.2.1
theorem FI.k {F : Fam} (h : FI F) : AL 8 (nlt 6) (gk F) := h.2.2.1
theorem FI.a {F : Fam} (h : FI F) : AL 8 (nlt 71) (ga F) := h.2.2.2.1
theorem FI.p {F : Fam} (h : FI F) : AL 8 (nlt 65536) (gp F) := h.2.2.2.2.1
theorem FI.c {F : Fam} (h : FI F) : AL 8 csOk (gc F) := h.2.2.2.2.2.1
theorem FI.l {F : Fam} (h : FI F) : AL 8 (nlt 1000) (gl F) := h.2.2.2.2.2.2
theorem FI.wn {F : Fam} (h : FI F) {v : Int32} (hv : nlt 9 v) : FI (wn F v) := ⟨hv, h.2⟩
theorem FI.wb {F : Fam} (h : FI F) {v : Int32} : FI (wb F v) := h
theorem FI.wy {F : Fam} (h : FI F) {v : Int32} : FI (wy F v) := h
theorem FI.ww {F : Fam} (h : FI F) {f : Nat → Int32} (hf : AL 16 (nlt 100) f) : FI (ww F f) := ⟨h.1, hf, h.2.2⟩
theorem FI.wk {F : Fam} (h : FI F) {f : Nat → Int32} (hf : AL 8 (nlt 6) f) : FI (wk F f) := ⟨h.1, h.2.1, hf, h.2.2.2⟩
theorem FI.wa {F : Fam} (h : FI F) {f : Nat → Int32} (hf : AL 8 (nlt 71) f) : FI (wa F f) := ⟨h.1, h.2.1, h.2.2.1, hf, h.2.2.2.2⟩
theorem FI.wp {F : Fam} (h : FI F) {f : Nat → Int32} (hf : AL 8 (nlt 65536) f) : FI (wp F f) := ⟨h.1, h.2.1, h.2.2.1, h.2.2.2.1, hf, h.2.2.2.2.2⟩
theorem FI.wc {F : Fam} (h : FI F) {f : Nat → Int32} (hf : AL 8 csOk f) : FI (wc F f) := ⟨h.1, h.2.1, h.2.2.1, h.2.2.2.1, h.2.2.2.2.1, hf, h.2.2.2.2.2.2⟩
theorem FI.wl {F : Fam} (h : FI F) {f : Nat → Int32} (hf : AL 8 (nlt 1000) f) : FI (wl F f) := ⟨h.1, h.2.1, h.2.2.1, h.2.2.2.1, h.2.2.2.2.1, h.2.2.2.2.2.1, hf⟩
theorem nlt_and {s t : Int32} (h : nlt 65536 s) : nlt 65536 (s &&& t) := by
  obtain ⟨k, hk, rfl⟩ := h
  refine ⟨(nI k &&& t).toBitVec.toNat, ?_, ?_⟩
  · rw [Int32.toBitVec_and, BitVec.toNat_and]
    refine Nat.lt_of_le_of_lt Nat.and_le_left ?_
    show (BitVec.ofNat 32 k).toNat < 65536
    rw [BitVec.toNat_ofNat]
    omega
  · apply Int32.toBitVec_inj.mp
    show _ = BitVec.ofNat 32 _
    rw [BitVec.ofNat_toNat, BitVec.setWidth_eq]
theorem nlt_rm {s t : Int32} (h : nlt 65536 s) : nlt 65536 (rm s t) := nlt_and h
theorem nlt_or {s t : Int32} (h : nlt 65536 s) (h2 : nlt 65536 t) : nlt 65536 (s ||| t) := by
  obtain ⟨k, hk, rfl⟩ := h
  obtain ⟨j, hj, rfl⟩ := h2
  refine ⟨k ||| j, Nat.or_lt_two_pow (n := 16) hk hj, ?_⟩
  apply b_ext
  intro i hi
  rw [b_or, nI_bt hi, nI_bt hi, nI_bt hi, Nat.testBit_or]
theorem nlt_so {t : Int32} (h : bsOk t) : nlt 65536 (so t) := by
  rcases h with rfl | ⟨i, hi, rfl⟩
  · exact ⟨0, by decide, rfl⟩
  · exact ⟨2 ^ i, (by decide +kernel : ∀ i, i < 16 → 2 ^ i < 65536) i hi, (by decide +kernel : ∀ i, i < 16 → so (nI i) = nI (2 ^ i)) i hi⟩
theorem lost_ok {l : Int32} (h : nlt 1000 l) : nlt 1000 (lostF l) := by
  obtain ⟨k, hk, rfl⟩ := h
  unfold lostF
  rw [nI_1]
  split
  · exact ⟨999, by decide, rfl⟩
  · rename_i hh
    refine ⟨k + 1, ?_, rfl⟩
    have : ¬ 999 < k + 1 := fun e => hh (nI_lt (a := 999) e (by omega))
    omega
theorem cross_ok {F : Fam} {i : Nat} {t : Int32} (h : FI F) (hi : i < 8) (ht : bsOk t) : FI (crossF F i t) := by
  have hp : AL 8 (nlt 65536) (upd (gp F) i (rm (gp F i) t)) := h.p.upd hi (nlt_rm (h.p.1 i hi))
  have hl : AL 8 (nlt 1000) (upd (gl F) i (lostF (gl F i))) := h.l.upd hi (lost_ok (h.l.1 i hi))
  unfold crossF
  split
  · exact ((h.wp hp).wl hl).wb
  · rename_i hc
    rcases h.c.1 i hi with e | ⟨c, hc8, e⟩
    · rw [e] at hc; exact absurd (by decide) hc
    · rw [e, cl8 hc8]
      exact ((h.wp hp).wl hl).wp (hp.upd hc8 (nlt_or (hp.1 c hc8) (nlt_so ht)))
theorem brd_ok {F : Fam} {i : Nat} (h : FI F) (hi : i < 8) : FI (brdF F i) := by
  unfold brdF
  split
  · exact h
  · exact cross_ok h hi tk_ok
theorem find_dec : ∀ k, k < 6 → ∀ a, a < 80 → (findF (nI k) (nI a) = -1 ∨ ((findF (nI k) (nI a)).toNatClampNeg < 16 ∧ findF (nI k) (nI a) = nI (findF (nI k) (nI a)).toNatClampNeg)) := by decide +kernel
theorem find_ok {k a : Nat} (hk : k < 6) (ha : a < 80) : bsOk (findF (nI k) (nI a)) := by
  rcases find_dec k hk a ha with h | ⟨h, h2⟩
  · exact Or.inl h
  · exact Or.inr ⟨_, h, h2⟩
/-- a year of one -/
def agF (F : Fam) (i : Nat) : Fam := wp (wa F (upd (ga F) i (ga F i + 1))) (upd (gp F) i (gp F i ||| so (findF (gk F i) (ga F i + 1))))
def yr1 (F : Fam) (i : Nat) : Fam := if 70 ≤ ga F i then F else if (ga F i + 1) - (ga F i + 1) / 7 * 7 = 0 then brdF (agF F i) i else agF F i
def yrL : Nat → Nat → Fam → Fam
  | 0, _, F => F
  | k + 1, i, F => yrL k (i + 1) (yr1 F i)
def yearF (F : Fam) : Fam := wy (yrL (gn F).toNatClampNeg 0 F) (gy F + 1)
def yearsF : Nat → Fam → Fam
  | 0, F => F
  | k + 1, F => yearsF k (yearF F)
theorem agF_ok {F : Fam} {i : Nat} (h : FI F) (hi : i < 8) (h7 : ¬ 70 ≤ ga F i) : FI (agF F i) := by
  obtain ⟨k, hk, ek⟩ := h.k.1 i hi
  obtain ⟨a, ha, ea⟩ := h.a.1 i hi
  have ha' : a + 1 < 71 := by
    have : ¬ 70 ≤ a := fun e => h7 (by rw [ea]; exact (nI_leI (a := 70) (by decide) (by omega)).mpr e)
    omega
  unfold agF
  refine (h.wa (h.a.upd hi ?_)).wp (h.p.upd hi (nlt_or (h.p.1 i hi) (nlt_so ?_)))
  · rw [ea, nI_1]; exact ⟨a + 1, ha', rfl⟩
  · rw [ek, ea, nI_1]; exact find_ok hk (by omega)
theorem yr1_ok {F : Fam} {i : Nat} (h : FI F) (hi : i < 8) : FI (yr1 F i) := by
  unfold yr1
  split
  · exact h
  · rename_i h7
    split
    · exact brd_ok (agF_ok h hi h7) hi
    · exact agF_ok h hi h7
theorem yr1_n {F : Fam} {i : Nat} : gn (yr1 F i) = gn F ∧ gy (yr1 F i) = gy F := by
  unfold yr1 brdF crossF agF
  constructor <;> (repeat' split) <;> rfl
theorem yrL_ok : ∀ (k i : Nat) {F : Fam}, FI F → i + k ≤ 8 → FI (yrL k i F)
  | 0, _, _, h, _ => h
  | k + 1, i, _, h, hi => yrL_ok k (i + 1) (yr1_ok h (by omega)) (by omega)
theorem yrL_n : ∀ (k i : Nat) {F : Fam}, gn (yrL k i F) = gn F ∧ gy (yrL k i F) = gy F
  | 0, _, _ => ⟨rfl, rfl⟩
  | k + 1, i, F => ⟨(yrL_n k (i + 1)).1.trans yr1_n.1, (yrL_n k (i + 1)).2.trans yr1_n.2⟩
theorem year_ok {F : Fam} (h : FI F) : FI (yearF F) := by
  obtain ⟨n, hn, e⟩ := h.n
  unfold yearF
  rw [e, nI_clamp (by omega)]
  exact (yrL_ok n 0 h (by omega)).wy
theorem years_ok : ∀ (k : Nat) {F : Fam}, FI F → FI (yearsF k F)
  | 0, _, h => h
  | k + 1, _, h => years_ok k (year_ok h)
theorem year_n {F : Fam} : gn (yearF F) = gn F := (yrL_n _ 0).1
theorem years_n : ∀ (k : Nat) {F : Fam}, gn (yearsF k F) = gn F
  | 0, _ => rfl
  | k + 1, _ => (years_n k).trans year_n
