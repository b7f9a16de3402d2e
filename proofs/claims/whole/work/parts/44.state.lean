/-! THE STATE OF THE CLASS AND OF THE MODEL -/
def cL (n : Nat) (f : Nat → Int64) : mx_C := .inl (.long, n, .inr (.inl f))
/-- h and h1 have the same cells from a up to b -/
def same (a b : Nat) (h h1 : mx_G) : Prop := (∀ j, (a ≤ j ∧ j < b) ∨ 1000 ≤ j → h1.1 j = h.1 j) ∧ h1.2 = h.2
theorem same.cl {a b : Nat} {h h1 : mx_G} (x : same a b h h1) (j : Nat) (h2 : a ≤ j) (h3 : j < b) : h1.1 j = h.1 j := x.1 j (Or.inl ⟨h2, h3⟩)
theorem same.far {a b : Nat} {h h1 : mx_G} (x : same a b h h1) (j : Nat) (h2 : 1000 ≤ j) : h1.1 j = h.1 j := x.1 j (Or.inr h2)
theorem same.refl {a b : Nat} {h : mx_G} : same a b h h := ⟨fun _ _ => rfl, rfl⟩
theorem same.trans {a b : Nat} {h h1 h2 : mx_G} (x : same a b h h1) (y : same a b h1 h2) : same a b h h2 := ⟨fun j hj => (y.1 j hj).trans (x.1 j hj), y.2.trans x.2⟩
theorem same.up {a b k : Nat} {h : mx_G} {c : mx_C} (hk : (k < a ∨ b ≤ k) ∧ k < 1000) : same a b h (mx_up h k c) := ⟨fun j hj => up_o (by omega), rfl⟩
theorem same.put {a b o : Nat} {h : mx_G} {F : Fam} (hk : (o + 6 < a ∨ b ≤ o) ∧ o < 900) : same a b h (putF h o F) := ⟨fun j hj => pF_o (by omega), rfl⟩
theorem same.mono {a b a' b' : Nat} {h h1 : mx_G} (x : same a b h h1) (ha : a ≤ a') (hb : b' ≤ b) : same a' b' h h1 := ⟨fun j hj => x.1 j (by omega), x.2⟩
/-- family F lies at o -/
def FA (h : mx_G) (o : Nat) (F : Fam) : Prop := ∀ j, o ≤ j → j < o + 7 → h.1 j = (putF (fun _ => none, 0, 0) o F).1 j
theorem pF_in {g g' : mx_G} {o j : Nat} {F : Fam} (h1 : o ≤ j) (h2 : j < o + 7) : (putF g o F).1 j = (putF g' o F).1 j := by
  unfold putF
  show (if j = o then _ else _) = (if j = o then _ else _)
  split; rfl
  split; rfl
  split; rfl
  split; rfl
  split; rfl
  split; rfl
  split; rfl
  omega
theorem FA.eq {h : mx_G} {o : Nat} {F : Fam} (x : FA h o F) : putF h o F = h := by
  refine Prod.ext (funext fun j => ?_) rfl
  by_cases hj : o ≤ j ∧ j < o + 7
  · rw [x j hj.1 hj.2]; exact pF_in hj.1 hj.2
  · exact pF_o (by omega)
theorem FA.of {h : mx_G} {o : Nat} {F : Fam} : FA (putF h o F) o F := fun j h1 h2 => pF_in h1 h2
theorem FA.tr {h h1 : mx_G} {o : Nat} {F : Fam} (x : FA h o F) {a b : Nat} (s : same a b h h1) (ha : a ≤ o) (hb : o + 7 ≤ b) : FA h1 o F := fun j h2 h3 => (s.cl j (by omega) (by omega)).trans (x j h2 h3)
theorem FA.cells {h : mx_G} {o : Nat} {F : Fam} (x : FA h o F) : h.1 o = some (cF o F) ∧ h.1 (o + 1) = some (cI 16 (gw F)) ∧ h.1 (o + 2) = some (cI 8 (gk F)) ∧ h.1 (o + 3) = some (cI 8 (ga F)) ∧ h.1 (o + 4) = some (cI 8 (gp F)) ∧ h.1 (o + 5) = some (cI 8 (gc F)) ∧ h.1 (o + 6) = some (cI 8 (gl F)) := by
  rw [← x.eq]
  exact ⟨pF_0, pF_w, pF_k, pF_a, pF_p, pF_c, pF_l⟩
def shRow : Nat → Option Nat := fun i => if i < 4 then some (33 + 2 * i) else none
/-- all that a run has: the family, the image, whether there is one, the findings, the tape's bytes and how many, of each sheet bits, size and numbers -/
abbrev AS : Type := Fam × Fam × Bool × (Nat → Int32) × (Nat → Int32) × Nat × (Nat → Int32) × (Nat → Int32) × (Nat → Nat → Int64)
def aF (A : AS) : Fam := A.1
def aK (A : AS) : Fam := A.2.1
def aB (A : AS) : Bool := A.2.2.1
def aQ (A : AS) : Nat → Int32 := A.2.2.2.1
def aT (A : AS) : Nat → Int32 := A.2.2.2.2.1
def aL (A : AS) : Nat := A.2.2.2.2.2.1
def aS (A : AS) : Nat → Int32 := A.2.2.2.2.2.2.1
def aZ (A : AS) : Nat → Int32 := A.2.2.2.2.2.2.2.1
def aN (A : AS) : Nat → Nat → Int64 := A.2.2.2.2.2.2.2.2
def sF (A : AS) (F : Fam) : AS := (F, aK A, aB A, aQ A, aT A, aL A, aS A, aZ A, aN A)
def sK (A : AS) (K : Fam) : AS := (aF A, K, true, aQ A, aT A, aL A, aS A, aZ A, aN A)
def sB (A : AS) : AS := (aF A, aK A, false, aQ A, aT A, aL A, aS A, aZ A, aN A)
def sQ (A : AS) (q : Nat → Int32) : AS := (aF A, aK A, aB A, q, aT A, aL A, aS A, aZ A, aN A)
def sT (A : AS) (t : Nat → Int32) (l : Nat) : AS := (aF A, aK A, aB A, aQ A, t, l, aS A, aZ A, aN A)
def sS (A : AS) (b z : Nat → Int32) (n : Nat → Nat → Int64) : AS := (aF A, aK A, aB A, aQ A, aT A, aL A, b, z, n)
/-- the class's cells but its families -/
def CB (h : mx_G) (A : AS) : Prop :=
  h.1 0 = some (.inr (10, [.ref 8, .ref 15, .ref 22, .int (b2 (aB A)), .ref 29, .ref 31, .ref 32, .ref 41])) ∧ WY h ∧
  h.1 29 = some (.inr (7, [.ref 30, .int (nI (aL A))])) ∧ h.1 30 = some (cI 120 (aT A)) ∧
  (∃ a b c e, h.1 31 = some (.inr (8, [.ref 29, .ref 15, .int a, .int b, .int c, .int e]))) ∧
  h.1 32 = some (.inl (.object "PocketBorders$Sheet", 4, .inr (.inr (.inr (.inr shRow))))) ∧
  (∀ i, i < 4 → h.1 (33 + 2 * i) = some (.inr (5, [.ref (34 + 2 * i), .int (aS A i), .int (aZ A i)])) ∧ h.1 (34 + 2 * i) = some (cL 40 (aN A i))) ∧
  h.1 41 = some (cI 7 (aQ A)) ∧ ∀ j, 1000 ≤ j → h.1 j = none
theorem WY.tr {h h1 : mx_G} (x : WY h) {b : Nat} (s : same 0 b h h1) (hb : 8 ≤ b) : WY h1 := by
  unfold WY
  rw [s.cl 1 (by omega) (by omega), s.cl 2 (by omega) (by omega), s.cl 3 (by omega) (by omega), s.cl 4 (by omega) (by omega), s.cl 5 (by omega) (by omega), s.cl 6 (by omega) (by omega), s.cl 7 (by omega) (by omega)]
  exact x
/-- the class -/
def CA (h : mx_G) (A : AS) : Prop := (∃ T, FI T ∧ FA h 15 T) ∧ FA h 8 (aF A) ∧ FA h 22 (aK A) ∧ CB h A
theorem CB.tr {h h1 : mx_G} {A : AS} (x : CB h A) (s0 : same 0 8 h h1) (s1 : same 29 42 h h1) : CB h1 A := by
  obtain ⟨x0, x1, x2, x3, ⟨a, b, c, e, x4⟩, x5, x6, x7, x8⟩ := x
  refine ⟨?_, x1.tr s0 (by omega), ?_, ?_, ⟨a, b, c, e, ?_⟩, ?_, fun i hi => ⟨?_, ?_⟩, ?_, fun j hj => (s0.far j hj).trans (x8 j hj)⟩
  · rw [s0.cl 0 (by omega) (by omega)]; exact x0
  · rw [s1.cl 29 (by omega) (by omega)]; exact x2
  · rw [s1.cl 30 (by omega) (by omega)]; exact x3
  · rw [s1.cl 31 (by omega) (by omega)]; exact x4
  · rw [s1.cl 32 (by omega) (by omega)]; exact x5
  · rw [s1.cl _ (by omega) (by omega)]; exact (x6 i hi).1
  · rw [s1.cl _ (by omega) (by omega)]; exact (x6 i hi).2
  · rw [s1.cl 41 (by omega) (by omega)]; exact x7
theorem CA.tr {h h1 : mx_G} {A : AS} (x : CA h A) (s : same 0 42 h h1) : CA h1 A := by
  obtain ⟨⟨T, x2, x3⟩, x4, x5, x6⟩ := x
  exact ⟨⟨T, x2, x3.tr s (by omega) (by omega)⟩, x4.tr s (by omega) (by omega), x5.tr s (by omega) (by omega), x6.tr (s.mono (by omega) (by omega)) (s.mono (by omega) (by omega))⟩
/-- all sheets as one row -/
def shAll (sn : Nat → Nat → Int64) (j : Nat) : Int64 := if j < 160 then sn (j / 40) (j % 40) else 0
/-- a store of a row -/
def ST (h : mx_G) (s : Nat) : Prop := ∃ f, h.1 s = some (cI 59 f) ∧ ∀ q, 59 ≤ q → f q = 0
/-- the model's own cell -/
def mo (tl : Nat) (so be te : Int32) (wd : Int64) (va go : Int32) (kb : Bool) : List Value := [.ref 44, .ref 45, .ref 46, .ref 47, .int (nI tl), .int so, .int be, .int te, .long wd, .int va, .int go, .ref 48, .ref 49, .ref 50, .ref 51, .ref 52, .ref 53, .int (b2 kb)]
/-- the model's cells but its row and its own cell -/
def MB (h : mx_G) (A : AS) : Prop :=
  h.1 44 = some (cI 7 (aQ A)) ∧ ST h 45 ∧ ST h 46 ∧
  h.1 47 = some (cI 120 (aT A)) ∧ h.1 48 = some (cI 4 (aS A)) ∧ h.1 49 = some (cI 4 (aZ A)) ∧ h.1 50 = some (cL 160 (shAll (aN A))) ∧ (∃ f, h.1 51 = some (cL 40 f)) ∧
  (ST h 52 ∧ (aB A = true → h.1 52 = some (cI 59 (rowO (aK A))))) ∧ ST h 53
/-- the model -/
def MA (h : mx_G) (A : AS) : Prop := (∃ so be te wd va go, h.1 42 = some (.inr (11, .ref 43 :: mo (aL A) so be te wd va go (aB A)))) ∧ h.1 43 = some (cI 59 (rowO (aF A))) ∧ MB h A
theorem ST.tr {h h1 : mx_G} {s a b : Nat} (x : ST h s) (y : same a b h h1) (ha : a ≤ s) (hb : s < b) : ST h1 s := by
  obtain ⟨f, x1, x2⟩ := x
  exact ⟨f, (y.cl s ha hb).trans x1, x2⟩
theorem MB.tr {h h1 : mx_G} {A : AS} (x : MB h A) (s : same 44 54 h h1) : MB h1 A := by
  obtain ⟨x2, x3, x4, x5, x6, x7, x8, ⟨f, x9⟩, ⟨x10, x11⟩, x12⟩ := x
  refine ⟨?_, x3.tr s (by omega) (by omega), x4.tr s (by omega) (by omega), ?_, ?_, ?_, ?_, ⟨f, ?_⟩, ⟨x10.tr s (by omega) (by omega), fun e => ?_⟩, x12.tr s (by omega) (by omega)⟩
  · rw [s.cl 44 (by omega) (by omega)]; exact x2
  · rw [s.cl 47 (by omega) (by omega)]; exact x5
  · rw [s.cl 48 (by omega) (by omega)]; exact x6
  · rw [s.cl 49 (by omega) (by omega)]; exact x7
  · rw [s.cl 50 (by omega) (by omega)]; exact x8
  · rw [s.cl 51 (by omega) (by omega)]; exact x9
  · rw [s.cl 52 (by omega) (by omega)]; exact x11 e
theorem MA.tr {h h1 : mx_G} {A : AS} (x : MA h A) (s : same 42 54 h h1) : MA h1 A := by
  obtain ⟨⟨so, be, te, wd, va, go, x0⟩, x1, x2⟩ := x
  refine ⟨⟨so, be, te, wd, va, go, ?_⟩, ?_, x2.tr (s.mono (by omega) (by omega))⟩
  · rw [s.cl 42 (by omega) (by omega)]; exact x0
  · rw [s.cl 43 (by omega) (by omega)]; exact x1
/-- a call of the class answers v, leaves the state A and the model's cells -/
def XC (h : mx_G) (c : Option (Option Value × mx_G)) (v : Value) (A : AS) : Prop := ∃ h1, c = some (some v, h1) ∧ CA h1 A ∧ same 42 54 h h1
/-- a call of the model answers v, leaves the state A and the class's cells -/
def XM (h : mx_G) (c : Option (Option Value × mx_G)) (v : Value) (A : AS) : Prop := ∃ h1, c = some (some v, h1) ∧ MA h1 A ∧ same 0 42 h h1
/-- a finding more -/
def bmp (fnd : Nat → Int32) (k : Nat) : Nat → Int32 := upd fnd k (fnd k + 1)
/-- the answer of a call that finds something -/
def qs (A : AS) (k : Nat) (v : Int32) : Int32 × AS := (v, sQ A (bmp (aQ A) k))
/-- what holds of every state -/
def SH (A : AS) (i : Nat) : Prop := (aS A i = 0 ∨ aS A i = 8 ∨ aS A i = 16 ∨ aS A i = 64) ∧ nlt 41 (aZ A i)
def AI (A : AS) : Prop := FI (aF A) ∧ FI (aK A) ∧ aL A ≤ 120 ∧ (∀ i, i < 120 → nlt 256 (aT A i)) ∧ ∀ i, i < 4 → SH A i
section
variable {sc : mx_X} {d : Nat} {h h1 : mx_G} {A A' : AS} {G : Fam} {v : Value} {c : Option (Option Value × mx_G)}
theorem XC.go (x : XC h1 c v A) (s : same 42 54 h h1) : XC h c v A := by
  obtain ⟨h2, e, y, z⟩ := x
  exact ⟨h2, e, y, s.trans z⟩
theorem XM.go (x : XM h1 c v A) (s : same 0 42 h h1) : XM h c v A := by
  obtain ⟨h2, e, y, z⟩ := x
  exact ⟨h2, e, y, s.trans z⟩
/-- the class's present family becomes another -/
theorem CA.f (x : CA h A) : CA (putF h 8 G) (sF A G) := by
  obtain ⟨⟨T, x2, x3⟩, x4, x5, x6⟩ := x
  exact ⟨⟨T, x2, x3.tr (same.put (a := 15) (b := 42) (by omega)) (by omega) (by omega)⟩, FA.of, x5.tr (same.put (a := 15) (b := 42) (by omega)) (by omega) (by omega), x6.tr (same.put (by omega)) (same.put (by omega))⟩
theorem CA.t (x : CA h A) (hG : FI G) : CA (putF h 15 G) A := by
  obtain ⟨⟨T, x2, x3⟩, x4, x5, x6⟩ := x
  exact ⟨⟨G, hG, FA.of⟩, x4.tr (same.put (a := 0) (b := 15) (by omega)) (by omega) (by omega), x5.tr (same.put (a := 22) (b := 42) (by omega)) (by omega) (by omega), x6.tr (same.put (by omega)) (same.put (by omega))⟩
theorem CA.q {f' : Nat → Int32} (x : CA h A) : CA (mx_up h 41 (cI 7 f')) (sQ A f') := by
  obtain ⟨⟨T, x2, x3⟩, x4, x5, x6⟩ := x
  have s : same 0 41 h (mx_up h 41 (cI 7 f')) := same.up (by omega)
  refine ⟨⟨T, x2, x3.tr s (by omega) (by omega)⟩, x4.tr s (by omega) (by omega), x5.tr s (by omega) (by omega), ?_⟩
  obtain ⟨y0, y1, y2, y3, ⟨a, b, c, e, y4⟩, y5, y6, y7, y8⟩ := x6
  exact ⟨by rw [up_o (by decide)]; exact y0, y1.tr s (by omega), by rw [up_o (by decide)]; exact y2, by rw [up_o (by decide)]; exact y3, ⟨a, b, c, e, by rw [up_o (by decide)]; exact y4⟩, by rw [up_o (by decide)]; exact y5, fun i hi => ⟨by rw [up_o (by omega)]; exact (y6 i hi).1, by rw [up_o (by omega)]; exact (y6 i hi).2⟩, up_at, fun j hj => (s.far j hj).trans (y8 j hj)⟩
theorem rF_same {a b : Nat} (hk : 43 < a ∨ b ≤ 43) : same a b h (RF h G) := same.up (by omega)
/-- the model's row becomes another family -/
theorem MA.f (x : MA h A) : MA (RF h G) (sF A G) := by
  obtain ⟨⟨so, be, te, wd, va, go, x0⟩, x1, x2⟩ := x
  exact ⟨⟨so, be, te, wd, va, go, (rF_o (by decide)).trans x0⟩, rF_43, x2.tr (rF_same (by omega))⟩
theorem MA.q {f' : Nat → Int32} (x : MA h A) : MA (mx_up h 44 (cI 7 f')) (sQ A f') := by
  obtain ⟨⟨so, be, te, wd, va, go, x0⟩, x1, x2, ⟨f3, x3, z3⟩, ⟨f4, x4, z4⟩, x5, x6, x7, x8, ⟨f, x9⟩, ⟨⟨f10, x10, z10⟩, x11⟩, ⟨f12, x12, z12⟩⟩ := x
  exact ⟨⟨so, be, te, wd, va, go, (up_o (by decide)).trans x0⟩, (up_o (by decide)).trans x1, up_at, ⟨f3, (up_o (by decide)).trans x3, z3⟩, ⟨f4, (up_o (by decide)).trans x4, z4⟩, (up_o (by decide)).trans x5, (up_o (by decide)).trans x6, (up_o (by decide)).trans x7, (up_o (by decide)).trans x8, ⟨f, (up_o (by decide)).trans x9⟩, ⟨⟨f10, (up_o (by decide)).trans x10, z10⟩, fun e => (up_o (by decide)).trans (x11 e)⟩, ⟨f12, (up_o (by decide)).trans x12, z12⟩⟩
theorem MA.eq (x : MA h A) : RF h (aF A) = h := by
  refine Prod.ext (funext fun j => ?_) rfl
  show (if j = 43 then some (cI 59 (rowO (aF A))) else h.1 j) = h.1 j
  split
  · rename_i e; rw [e, x.2.1]
  · rfl
/-- the ends of calls -/
theorem XC.r (x : CA h A) : XC h (some (some v, h)) v A := ⟨h, rfl, x, same.refl⟩
theorem XC.f (x : CA h A) : XC h (some (some v, putF h 8 G)) v (sF A G) := ⟨_, rfl, x.f, same.put (by omega)⟩
theorem XC.t (x : CA h A) (hG : FI G) : XC h (some (some v, putF h 15 G)) v A := ⟨_, rfl, x.t hG, same.put (by omega)⟩
theorem XC.q {f' : Nat → Int32} (x : CA h A) : XC h (some (some v, mx_up h 41 (cI 7 f'))) v (sQ A f') := ⟨_, rfl, x.q, same.up (by omega)⟩
theorem XM.r (x : MA h A) : XM h (some (some v, h)) v A := ⟨h, rfl, x, same.refl⟩
theorem XM.f (x : MA h A) : XM h (some (some v, RF h G)) v (sF A G) := ⟨_, rfl, x.f, rF_same (by omega)⟩
theorem XM.q {f' : Nat → Int32} (x : MA h A) : XM h (some (some v, mx_up h 44 (cI 7 f'))) v (sQ A f') := ⟨_, rfl, x.q, same.up (by omega)⟩
end
