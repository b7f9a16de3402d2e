/-! THE STATE OF THE CLASS AND OF THE MODEL -/
def cL (n : Nat) (f : Nat → Int64) : mx_C := .inl (.long, n, .inr (.inl f))
/-- h and h1 have the same cells from a up to b -/
def same (a b : Nat) (h h1 : mx_G) : Prop := (∀ j, a ≤ j → j < b → h1.1 j = h.1 j) ∧ h1.2 = h.2
theorem same.refl {a b : Nat} {h : mx_G} : same a b h h := ⟨fun _ _ _ => rfl, rfl⟩
theorem same.trans {a b : Nat} {h h1 h2 : mx_G} (x : same a b h h1) (y : same a b h1 h2) : same a b h h2 := ⟨fun j hj hj2 => (y.1 j hj hj2).trans (x.1 j hj hj2), y.2.trans x.2⟩
theorem same.up {a b k : Nat} {h : mx_G} {c : mx_C} (hk : k < a ∨ b ≤ k) : same a b h (mx_up h k c) := ⟨fun j hj hj2 => up_o (by omega), rfl⟩
theorem same.put {a b o : Nat} {h : mx_G} {F : Fam} (hk : o + 6 < a ∨ b ≤ o) : same a b h (putF h o F) := ⟨fun j hj hj2 => pF_o (by omega), rfl⟩
theorem same.mono {a b a' b' : Nat} {h h1 : mx_G} (x : same a b h h1) (ha : a ≤ a') (hb : b' ≤ b) : same a' b' h h1 := ⟨fun j hj hj2 => x.1 j (by omega) (by omega), x.2⟩
/-- family F lies at o -/
def FA (h : mx_G) (o : Nat) (F : Fam) : Prop := ∀ j, o ≤ j → j < o + 7 → h.1 j = (putF (fun _ => none, 0, 0) o F).1 j
theorem pF_in {g g' : mx_G} {o j : Nat} {F : Fam} (h1 : o ≤ j) (h2 : j < o + 7) : (putF g o F).1 j = (putF g' o F).1 j := by
  unfold putF
  show (if j = o then _ else _) = (if j = o then _ else _)
  split; rfl
  split; rfl
  split; rfl
  split; rfl
  split; rfl
  split; rfl
  split; rfl
  omega
theorem FA.eq {h : mx_G} {o : Nat} {F : Fam} (x : FA h o F) : putF h o F = h := by
  refine Prod.ext (funext fun j => ?_) rfl
  by_cases hj : o ≤ j ∧ j < o + 7
  · rw [x j hj.1 hj.2]; exact pF_in hj.1 hj.2
  · exact pF_o (by omega)
theorem FA.of {h : mx_G} {o : Nat} {F : Fam} : FA (putF h o F) o F := fun j h1 h2 => pF_in h1 h2
theorem FA.tr {h h1 : mx_G} {o : Nat} {F : Fam} (x : FA h o F) {a b : Nat} (s : same a b h h1) (ha : a ≤ o) (hb : o + 7 ≤ b) : FA h1 o F := fun j h2 h3 => (s.1 j (by omega) (by omega)).trans (x j h2 h3)
def shRow : Nat → Option Nat := fun i => if i < 4 then some (33 + 2 * i) else none
/-- the class's cells but its families -/
def CB (h : mx_G) (kb : Bool) (fnd tb : Nat → Int32) (tl : Nat) (sb ss : Nat → Int32) (sn : Nat → Nat → Int64) : Prop :=
  h.1 0 = some (.inr (10, [.ref 8, .ref 15, .ref 22, .int (b2 kb), .ref 29, .ref 31, .ref 32, .ref 41])) ∧ WY h ∧
  h.1 29 = some (.inr (7, [.ref 30, .int (nI tl)])) ∧ h.1 30 = some (cI 120 tb) ∧
  (∃ a b c e, h.1 31 = some (.inr (8, [.ref 29, .ref 15, .int a, .int b, .int c, .int e]))) ∧
  h.1 32 = some (.inl (.object "PocketBorders$Sheet", 4, .inr (.inr (.inr (.inr shRow))))) ∧
  (∀ i, i < 4 → h.1 (33 + 2 * i) = some (.inr (5, [.ref (34 + 2 * i), .int (sb i), .int (ss i)])) ∧ h.1 (34 + 2 * i) = some (cL 40 (sn i))) ∧
  h.1 41 = some (cI 7 fnd)
theorem WY.tr {h h1 : mx_G} (x : WY h) {b : Nat} (s : same 0 b h h1) (hb : 8 ≤ b) : WY h1 := by
  unfold WY
  rw [s.1 1 (by omega) (by omega), s.1 2 (by omega) (by omega), s.1 3 (by omega) (by omega), s.1 4 (by omega) (by omega), s.1 5 (by omega) (by omega), s.1 6 (by omega) (by omega), s.1 7 (by omega) (by omega)]
  exact x
/-- the class -/
def CO (h : mx_G) (F K : Fam) (kb : Bool) (fnd tb : Nat → Int32) (tl : Nat) (sb ss : Nat → Int32) (sn : Nat → Nat → Int64) : Prop :=
  FI F ∧ FI K ∧ (∃ T, FI T ∧ FA h 15 T) ∧ FA h 8 F ∧ FA h 22 K ∧ CB h kb fnd tb tl sb ss sn
theorem CB.tr {h h1 : mx_G} {kb : Bool} {fnd tb : Nat → Int32} {tl : Nat} {sb ss : Nat → Int32} {sn : Nat → Nat → Int64} (x : CB h kb fnd tb tl sb ss sn) (s0 : same 0 8 h h1) (s1 : same 29 42 h h1) : CB h1 kb fnd tb tl sb ss sn := by
  obtain ⟨x0, x1, x2, x3, ⟨a, b, c, e, x4⟩, x5, x6, x7⟩ := x
  refine ⟨?_, x1.tr s0 (by omega), ?_, ?_, ⟨a, b, c, e, ?_⟩, ?_, fun i hi => ⟨?_, ?_⟩, ?_⟩
  · rw [s0.1 0 (by omega) (by omega)]; exact x0
  · rw [s1.1 29 (by omega) (by omega)]; exact x2
  · rw [s1.1 30 (by omega) (by omega)]; exact x3
  · rw [s1.1 31 (by omega) (by omega)]; exact x4
  · rw [s1.1 32 (by omega) (by omega)]; exact x5
  · rw [s1.1 _ (by omega) (by omega)]; exact (x6 i hi).1
  · rw [s1.1 _ (by omega) (by omega)]; exact (x6 i hi).2
  · rw [s1.1 41 (by omega) (by omega)]; exact x7
theorem CO.tr {h h1 : mx_G} {F K : Fam} {kb : Bool} {fnd tb : Nat → Int32} {tl : Nat} {sb ss : Nat → Int32} {sn : Nat → Nat → Int64} (x : CO h F K kb fnd tb tl sb ss sn) (s : same 0 42 h h1) : CO h1 F K kb fnd tb tl sb ss sn := by
  obtain ⟨x0, x1, ⟨T, x2, x3⟩, x4, x5, x6⟩ := x
  exact ⟨x0, x1, ⟨T, x2, x3.tr s (by omega) (by omega)⟩, x4.tr s (by omega) (by omega), x5.tr s (by omega) (by omega), x6.tr (s.mono (by omega) (by omega)) (s.mono (by omega) (by omega))⟩
/-- all sheets as one row -/
def shAll (sn : Nat → Nat → Int64) (j : Nat) : Int64 := if j < 160 then sn (j / 40) (j % 40) else 0
/-- a store of a row -/
def ST (h : mx_G) (s : Nat) : Prop := ∃ f, h.1 s = some (cI 59 f) ∧ ∀ q, 59 ≤ q → f q = 0
/-- the model's own cell -/
def mo (tl : Nat) (so be te : Int32) (wd : Int64) (va go : Int32) (kb : Bool) : List Value := [.ref 44, .ref 45, .ref 46, .ref 47, .int (nI tl), .int so, .int be, .int te, .long wd, .int va, .int go, .ref 48, .ref 49, .ref 50, .ref 51, .ref 52, .ref 53, .int (b2 kb)]
/-- the model -/
def MO (h : mx_G) (F K : Fam) (kb : Bool) (fnd tb : Nat → Int32) (tl : Nat) (sb ss : Nat → Int32) (sn : Nat → Nat → Int64) : Prop :=
  (∃ so be te wd va go, h.1 42 = some (.inr (11, .ref 43 :: mo tl so be te wd va go kb))) ∧ h.1 43 = some (cI 59 (rowO F)) ∧ h.1 44 = some (cI 7 fnd) ∧ ST h 45 ∧ ST h 46 ∧
  h.1 47 = some (cI 120 tb) ∧ h.1 48 = some (cI 4 sb) ∧ h.1 49 = some (cI 4 ss) ∧ h.1 50 = some (cL 160 (shAll sn)) ∧ (∃ f, h.1 51 = some (cL 40 f)) ∧
  (ST h 52 ∧ (kb = true → h.1 52 = some (cI 59 (rowO K)))) ∧ ST h 53
theorem ST.tr {h h1 : mx_G} {s a b : Nat} (x : ST h s) (y : same a b h h1) (ha : a ≤ s) (hb : s < b) : ST h1 s := by
  obtain ⟨f, x1, x2⟩ := x
  exact ⟨f, (y.1 s ha hb).trans x1, x2⟩
theorem MO.tr {h h1 : mx_G} {F K : Fam} {kb : Bool} {fnd tb : Nat → Int32} {tl : Nat} {sb ss : Nat → Int32} {sn : Nat → Nat → Int64} (x : MO h F K kb fnd tb tl sb ss sn) (s : same 42 54 h h1) : MO h1 F K kb fnd tb tl sb ss sn := by
  obtain ⟨⟨so, be, te, wd, va, go, x0⟩, x1, x2, x3, x4, x5, x6, x7, x8, ⟨f, x9⟩, ⟨x10, x11⟩, x12⟩ := x
  refine ⟨⟨so, be, te, wd, va, go, ?_⟩, ?_, ?_, x3.tr s (by omega) (by omega), x4.tr s (by omega) (by omega), ?_, ?_, ?_, ?_, ⟨f, ?_⟩, ⟨x10.tr s (by omega) (by omega), fun e => ?_⟩, x12.tr s (by omega) (by omega)⟩
  · rw [s.1 42 (by omega) (by omega)]; exact x0
  · rw [s.1 43 (by omega) (by omega)]; exact x1
  · rw [s.1 44 (by omega) (by omega)]; exact x2
  · rw [s.1 47 (by omega) (by omega)]; exact x5
  · rw [s.1 48 (by omega) (by omega)]; exact x6
  · rw [s.1 49 (by omega) (by omega)]; exact x7
  · rw [s.1 50 (by omega) (by omega)]; exact x8
  · rw [s.1 51 (by omega) (by omega)]; exact x9
  · rw [s.1 52 (by omega) (by omega)]; exact x11 e
/-- a call of the class answers v and leaves the model's cells -/
def XC (h : mx_G) (c : Option (Option Value × mx_G)) (v : Value) (P : mx_G → Prop) : Prop := ∃ h1, c = some (some v, h1) ∧ P h1 ∧ same 42 54 h h1
/-- a call of the model answers v and leaves the class's cells -/
def XM (h : mx_G) (c : Option (Option Value × mx_G)) (v : Value) (P : mx_G → Prop) : Prop := ∃ h1, c = some (some v, h1) ∧ P h1 ∧ same 0 42 h h1
/-- a finding more -/
def bmp (fnd : Nat → Int32) (k : Nat) : Nat → Int32 := upd fnd k (fnd k + 1)
section
variable {sc : mx_X} {d : Nat} {h : mx_G} {F K G : Fam} {kb : Bool} {fnd tb : Nat → Int32} {tl : Nat} {sb ss : Nat → Int32} {sn : Nat → Nat → Int64}
/-- the class's present family becomes another -/
theorem CO.f (x : CO h F K kb fnd tb tl sb ss sn) (hG : FI G) : CO (putF h 8 G) G K kb fnd tb tl sb ss sn := by
  obtain ⟨x0, x1, ⟨T, x2, x3⟩, x4, x5, x6⟩ := x
  exact ⟨hG, x1, ⟨T, x2, x3.tr (same.put (a := 15) (b := 42) (by omega)) (by omega) (by omega)⟩, FA.of, x5.tr (same.put (a := 15) (b := 42) (by omega)) (by omega) (by omega), x6.tr (same.put (by omega)) (same.put (by omega))⟩
theorem CO.t (x : CO h F K kb fnd tb tl sb ss sn) (hG : FI G) : CO (putF h 15 G) F K kb fnd tb tl sb ss sn := by
  obtain ⟨x0, x1, ⟨T, x2, x3⟩, x4, x5, x6⟩ := x
  exact ⟨x0, x1, ⟨G, hG, FA.of⟩, x4.tr (same.put (a := 0) (b := 15) (by omega)) (by omega) (by omega), x5.tr (same.put (a := 22) (b := 42) (by omega)) (by omega) (by omega), x6.tr (same.put (by omega)) (same.put (by omega))⟩
theorem CO.k (x : CO h F K kb fnd tb tl sb ss sn) (hG : FI G) : CO (putF h 22 G) F G kb fnd tb tl sb ss sn := by
  obtain ⟨x0, x1, ⟨T, x2, x3⟩, x4, x5, x6⟩ := x
  exact ⟨x0, hG, ⟨T, x2, x3.tr (same.put (a := 0) (b := 22) (by omega)) (by omega) (by omega)⟩, x4.tr (same.put (a := 0) (b := 15) (by omega)) (by omega) (by omega), FA.of, x6.tr (same.put (by omega)) (same.put (by omega))⟩
theorem CO.q {f' : Nat → Int32} (x : CO h F K kb fnd tb tl sb ss sn) : CO (mx_up h 41 (cI 7 f')) F K kb f' tb tl sb ss sn := by
  obtain ⟨x0, x1, ⟨T, x2, x3⟩, x4, x5, x6⟩ := x
  have s : same 0 41 h (mx_up h 41 (cI 7 f')) := same.up (by omega)
  refine ⟨x0, x1, ⟨T, x2, x3.tr s (by omega) (by omega)⟩, x4.tr s (by omega) (by omega), x5.tr s (by omega) (by omega), ?_⟩
  obtain ⟨y0, y1, y2, y3, ⟨a, b, c, e, y4⟩, y5, y6, y7⟩ := x6
  exact ⟨by rw [up_o (by decide)]; exact y0, y1.tr s (by omega), by rw [up_o (by decide)]; exact y2, by rw [up_o (by decide)]; exact y3, ⟨a, b, c, e, by rw [up_o (by decide)]; exact y4⟩, by rw [up_o (by decide)]; exact y5, fun i hi => ⟨by rw [up_o (by omega)]; exact (y6 i hi).1, by rw [up_o (by omega)]; exact (y6 i hi).2⟩, up_at⟩
/-- the model's row becomes another family -/
theorem MO.f (x : MO h F K kb fnd tb tl sb ss sn) : MO (RF h G) G K kb fnd tb tl sb ss sn := by
  obtain ⟨⟨so, be, te, wd, va, go, x0⟩, x1, x2, ⟨f3, x3, z3⟩, ⟨f4, x4, z4⟩, x5, x6, x7, x8, ⟨f, x9⟩, ⟨⟨f10, x10, z10⟩, x11⟩, ⟨f12, x12, z12⟩⟩ := x
  exact ⟨⟨so, be, te, wd, va, go, (rF_o (by decide)).trans x0⟩, rF_43, (rF_o (by decide)).trans x2, ⟨f3, (rF_o (by decide)).trans x3, z3⟩, ⟨f4, (rF_o (by decide)).trans x4, z4⟩, (rF_o (by decide)).trans x5, (rF_o (by decide)).trans x6, (rF_o (by decide)).trans x7, (rF_o (by decide)).trans x8, ⟨f, (rF_o (by decide)).trans x9⟩, ⟨⟨f10, (rF_o (by decide)).trans x10, z10⟩, fun e => (rF_o (by decide)).trans (x11 e)⟩, ⟨f12, (rF_o (by decide)).trans x12, z12⟩⟩
theorem MO.q {f' : Nat → Int32} (x : MO h F K kb fnd tb tl sb ss sn) : MO (mx_up h 44 (cI 7 f')) F K kb f' tb tl sb ss sn := by
  obtain ⟨⟨so, be, te, wd, va, go, x0⟩, x1, x2, ⟨f3, x3, z3⟩, ⟨f4, x4, z4⟩, x5, x6, x7, x8, ⟨f, x9⟩, ⟨⟨f10, x10, z10⟩, x11⟩, ⟨f12, x12, z12⟩⟩ := x
  exact ⟨⟨so, be, te, wd, va, go, (up_o (by decide)).trans x0⟩, (up_o (by decide)).trans x1, up_at, ⟨f3, (up_o (by decide)).trans x3, z3⟩, ⟨f4, (up_o (by decide)).trans x4, z4⟩, (up_o (by decide)).trans x5, (up_o (by decide)).trans x6, (up_o (by decide)).trans x7, (up_o (by decide)).trans x8, ⟨f, (up_o (by decide)).trans x9⟩, ⟨⟨f10, (up_o (by decide)).trans x10, z10⟩, fun e => (up_o (by decide)).trans (x11 e)⟩, ⟨f12, (up_o (by decide)).trans x12, z12⟩⟩
theorem MO.eq (x : MO h F K kb fnd tb tl sb ss sn) : RF h F = h := by
  refine Prod.ext (funext fun j => ?_) rfl
  show (if j = 43 then some (cI 59 (rowO F)) else h.1 j) = h.1 j
  split
  · rename_i e; rw [e, x.2.1]
  · rfl
end
