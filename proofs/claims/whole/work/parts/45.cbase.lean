/-! THE CLASS OVER A STATE -/
theorem wiG (t : Int32) {lo hi : Nat} (h : hi < 2 ^ 31) (hl : lo ≤ hi) : wi t (nI lo) (nI hi) = false ∨ (wi t (nI lo) (nI hi) = true ∧ ∃ j, lo ≤ j ∧ j ≤ hi ∧ t = nI j) := by
  cases e : wi t (nI lo) (nI hi)
  · exact Or.inl rfl
  · refine Or.inr ⟨rfl, ?_⟩
    unfold wi at e
    simp only [Bool.and_eq_true, decide_eq_true_eq] at e
    have h0 : ¬ t < 0 := fun q => by
      have h1 : (0 : Int32) ≤ t := Int32.le_trans (nI_pos' (show lo < 2 ^ 31 by omega)) e.1
      exact Int32.not_lt.mpr h1 q
    obtain ⟨j, hj, rfl⟩ := nI_of h0
    exact ⟨j, (nI_leI (by omega) hj).mp e.1, (nI_leI hj h).mp e.2, rfl⟩
theorem wi16 (t : Int32) : wi t 0 15 = false ∨ (wi t 0 15 = true ∧ ∃ j, j < 16 ∧ t = nI j) := (wiG t (lo := 0) (hi := 15) (by decide) (by decide)).imp id fun ⟨a, j, _, b, c⟩ => ⟨a, j, by omega, c⟩
theorem wi100 (t : Int32) : wi t 0 99 = false ∨ (wi t 0 99 = true ∧ ∃ j, j < 100 ∧ t = nI j) := (wiG t (lo := 0) (hi := 99) (by decide) (by decide)).imp id fun ⟨a, j, _, b, c⟩ => ⟨a, j, by omega, c⟩
theorem wi6 (t : Int32) : wi t 0 5 = false ∨ (wi t 0 5 = true ∧ ∃ j, j < 6 ∧ t = nI j) := (wiG t (lo := 0) (hi := 5) (by decide) (by decide)).imp id fun ⟨a, j, _, b, c⟩ => ⟨a, j, by omega, c⟩
theorem wi4 (t : Int32) : wi t 0 3 = false ∨ (wi t 0 3 = true ∧ ∃ j, j < 4 ∧ t = nI j) := (wiG t (lo := 0) (hi := 3) (by decide) (by decide)).imp id fun ⟨a, j, _, b, c⟩ => ⟨a, j, by omega, c⟩
theorem wi71 (t : Int32) : wi t 0 70 = false ∨ (wi t 0 70 = true ∧ ∃ j, j < 71 ∧ t = nI j) := (wiG t (lo := 0) (hi := 70) (by decide) (by decide)).imp id fun ⟨a, j, _, b, c⟩ => ⟨a, j, by omega, c⟩
theorem wi999 (t : Int32) : wi t 0 999 = false ∨ (wi t 0 999 = true ∧ ∃ j, j < 1000 ∧ t = nI j) := (wiG t (lo := 0) (hi := 999) (by decide) (by decide)).imp id fun ⟨a, j, _, b, c⟩ => ⟨a, j, by omega, c⟩
theorem wi65 (t : Int32) : wi t 0 65535 = false ∨ (wi t 0 65535 = true ∧ ∃ j, j < 65536 ∧ t = nI j) := (wiG t (lo := 0) (hi := 65535) (by decide) (by decide)).imp id fun ⟨a, j, _, b, c⟩ => ⟨a, j, by omega, c⟩
theorem wi80 (t : Int32) : wi t 0 80 = false ∨ (wi t 0 80 = true ∧ ∃ j, j < 81 ∧ t = nI j) := (wiG t (lo := 0) (hi := 80) (by decide) (by decide)).imp id fun ⟨a, j, _, b, c⟩ => ⟨a, j, by omega, c⟩
theorem wi180 (t : Int32) : wi t 1 80 = false ∨ (wi t 1 80 = true ∧ ∃ j, 1 ≤ j ∧ j < 81 ∧ t = nI j) := (wiG t (lo := 1) (hi := 80) (by decide) (by decide)).imp id fun ⟨a, j, b0, b, c⟩ => ⟨a, j, b0, by omega, c⟩
theorem wi120 (t : Int32) : wi t 1 20 = false ∨ (wi t 1 20 = true ∧ ∃ j, 1 ≤ j ∧ j < 21 ∧ t = nI j) := (wiG t (lo := 1) (hi := 20) (by decide) (by decide)).imp id fun ⟨a, j, b0, b, c⟩ => ⟨a, j, b0, by omega, c⟩
theorem wi14 (t : Int32) : wi t 1 4 = false ∨ (wi t 1 4 = true ∧ ∃ j, 1 ≤ j ∧ j < 5 ∧ t = nI j) := (wiG t (lo := 1) (hi := 4) (by decide) (by decide)).imp id fun ⟨a, j, b0, b, c⟩ => ⟨a, j, b0, by omega, c⟩
theorem wi01 (t : Int32) : wi t 0 1 = false ∨ (wi t 0 1 = true ∧ (t = 0 ∨ t = 1)) := (wiG t (lo := 0) (hi := 1) (by decide) (by decide)).imp id fun ⟨a, j, _, b, c⟩ => ⟨a, by
  rcases (show j = 0 ∨ j = 1 by omega) with rfl | rfl
  · exact Or.inl c
  · exact Or.inr c⟩
/-- p is one of n people -/
theorem wiN (p : Int32) {n : Nat} (hn : n < 2 ^ 30) : wi p 0 (nI n - 1) = false ∨ (wi p 0 (nI n - 1) = true ∧ ∃ j, j < n ∧ p = nI j) := by
  rcases Nat.eq_zero_or_pos n with rfl | h0
  · left
    unfold wi
    by_cases h : 0 ≤ p
    · rw [show nI 0 - 1 = -1 from by decide]
      have : ¬ p ≤ -1 := fun e => by
        have := Int32.le_trans h e
        exact absurd this (by decide)
      simp [this]
    · simp [h]
  · have e : nI n - 1 = nI (n - 1) := pk_sub (a := n) (b := 1) h0
    rw [e]
    exact (wiG p (lo := 0) (hi := n - 1) (by omega) (by omega)).imp id fun ⟨a, j, _, b, c⟩ => ⟨a, j, by omega, c⟩
theorem wiP {F : Fam} (h : FI F) (p : Int32) : wi p 0 (gn F - 1) = false ∨ (wi p 0 (gn F - 1) = true ∧ ∃ n j, n < 9 ∧ gn F = nI n ∧ j < n ∧ j < 8 ∧ p = nI j) := by
  obtain ⟨n, hn, e⟩ := h.n
  rw [e]
  exact (wiN p (show n < 2 ^ 30 by omega)).imp id fun ⟨a, j, b, c⟩ => ⟨a, n, j, hn, rfl, b, by omega, c⟩
theorem z1 : ((1 : Int32) = 0) = False := by decide
theorem in16 {j : Nat} (h : j < 16) : mx_in (nI j) 16 = true := in_nI h (by decide)
theorem cl16 {j : Nat} (h : j < 16) : (nI j).toNatClampNeg = j := cl_nI h (by decide)
theorem pf_hit7 {α : Type} {ci k : Nat} {fs : List Value} {K : List Value → Option α} (h : k < fs.length) : mx_pf (some (.inr (ci, fs))) ci k K = K fs := by rw [pf_hit, if_pos h]
section
variable {sc : mx_X} {d : Nat} {h : mx_G} {A : AS} {F T : Fam} {o i : Nat}
theorem CA.c0 (x : CA h A) : h.1 0 = some (.inr (10, [.ref 8, .ref 15, .ref 22, .int (b2 (aB A)), .ref 29, .ref 31, .ref 32, .ref 41])) := x.2.2.2.1
theorem CA.rc (x : CA h A) : mx_rc h 0 = some 10 := rc_hit x.c0
theorem CA.way (x : CA h A) : WY h := x.2.2.2.2.1
theorem CA.c41 (x : CA h A) : h.1 41 = some (cI 7 (aQ A)) := x.2.2.2.2.2.2.2.2.2.2.1
theorem CA.far (x : CA h A) {j : Nat} (hj : 1000 ≤ j) : h.1 j = none := x.2.2.2.2.2.2.2.2.2.2.2 j hj
theorem CA.fam (x : CA h A) : FA h 8 (aF A) := x.2.1
theorem FA.rc (x : FA h o F) : mx_rc h o = some 1 := rc_hit x.cells.1
theorem CA.p0 (x : CA h A) : h.1 8 = some (.inr (1, [.ref 1, .ref 9, .ref 10, .ref 11, .ref 12, .ref 13, .ref 14, .int (gn (aF A)), .int (gb (aF A)), .int (gy (aF A))])) := x.fam.cells.1
theorem CA.pw (x : CA h A) : h.1 9 = some (cI 16 (gw (aF A))) := x.fam.cells.2.1
theorem CA.vpw (x : CA h A) : mx_av sc h 9 = some (cI 16 (gw (aF A))) := av_hit x.pw
theorem CA.upw (x : CA h A) {v : Nat → Int32} : mx_up h 9 (.inl (.int, 16, .inl v)) = putF h 8 (ww (aF A) v) := by
  have y := uF_w' (g := h) (o := 8) (F := (aF A)) (v := v)
  rw [x.fam.eq] at y
  exact y
theorem CA.pk (x : CA h A) : h.1 10 = some (cI 8 (gk (aF A))) := x.fam.cells.2.2.1
theorem CA.vpk (x : CA h A) : mx_av sc h 10 = some (cI 8 (gk (aF A))) := av_hit x.pk
theorem CA.upk (x : CA h A) {v : Nat → Int32} : mx_up h 10 (.inl (.int, 8, .inl v)) = putF h 8 (wk (aF A) v) := by
  have y := uF_k' (g := h) (o := 8) (F := (aF A)) (v := v)
  rw [x.fam.eq] at y
  exact y
theorem CA.pa (x : CA h A) : h.1 11 = some (cI 8 (ga (aF A))) := x.fam.cells.2.2.2.1
theorem CA.vpa (x : CA h A) : mx_av sc h 11 = some (cI 8 (ga (aF A))) := av_hit x.pa
theorem CA.upa (x : CA h A) {v : Nat → Int32} : mx_up h 11 (.inl (.int, 8, .inl v)) = putF h 8 (wa (aF A) v) := by
  have y := uF_a' (g := h) (o := 8) (F := (aF A)) (v := v)
  rw [x.fam.eq] at y
  exact y
theorem CA.pp (x : CA h A) : h.1 12 = some (cI 8 (gp (aF A))) := x.fam.cells.2.2.2.2.1
theorem CA.vpp (x : CA h A) : mx_av sc h 12 = some (cI 8 (gp (aF A))) := av_hit x.pp
theorem CA.upp (x : CA h A) {v : Nat → Int32} : mx_up h 12 (.inl (.int, 8, .inl v)) = putF h 8 (wp (aF A) v) := by
  have y := uF_p' (g := h) (o := 8) (F := (aF A)) (v := v)
  rw [x.fam.eq] at y
  exact y
theorem CA.pc (x : CA h A) : h.1 13 = some (cI 8 (gc (aF A))) := x.fam.cells.2.2.2.2.2.1
theorem CA.vpc (x : CA h A) : mx_av sc h 13 = some (cI 8 (gc (aF A))) := av_hit x.pc
theorem CA.upc (x : CA h A) {v : Nat → Int32} : mx_up h 13 (.inl (.int, 8, .inl v)) = putF h 8 (wc (aF A) v) := by
  have y := uF_c' (g := h) (o := 8) (F := (aF A)) (v := v)
  rw [x.fam.eq] at y
  exact y
theorem CA.pl (x : CA h A) : h.1 14 = some (cI 8 (gl (aF A))) := x.fam.cells.2.2.2.2.2.2
theorem CA.vpl (x : CA h A) : mx_av sc h 14 = some (cI 8 (gl (aF A))) := av_hit x.pl
theorem CA.upl (x : CA h A) {v : Nat → Int32} : mx_up h 14 (.inl (.int, 8, .inl v)) = putF h 8 (wl (aF A) v) := by
  have y := uF_l' (g := h) (o := 8) (F := (aF A)) (v := v)
  rw [x.fam.eq] at y
  exact y
theorem CA.upn (x : CA h A) {v : Int32} : mx_up h 8 (.inr (1, [.ref 1, .ref 9, .ref 10, .ref 11, .ref 12, .ref 13, .ref 14, .int v, .int (gb (aF A)), .int (gy (aF A))])) = putF h 8 (wn (aF A) v) := by
  have y := uF_n' (g := h) (o := 8) (F := (aF A)) (n := v) (b := (gb (aF A))) (y := (gy (aF A))) rfl rfl
  rw [x.fam.eq] at y
  exact y
theorem CA.upb (x : CA h A) {v : Int32} : mx_up h 8 (.inr (1, [.ref 1, .ref 9, .ref 10, .ref 11, .ref 12, .ref 13, .ref 14, .int (gn (aF A)), .int v, .int (gy (aF A))])) = putF h 8 (wb (aF A) v) := by
  have y := uF_b' (g := h) (o := 8) (F := (aF A)) (n := (gn (aF A))) (b := v) (y := (gy (aF A))) rfl rfl
  rw [x.fam.eq] at y
  exact y
theorem CA.upy (x : CA h A) {v : Int32} : mx_up h 8 (.inr (1, [.ref 1, .ref 9, .ref 10, .ref 11, .ref 12, .ref 13, .ref 14, .int (gn (aF A)), .int (gb (aF A)), .int v])) = putF h 8 (wy (aF A) v) := by
  have y := uF_y' (g := h) (o := 8) (F := (aF A)) (n := (gn (aF A))) (b := (gb (aF A))) (y := v) rfl rfl
  rw [x.fam.eq] at y
  exact y
theorem FA.t0 (x : FA h 15 T) : h.1 15 = some (.inr (1, [.ref 1, .ref 16, .ref 17, .ref 18, .ref 19, .ref 20, .ref 21, .int (gn T), .int (gb T), .int (gy T)])) := x.cells.1
theorem FA.tw (x : FA h 15 T) : h.1 16 = some (cI 16 (gw T)) := x.cells.2.1
theorem FA.vtw (x : FA h 15 T) : mx_av sc h 16 = some (cI 16 (gw T)) := av_hit x.tw
theorem FA.utw (x : FA h 15 T) {v : Nat → Int32} : mx_up h 16 (.inl (.int, 16, .inl v)) = putF h 15 (ww T v) := by
  have y := uF_w' (g := h) (o := 15) (F := T) (v := v)
  rw [x.eq] at y
  exact y
theorem FA.tk (x : FA h 15 T) : h.1 17 = some (cI 8 (gk T)) := x.cells.2.2.1
theorem FA.vtk (x : FA h 15 T) : mx_av sc h 17 = some (cI 8 (gk T)) := av_hit x.tk
theorem FA.utk (x : FA h 15 T) {v : Nat → Int32} : mx_up h 17 (.inl (.int, 8, .inl v)) = putF h 15 (wk T v) := by
  have y := uF_k' (g := h) (o := 15) (F := T) (v := v)
  rw [x.eq] at y
  exact y
theorem FA.ta (x : FA h 15 T) : h.1 18 = some (cI 8 (ga T)) := x.cells.2.2.2.1
theorem FA.vta (x : FA h 15 T) : mx_av sc h 18 = some (cI 8 (ga T)) := av_hit x.ta
theorem FA.uta (x : FA h 15 T) {v : Nat → Int32} : mx_up h 18 (.inl (.int, 8, .inl v)) = putF h 15 (wa T v) := by
  have y := uF_a' (g := h) (o := 15) (F := T) (v := v)
  rw [x.eq] at y
  exact y
theorem FA.tp (x : FA h 15 T) : h.1 19 = some (cI 8 (gp T)) := x.cells.2.2.2.2.1
theorem FA.vtp (x : FA h 15 T) : mx_av sc h 19 = some (cI 8 (gp T)) := av_hit x.tp
theorem FA.utp (x : FA h 15 T) {v : Nat → Int32} : mx_up h 19 (.inl (.int, 8, .inl v)) = putF h 15 (wp T v) := by
  have y := uF_p' (g := h) (o := 15) (F := T) (v := v)
  rw [x.eq] at y
  exact y
theorem FA.tc (x : FA h 15 T) : h.1 20 = some (cI 8 (gc T)) := x.cells.2.2.2.2.2.1
theorem FA.vtc (x : FA h 15 T) : mx_av sc h 20 = some (cI 8 (gc T)) := av_hit x.tc
theorem FA.utc (x : FA h 15 T) {v : Nat → Int32} : mx_up h 20 (.inl (.int, 8, .inl v)) = putF h 15 (wc T v) := by
  have y := uF_c' (g := h) (o := 15) (F := T) (v := v)
  rw [x.eq] at y
  exact y
theorem FA.tl (x : FA h 15 T) : h.1 21 = some (cI 8 (gl T)) := x.cells.2.2.2.2.2.2
theorem FA.vtl (x : FA h 15 T) : mx_av sc h 21 = some (cI 8 (gl T)) := av_hit x.tl
theorem FA.utl (x : FA h 15 T) {v : Nat → Int32} : mx_up h 21 (.inl (.int, 8, .inl v)) = putF h 15 (wl T v) := by
  have y := uF_l' (g := h) (o := 15) (F := T) (v := v)
  rw [x.eq] at y
  exact y
theorem FA.utn (x : FA h 15 T) {v : Int32} : mx_up h 15 (.inr (1, [.ref 1, .ref 16, .ref 17, .ref 18, .ref 19, .ref 20, .ref 21, .int v, .int (gb T), .int (gy T)])) = putF h 15 (wn T v) := by
  have y := uF_n' (g := h) (o := 15) (F := T) (n := v) (b := (gb T)) (y := (gy T)) rfl rfl
  rw [x.eq] at y
  exact y
theorem FA.utb (x : FA h 15 T) {v : Int32} : mx_up h 15 (.inr (1, [.ref 1, .ref 16, .ref 17, .ref 18, .ref 19, .ref 20, .ref 21, .int (gn T), .int v, .int (gy T)])) = putF h 15 (wb T v) := by
  have y := uF_b' (g := h) (o := 15) (F := T) (n := (gn T)) (b := v) (y := (gy T)) rfl rfl
  rw [x.eq] at y
  exact y
theorem FA.uty (x : FA h 15 T) {v : Int32} : mx_up h 15 (.inr (1, [.ref 1, .ref 16, .ref 17, .ref 18, .ref 19, .ref 20, .ref 21, .int (gn T), .int (gb T), .int v])) = putF h 15 (wy T v) := by
  have y := uF_y' (g := h) (o := 15) (F := T) (n := (gn T)) (b := (gb T)) (y := v) rfl rfl
  rw [x.eq] at y
  exact y
theorem FA.k0 (x : FA h 22 T) : h.1 22 = some (.inr (1, [.ref 1, .ref 23, .ref 24, .ref 25, .ref 26, .ref 27, .ref 28, .int (gn T), .int (gb T), .int (gy T)])) := x.cells.1
theorem FA.kw (x : FA h 22 T) : h.1 23 = some (cI 16 (gw T)) := x.cells.2.1
theorem FA.vkw (x : FA h 22 T) : mx_av sc h 23 = some (cI 16 (gw T)) := av_hit x.kw
theorem FA.ukw (x : FA h 22 T) {v : Nat → Int32} : mx_up h 23 (.inl (.int, 16, .inl v)) = putF h 22 (ww T v) := by
  have y := uF_w' (g := h) (o := 22) (F := T) (v := v)
  rw [x.eq] at y
  exact y
theorem FA.kk (x : FA h 22 T) : h.1 24 = some (cI 8 (gk T)) := x.cells.2.2.1
theorem FA.vkk (x : FA h 22 T) : mx_av sc h 24 = some (cI 8 (gk T)) := av_hit x.kk
theorem FA.ukk (x : FA h 22 T) {v : Nat → Int32} : mx_up h 24 (.inl (.int, 8, .inl v)) = putF h 22 (wk T v) := by
  have y := uF_k' (g := h) (o := 22) (F := T) (v := v)
  rw [x.eq] at y
  exact y
theorem FA.ka (x : FA h 22 T) : h.1 25 = some (cI 8 (ga T)) := x.cells.2.2.2.1
theorem FA.vka (x : FA h 22 T) : mx_av sc h 25 = some (cI 8 (ga T)) := av_hit x.ka
theorem FA.uka (x : FA h 22 T) {v : Nat → Int32} : mx_up h 25 (.inl (.int, 8, .inl v)) = putF h 22 (wa T v) := by
  have y := uF_a' (g := h) (o := 22) (F := T) (v := v)
  rw [x.eq] at y
  exact y
theorem FA.kp (x : FA h 22 T) : h.1 26 = some (cI 8 (gp T)) := x.cells.2.2.2.2.1
theorem FA.vkp (x : FA h 22 T) : mx_av sc h 26 = some (cI 8 (gp T)) := av_hit x.kp
theorem FA.ukp (x : FA h 22 T) {v : Nat → Int32} : mx_up h 26 (.inl (.int, 8, .inl v)) = putF h 22 (wp T v) := by
  have y := uF_p' (g := h) (o := 22) (F := T) (v := v)
  rw [x.eq] at y
  exact y
theorem FA.kc (x : FA h 22 T) : h.1 27 = some (cI 8 (gc T)) := x.cells.2.2.2.2.2.1
theorem FA.vkc (x : FA h 22 T) : mx_av sc h 27 = some (cI 8 (gc T)) := av_hit x.kc
theorem FA.ukc (x : FA h 22 T) {v : Nat → Int32} : mx_up h 27 (.inl (.int, 8, .inl v)) = putF h 22 (wc T v) := by
  have y := uF_c' (g := h) (o := 22) (F := T) (v := v)
  rw [x.eq] at y
  exact y
theorem FA.kl (x : FA h 22 T) : h.1 28 = some (cI 8 (gl T)) := x.cells.2.2.2.2.2.2
theorem FA.vkl (x : FA h 22 T) : mx_av sc h 28 = some (cI 8 (gl T)) := av_hit x.kl
theorem FA.ukl (x : FA h 22 T) {v : Nat → Int32} : mx_up h 28 (.inl (.int, 8, .inl v)) = putF h 22 (wl T v) := by
  have y := uF_l' (g := h) (o := 22) (F := T) (v := v)
  rw [x.eq] at y
  exact y
theorem FA.ukn (x : FA h 22 T) {v : Int32} : mx_up h 22 (.inr (1, [.ref 1, .ref 23, .ref 24, .ref 25, .ref 26, .ref 27, .ref 28, .int v, .int (gb T), .int (gy T)])) = putF h 22 (wn T v) := by
  have y := uF_n' (g := h) (o := 22) (F := T) (n := v) (b := (gb T)) (y := (gy T)) rfl rfl
  rw [x.eq] at y
  exact y
theorem FA.ukb (x : FA h 22 T) {v : Int32} : mx_up h 22 (.inr (1, [.ref 1, .ref 23, .ref 24, .ref 25, .ref 26, .ref 27, .ref 28, .int (gn T), .int v, .int (gy T)])) = putF h 22 (wb T v) := by
  have y := uF_b' (g := h) (o := 22) (F := T) (n := (gn T)) (b := v) (y := (gy T)) rfl rfl
  rw [x.eq] at y
  exact y
theorem FA.uky (x : FA h 22 T) {v : Int32} : mx_up h 22 (.inr (1, [.ref 1, .ref 23, .ref 24, .ref 25, .ref 26, .ref 27, .ref 28, .int (gn T), .int (gb T), .int v])) = putF h 22 (wy T v) := by
  have y := uF_y' (g := h) (o := 22) (F := T) (n := (gn T)) (b := (gb T)) (y := v) rfl rfl
  rw [x.eq] at y
  exact y
theorem fa_has (x : FA h o F) (hi : i < 8) {j : Nat} (hj : j < 32) : call sc (d + 1) MX1_has [.ref o, .int (nI i), .int (nI j)] h = some (some (.int (b2 (bt (gp F i) j))), h) := by
  have y := sp_has (sc := sc) (d := d) (g := h) (o := o) (F := F) hi hj
  rw [x.eq] at y
  exact y
theorem fa_shownBy (x : FA h o F) (hW : WY h) (ho : 8 ≤ o) (hF : FI F) (hi : i < 8) : call sc (d + 3) MX1_shownBy [.ref o, .int (nI i)] h = some (some (.int (showF (gk F i) (ga F i) (gp F i) (gw F))), h) := by
  obtain ⟨k, hk, ek⟩ := hF.k.1 i hi
  have y := sp_shownBy (sc := sc) (d := d) (g := h) (o := o) (F := F) hW ho hi ek hk
  rw [x.eq] at y
  exact y
theorem fa_takenFrom (x : FA h o F) (hW : WY h) (ho : 8 ≤ o) (hF : FI F) (hi : i < 8) : call sc (d + 3) MX1_takenFrom [.ref o, .int (nI i)] h = some (some (.int (tkF F i)), h) := by
  obtain ⟨k, hk, ek⟩ := hF.k.1 i hi
  have y := sp_takenFrom (sc := sc) (d := d) (g := h) (o := o) (F := F) hW ho hi ek hk
  rw [x.eq] at y
  exact y
theorem fa_foundNextBy (x : FA h o F) (hW : WY h) (ho : 8 ≤ o) (hF : FI F) (hi : i < 8) : call sc (d + 2) MX1_foundNextBy [.ref o, .int (nI i)] h = some (some (.int (nextF F i)), h) := by
  obtain ⟨k, hk, ek⟩ := hF.k.1 i hi
  have y := sp_foundNextBy (sc := sc) (d := d) (g := h) (o := o) (F := F) hW ho hi ek hk
  rw [x.eq] at y
  exact y
theorem fa_holdBorder (x : FA h o F) (hW : WY h) (ho : 8 ≤ o) (hF : FI F) (hi : i < 8) : call sc (d + 4) MX1_holdBorder [.ref o, .int (nI i)] h = some (some (.int (tkF F i)), putF h o (brdF F i)) := by
  obtain ⟨k, hk, ek⟩ := hF.k.1 i hi
  have y := sp_holdBorder (sc := sc) (d := d) (g := h) (o := o) (F := F) hW ho hi ek hk (hF.c.1 i hi)
  rw [x.eq] at y
  exact y
theorem fa_pocketWorth (x : FA h o F) (hi : i < 8) : call sc (d + 2) MX1_pocketWorth [.ref o, .int (nI i)] h = some (some (.int (valF (gp F i) (gw F))), h) := by
  have y := sp_pocketWorth (sc := sc) (d := d) (g := h) (o := o) (F := F) hi
  rw [x.eq] at y
  exact y
theorem fa_passYears (x : FA h o F) (hW : WY h) (ho : 8 ≤ o) (hF : FI F) {n : Nat} (hn : n < 2 ^ 31) : call sc (d + 5) MX1_passYears [.ref o, .int (nI n)] h = some (none, putF h o (yearsF n F)) := by
  have y := sp_passYears (sc := sc) (d := d) (g := h) (o := o) (F := F) hW ho hF hn
  rw [x.eq] at y
  exact y
theorem fa_theOldest (x : FA h o F) (hF : FI F) : call sc d MX1_theOldest [.ref o] h = some (some (.int (foF F (stOld F))), h) := by
  have y := sp_theOldest (sc := sc) (d := d) (g := h) (o := o) (F := F) hF
  rw [x.eq] at y
  exact y
theorem fa_worthOfAllPockets (x : FA h o F) (hF : FI F) : call sc (d + 3) MX1_worthOfAllPockets [.ref o] h = some (some (.int (foF F (stVal F))), h) := by
  have y := sp_worthOfAllPockets (sc := sc) (d := d) (g := h) (o := o) (F := F) hF
  rw [x.eq] at y
  exact y
theorem fa_ownedThings (x : FA h o F) (hF : FI F) : call sc d MX1_ownedThings [.ref o] h = some (some (.int (foF F (stHad F))), h) := by
  have y := sp_ownedThings (sc := sc) (d := d) (g := h) (o := o) (F := F) hF
  rw [x.eq] at y
  exact y
theorem fa_lostByAll (x : FA h o F) (hF : FI F) : call sc d MX1_lostByAll [.ref o] h = some (some (.int (foF F (stLost F))), h) := by
  have y := sp_lostByAll (sc := sc) (d := d) (g := h) (o := o) (F := F) hF
  rw [x.eq] at y
  exact y
theorem fa_agesOfAll (x : FA h o F) (hF : FI F) : call sc d MX1_agesOfAll [.ref o] h = some (some (.int (foF F (stAge F))), h) := by
  have y := sp_agesOfAll (sc := sc) (d := d) (g := h) (o := o) (F := F) hF
  rw [x.eq] at y
  exact y
theorem fa_thingsInPockets (x : FA h o F) (hF : FI F) : call sc (d + 1) MX1_thingsInPockets [.ref o] h = some (some (.int (foF F (stCnt F))), h) := by
  have y := sp_thingsInPockets (sc := sc) (d := d) (g := h) (o := o) (F := F) hF
  rw [x.eq] at y
  exact y
theorem fa_becomes {o1 o2 : Nat} (x : FA h o2 F) (y : FA h o1 T) (hd : o2 + 6 < o1 ∨ o1 + 6 < o2) (hF : FI F) (hT : FI T) : call sc d MX1_becomes [.ref o1, .ref o2] h = some (none, putF h o1 F) := by
  have z := sp_fbecomes (sc := sc) (d := d) (g := h) hd hF hT
  rw [x.eq, y.eq] at z
  exact z
/-- one more person -/
def addF (F : Fam) (n : Nat) (k a p c : Int32) : Fam := wn (wl (wc (wp (wa (wk F (upd (gk F) n k)) (upd (ga F) n a)) (upd (gp F) n p)) (upd (gc F) n c)) (upd (gl F) n 0)) (nI (n + 1))
theorem add_ok (hF : FI F) {n k a p : Nat} {c : Int32} (hn : n < 8) (hk : k < 6) (ha : a < 71) (hp : p < 65536) (hc : csOk c) : FI (addF F n (nI k) (nI a) (nI p) c) := (((((hF.wk (hF.k.upd hn ⟨k, hk, rfl⟩)).wa (hF.a.upd hn ⟨a, ha, rfl⟩)).wp (hF.p.upd hn ⟨p, hp, rfl⟩)).wc (hF.c.upd hn hc)).wl (hF.l.upd hn ⟨0, by decide, rfl⟩)).wn ⟨n + 1, by omega, rfl⟩
theorem sp_addPerson {g : mx_G} {n : Nat} {k : Int32} (hn : n < 8) (hg : gn F = nI n) : call sc d MX1_addPerson [.ref o, .int k] (putF g o F) = some (some (.int (nI n)), putF g o (addF F n k 0 0 (-1))) := by
  simp [c_X1_addPerson, s_X1_addPerson_0, s_X1_addPerson_1, s_X1_addPerson_4, s_X1_addPerson_5, s_X1_addPerson_6, s_X1_addPerson_9, s_X1_addPerson_10, s_X1_addPerson_11, s_X1_addPerson_12, s_X1_addPerson_13, s_X1_addPerson_16, s_X1_addPerson_17, s_X1_addPerson_18, s_X1_addPerson_19, s_X1_addPerson_20, s_X1_addPerson_23, s_X1_addPerson_24, s_X1_addPerson_25, s_X1_addPerson_26, s_X1_addPerson_27, s_X1_addPerson_30, s_X1_addPerson_31, s_X1_addPerson_32, s_X1_addPerson_33, s_X1_addPerson_34, s_X1_addPerson_37, s_X1_addPerson_38, s_X1_addPerson_39, s_X1_addPerson_40, s_X1_addPerson_41, s_X1_addPerson_41i, s_X1_addPerson_42, s_X1_addPerson_45, s_X1_addPerson_46, s_X1_addPerson_47, s_X1_addPerson_50, s_X1_addPerson_51, pF_0, cF, gf_hit, pf_hit, ob1_s, pF_k, pF_a, pF_p, pF_c, pF_l, cI, ai_hit, in8 hn, cl8 hn, hg, uF_k', uF_a', uF_p', uF_c', uF_l', nI_1, gw_ww, gw_wk, gw_wa, gw_wp, gw_wc, gw_wl, gw_wn, gw_wb, gw_wy, gk_ww, gk_wk, gk_wa, gk_wp, gk_wc, gk_wl, gk_wn, gk_wb, gk_wy, ga_ww, ga_wk, ga_wa, ga_wp, ga_wc, ga_wl, ga_wn, ga_wb, ga_wy, gp_ww, gp_wk, gp_wa, gp_wp, gp_wc, gp_wl, gp_wn, gp_wb, gp_wy, gc_ww, gc_wk, gc_wa, gc_wp, gc_wc, gc_wl, gc_wn, gc_wb, gc_wy, gl_ww, gl_wk, gl_wa, gl_wp, gl_wc, gl_wl, gl_wn, gl_wb, gl_wy, gn_ww, gn_wk, gn_wa, gn_wp, gn_wc, gn_wl, gn_wn, gn_wb, gn_wy, gb_ww, gb_wk, gb_wa, gb_wp, gb_wc, gb_wl, gb_wn, gb_wb, gb_wy, gy_ww, gy_wk, gy_wa, gy_wp, gy_wc, gy_wl, gy_wn, gy_wb, gy_wy]
  exact uF_n' rfl rfl
theorem fa_addPerson (x : FA h o F) {n : Nat} {k : Int32} (hn : n < 8) (hg : gn F = nI n) : call sc d MX1_addPerson [.ref o, .int k] h = some (some (.int (nI n)), putF h o (addF F n k 0 0 (-1))) := by
  have y := sp_addPerson (sc := sc) (d := d) (g := h) (o := o) (F := F) (k := k) hn hg
  rw [x.eq] at y
  exact y
theorem CA.fnd (x : CA h A) {f : Int32} {k : Nat} (hk : k < 7) (e : -1000000001 - f = nI k) : call sc d MX10_found [.ref 0, .int f] h = some (some (.int f), mx_up h 41 (cI 7 (bmp (aQ A) k))) := by
  simp only [c_X10_found, s_X10_found_0, s_X10_found_1, s_X10_found_4, s_X10_found_6, s_X10_found_7, s_X10_found_8, s_X10_found_9, s_X10_found_10, s_X10_found_11, s_X10_found_12, s_X10_found_13, s_X10_found_14, x.c0, gf_hit, List.getElem?_cons_zero, List.getElem?_cons_succ, ob1_s, e, av_hit x.c41, x.c41, cI, ai_hit, in_nI hk (by decide), cl_nI hk (by decide), if_true, bmp]
theorem CA.f0 (x : CA h A) : call sc d MX10_found [.ref 0, .int (-1000000001)] h = some (some (.int (-1000000001)), mx_up h 41 (cI 7 (bmp (aQ A) 0))) := x.fnd (by decide) (by decide)
theorem CA.f1 (x : CA h A) : call sc d MX10_found [.ref 0, .int (-1000000002)] h = some (some (.int (-1000000002)), mx_up h 41 (cI 7 (bmp (aQ A) 1))) := x.fnd (by decide) (by decide)
theorem CA.f2 (x : CA h A) : call sc d MX10_found [.ref 0, .int (-1000000003)] h = some (some (.int (-1000000003)), mx_up h 41 (cI 7 (bmp (aQ A) 2))) := x.fnd (by decide) (by decide)
theorem CA.f3 (x : CA h A) : call sc d MX10_found [.ref 0, .int (-1000000004)] h = some (some (.int (-1000000004)), mx_up h 41 (cI 7 (bmp (aQ A) 3))) := x.fnd (by decide) (by decide)
theorem CA.f4 (x : CA h A) : call sc d MX10_found [.ref 0, .int (-1000000005)] h = some (some (.int (-1000000005)), mx_up h 41 (cI 7 (bmp (aQ A) 4))) := x.fnd (by decide) (by decide)
theorem CA.f5 (x : CA h A) : call sc d MX10_found [.ref 0, .int (-1000000006)] h = some (some (.int (-1000000006)), mx_up h 41 (cI 7 (bmp (aQ A) 5))) := x.fnd (by decide) (by decide)
theorem CA.f6 (x : CA h A) : call sc d MX10_found [.ref 0, .int (-1000000007)] h = some (some (.int (-1000000007)), mx_up h 41 (cI 7 (bmp (aQ A) 6))) := x.fnd (by decide) (by decide)
theorem CA.isP (x : CA h A) {p : Int32} : call sc (d + 1) MX10_isPerson [.ref 0, .int p] h = some (some (.int (b2 (wi p 0 (gn (aF A) - 1)))), h) := by
  simp only [c_X10_isPerson, s_X10_isPerson_0, s_X10_isPerson_1, s_X10_isPerson_2, s_X10_isPerson_3, s_X10_isPerson_6, s_X10_isPerson_9, s_X10_isPerson_10, s_X10_isPerson_11, s_X10_isPerson_14, s_X10_isPerson_14_0, s_X10_isPerson_14_1, x.c0, x.p0, List.getElem?_cons_zero, List.getElem?_cons_succ, ob1_s, sp_isWithin, b2_nar, ck0, ck1, ck2, ck3, ck4, Option.toList_some, Option.toList_none, List.cons_append, List.nil_append, gf_hit, pf_hit, ai_hit, al_hit, ar_hit, ob_hit, if_true, if_false, reduceIte, reduceCtorEq]
end
