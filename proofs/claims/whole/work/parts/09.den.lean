/-! WHAT THE MACHINE COMPUTES: the limit of mx_run, and its equation -/
theorem mx_F_mono {f f' : Nat → mx_M → Nat → mx_L → List Value → mx_G → Option mx_R} (h : ∀ d M pc ls st g r, f d M pc ls st g = some r → f' d M pc ls st g = some r) {d : Nat} {M : mx_M} {g : mx_G} {x : mx_S} {r : mx_R} (hr : mx_F f d M g x = some r) : mx_F f' d M g x = some r := by
  unfold mx_F at hr ⊢
  match x, hr with
  | some (pc', ls', st', g'), hr =>
    dsimp only at hr ⊢
    split at hr
    · rename_i hc
      rw [if_pos hc]
      exact h _ _ _ _ _ _ _ hr
    · cases hr
theorem mx_K_mono {f f' : Nat → mx_M → Nat → mx_L → List Value → mx_G → Option mx_R} (h : ∀ d M pc ls st g r, f d M pc ls st g = some r → f' d M pc ls st g = some r) {d : Nat} {M : mx_M} {pc : Nat} {ls : mx_L} {g : mx_G} {x : mx_M × List Value × List Value} {r : mx_R} (hr : mx_K f d M pc ls g x = some r) : mx_K f' d M pc ls g x = some r := by
  unfold mx_K at hr ⊢
  cases d with
  | zero => exact hr
  | succ d =>
    dsimp only at hr ⊢
    split at hr
    · rename_i hc
      rw [if_pos hc]
      cases hq : f d x.1 0 (mx_en x.1 x.2.1) [] g with
      | none => rw [hq] at hr; cases hr
      | some q =>
        rw [hq] at hr
        rw [h _ _ _ _ _ _ _ hq]
        exact h _ _ _ _ _ _ _ hr
    · cases hr
theorem mx_T_mono {sc : mx_X} {f f' : Nat → mx_M → Nat → mx_L → List Value → mx_G → Option mx_R} (h : ∀ d M pc ls st g r, f d M pc ls st g = some r → f' d M pc ls st g = some r) {d : Nat} {M : mx_M} {pc : Nat} {ls : mx_L} {st : List Value} {g : mx_G} {r : mx_R} (hr : mx_T sc f d M pc ls st g = some r) : mx_T sc f' d M pc ls st g = some r := by
  unfold mx_T at hr ⊢
  split at hr
  · rename_i i n he
    split at hr
    · rename_i hc
      simp only [hc, if_true]
      cases hv : mx_rt M i st with
      | some v => rw [hv] at hr; exact hr
      | none =>
        rw [hv] at hr
        cases hk : mx_cl M i st g with
        | some x => simp only [hk] at hr ⊢; exact mx_K_mono h hr
        | none => simp only [hk] at hr ⊢; exact mx_F_mono h hr
    · cases hr
  · cases hr
theorem mx_run_succ {sc : mx_X} : ∀ (n : Nat) (d : Nat) (M : mx_M) (pc : Nat) (ls : mx_L) (st : List Value) (g : mx_G) (r : mx_R), mx_run sc n d M pc ls st g = some r → mx_run sc (n + 1) d M pc ls st g = some r
  | 0, _, _, _, _, _, _, _, h => by cases h
  | n + 1, _, _, _, _, _, _, _, h => mx_T_mono (mx_run_succ n) h
theorem mx_run_le {sc : mx_X} {n k : Nat} (hk : n ≤ k) {d : Nat} {M : mx_M} {pc : Nat} {ls : mx_L} {st : List Value} {g : mx_G} {r : mx_R} (h : mx_run sc n d M pc ls st g = some r) : mx_run sc k d M pc ls st g = some r := by
  induction hk with
  | refl => exact h
  | step _ ih => exact mx_run_succ _ _ _ _ _ _ _ _ ih
noncomputable def den (sc : mx_X) (d : Nat) (M : mx_M) (pc : Nat) (ls : mx_L) (st : List Value) (g : mx_G) : Option mx_R :=
  @dite _ (∃ r, ∃ n, mx_run sc n d M pc ls st g = some r) (Classical.propDecidable _) (fun h => some (Classical.choose h)) (fun _ => none)
theorem den_some {sc : mx_X} {d : Nat} {M : mx_M} {pc : Nat} {ls : mx_L} {st : List Value} {g : mx_G} {r : mx_R} : den sc d M pc ls st g = some r ↔ ∃ n, mx_run sc n d M pc ls st g = some r := by
  unfold den
  constructor
  · intro h
    split at h
    · rename_i hx
      cases h
      exact Classical.choose_spec hx
    · cases h
  · rintro ⟨n, hn⟩
    have hx : ∃ r, ∃ n, mx_run sc n d M pc ls st g = some r := ⟨r, n, hn⟩
    rw [dif_pos hx]
    obtain ⟨k, hk⟩ := Classical.choose_spec hx
    have h1 := mx_run_le (Nat.le_max_left n k) hn
    have h2 := mx_run_le (Nat.le_max_right n k) hk
    exact h2.symm.trans h1
theorem den_eq (sc : mx_X) (d : Nat) (M : mx_M) (pc : Nat) (ls : mx_L) (st : List Value) (g : mx_G) : den sc d M pc ls st g = mx_T sc (den sc) d M pc ls st g := by
  have key : ∀ r, den sc d M pc ls st g = some r ↔ mx_T sc (den sc) d M pc ls st g = some r := by
    intro r
    constructor
    · intro h
      obtain ⟨n, hn⟩ := den_some.mp h
      cases n with
      | zero => cases hn
      | succ n => exact mx_T_mono (fun d M pc ls st g r h => den_some.mpr ⟨n, h⟩) hn
    · intro h
      have hn : ∃ n, mx_T sc (mx_run sc n) d M pc ls st g = some r := by
        unfold mx_T at h ⊢
        split at h
        · split at h
          · rename_i i n he hc
            simp only [hc, if_true]
            cases hv : mx_rt M i st with
            | some v => rw [hv] at h; exact ⟨0, h⟩
            | none =>
            rw [hv] at h
            dsimp only at h ⊢
            cases hk : mx_cl M i st g with
            | none =>
              simp only [hk] at h ⊢
              unfold mx_F at h ⊢
              generalize mx_op sc M i pc ls st g = x at h ⊢
              match x, h with
              | some (pc', ls', st', g'), h =>
                dsimp only at h ⊢
                split at h
                · rename_i hc
                  simp only [hc, if_true, and_self]
                  exact den_some.mp h
                · cases h
            | some x =>
              simp only [hk] at h ⊢
              unfold mx_K at h ⊢
              cases d with
              | zero => cases h
              | succ d =>
                dsimp only at h ⊢
                split at h
                · rename_i hc
                  simp only [hc, if_true]
                  cases hq : den sc d x.1 0 (mx_en x.1 x.2.1) [] g with
                  | none => rw [hq] at h; cases h
                  | some q =>
                    rw [hq] at h
                    obtain ⟨n1, h1⟩ := den_some.mp hq
                    obtain ⟨n2, h2⟩ := den_some.mp h
                    refine ⟨max n1 n2, ?_⟩
                    rw [mx_run_le (Nat.le_max_left n1 n2) h1]
                    exact mx_run_le (Nat.le_max_right n1 n2) h2
                · cases h
          · cases h
        · cases h
      obtain ⟨n, hn⟩ := hn
      exact den_some.mpr ⟨n + 1, hn⟩
  cases h : den sc d M pc ls st g with
  | some r => exact ((key r).mp h).symm
  | none =>
    cases h2 : mx_T sc (den sc) d M pc ls st g with
    | none => rfl
    | some r => rw [(key r).mpr h2] at h; cases h
