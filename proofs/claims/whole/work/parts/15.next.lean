/-! WHAT AN INSTRUCTION MUST HAVE BEEN, BY WHAT IT DID -/
section Inv
variable {α : Type} {z : α}
theorem mx_i_inv {v : Option Value} {K : Int32 → Option α} (h : mx_i v K = some z) : ∃ x, v = some (.int x) ∧ K x = some z := by
  unfold mx_i at h
  split at h
  · exact ⟨_, rfl, h⟩
  · cases h
theorem mx_j_inv {v : Option Value} {K : Int64 → Option α} (h : mx_j v K = some z) : ∃ x, v = some (.long x) ∧ K x = some z := by
  unfold mx_j at h
  split at h
  · exact ⟨_, rfl, h⟩
  · cases h
theorem mx_s2_inv {st : List Value} {K : Int32 → Nat → List Value → Option α} (h : mx_s2 st K = some z) : ∃ x a r, st = .int x :: .ref a :: r ∧ K x a r = some z := by
  unfold mx_s2 at h
  split at h
  · exact ⟨_, _, _, rfl, h⟩
  · cases h
theorem mx_si_inv {st : List Value} {K : Int32 → List Value → Option α} (h : mx_si st K = some z) : ∃ x r, st = .int x :: r ∧ K x r = some z := by
  unfold mx_si at h
  split at h
  · exact ⟨_, _, rfl, h⟩
  · cases h
theorem mx_sii_inv {st : List Value} {K : Int32 → Int32 → List Value → Option α} (h : mx_sii st K = some z) : ∃ x y r, st = .int y :: .int x :: r ∧ K x y r = some z := by
  unfold mx_sii at h
  split at h
  · exact ⟨_, _, _, rfl, h⟩
  · cases h
theorem mx_sj_inv {st : List Value} {K : Int64 → List Value → Option α} (h : mx_sj st K = some z) : ∃ x r, st = .long x :: r ∧ K x r = some z := by
  unfold mx_sj at h
  split at h
  · exact ⟨_, _, rfl, h⟩
  · cases h
theorem mx_sjj_inv {st : List Value} {K : Int64 → Int64 → List Value → Option α} (h : mx_sjj st K = some z) : ∃ x y r, st = .long y :: .long x :: r ∧ K x y r = some z := by
  unfold mx_sjj at h
  split at h
  · exact ⟨_, _, _, rfl, h⟩
  · cases h
theorem mx_sij_inv {st : List Value} {K : Int32 → Int64 → List Value → Option α} (h : mx_sij st K = some z) : ∃ y x r, st = .int y :: .long x :: r ∧ K y x r = some z := by
  unfold mx_sij at h
  split at h
  · exact ⟨_, _, _, rfl, h⟩
  · cases h
theorem mx_sr_inv {st : List Value} {K : Nat → List Value → Option α} (h : mx_sr st K = some z) : ∃ a r, st = .ref a :: r ∧ K a r = some z := by
  unfold mx_sr at h
  split at h
  · exact ⟨_, _, rfl, h⟩
  · cases h
theorem mx_siir_inv {st : List Value} {K : Int32 → Int32 → Nat → List Value → Option α} (h : mx_siir st K = some z) : ∃ x i a r, st = .int x :: .int i :: .ref a :: r ∧ K x i a r = some z := by
  unfold mx_siir at h
  split at h
  · exact ⟨_, _, _, _, rfl, h⟩
  · cases h
theorem mx_sjir_inv {st : List Value} {K : Int64 → Int32 → Nat → List Value → Option α} (h : mx_sjir st K = some z) : ∃ x i a r, st = .long x :: .int i :: .ref a :: r ∧ K x i a r = some z := by
  unfold mx_sjir at h
  split at h
  · exact ⟨_, _, _, _, rfl, h⟩
  · cases h
theorem mx_srir_inv {st : List Value} {K : Nat → Int32 → Nat → List Value → Option α} (h : mx_srir st K = some z) : ∃ x i a r, st = .ref x :: .int i :: .ref a :: r ∧ K x i a r = some z := by
  unfold mx_srir at h
  split at h
  · exact ⟨_, _, _, _, rfl, h⟩
  · cases h
theorem mx_svr_inv {st : List Value} {K : Value → Nat → List Value → Option α} (h : mx_svr st K = some z) : ∃ v a r, st = v :: .ref a :: r ∧ K v a r = some z := by
  unfold mx_svr at h
  split at h
  · exact ⟨_, _, _, rfl, h⟩
  · cases h
theorem mx_s5_inv {st : List Value} {K : Int32 → Int32 → Nat → Int32 → Nat → List Value → Option α} (h : mx_s5 st K = some z) : ∃ n dp a sp b r, st = .int n :: .int dp :: .ref a :: .int sp :: .ref b :: r ∧ K n dp a sp b r = some z := by
  unfold mx_s5 at h
  split at h
  · exact ⟨_, _, _, _, _, _, rfl, h⟩
  · cases h
theorem mx_a_inv {v : Option Value} {K : Value → Option α} (h : mx_a v K = some z) : ∃ w, v = some w ∧ ((∃ a, w = .ref a) ∨ w = .null) ∧ K w = some z := by
  unfold mx_a at h
  split at h
  · exact ⟨_, rfl, Or.inl ⟨_, rfl⟩, h⟩
  · exact ⟨_, rfl, Or.inr rfl, h⟩
  · cases h
theorem mx_s1_inv {st : List Value} {K : Value → List Value → Option α} (h : mx_s1 st K = some z) : ∃ w r, st = w :: r ∧ w.category = 1 ∧ K w r = some z := by
  unfold mx_s1 at h
  split at h
  · exact ⟨_, _, rfl, rfl, h⟩
  · exact ⟨_, _, rfl, rfl, h⟩
  · exact ⟨_, _, rfl, rfl, h⟩
  · cases h
theorem mx_gf_inv {v : Option mx_C} {ci k : Nat} {K : Value → Option α} (h : mx_gf v ci k K = some z) : ∃ fs w, v = some (.inr (ci, fs)) ∧ fs[k]? = some w ∧ K w = some z := by
  unfold mx_gf at h
  split at h
  · rename_i cj fs
    split at h
    · rename_i hc
      subst hc
      cases hw : fs[k]? with
      | none => rw [hw] at h; cases h
      | some w => rw [hw] at h; exact ⟨fs, w, rfl, hw, h⟩
    · cases h
  · cases h
theorem mx_pf_inv {v : Option mx_C} {ci k : Nat} {K : List Value → Option α} (h : mx_pf v ci k K = some z) : ∃ fs, v = some (.inr (ci, fs)) ∧ k < fs.length ∧ K fs = some z := by
  unfold mx_pf at h
  split at h
  · split at h
    · rename_i hc
      obtain ⟨rfl, hc⟩ := hc
      exact ⟨_, rfl, hc, h⟩
    · cases h
  · cases h
theorem mx_ai_inv {v : Option mx_C} {i : Int32} {K : Nat → (Nat → Int32) → Option α} (h : mx_ai v i K = some z) : ∃ n f, v = some (.inl (.int, n, .inl f)) ∧ mx_in i n = true ∧ K n f = some z := by
  unfold mx_ai at h
  split at h
  · split at h
    · rename_i hc
      exact ⟨_, _, rfl, hc, h⟩
    · cases h
  · cases h
theorem mx_ab_inv {v : Option mx_C} {i : Int32} {K : Nat → (Nat → Int32) → Option α} (h : mx_ab v i K = some z) : ∃ n f, v = some (.inl (.byte, n, .inl f)) ∧ mx_in i n = true ∧ K n f = some z := by
  unfold mx_ab at h
  split at h
  · split at h
    · rename_i hc
      exact ⟨_, _, rfl, hc, h⟩
    · cases h
  · cases h
theorem mx_al_inv {v : Option mx_C} {i : Int32} {K : Nat → (Nat → Int64) → Option α} (h : mx_al v i K = some z) : ∃ n f, v = some (.inl (.long, n, .inr (.inl f))) ∧ mx_in i n = true ∧ K n f = some z := by
  unfold mx_al at h
  split at h
  · split at h
    · rename_i hc
      exact ⟨_, _, rfl, hc, h⟩
    · cases h
  · cases h
theorem mx_ar_inv {v : Option mx_C} {i : Int32} {K : String → Nat → (Nat → Option Nat) → Option α} (h : mx_ar v i K = some z) : ∃ C n f, v = some (.inl (.object C, n, .inr (.inr (.inr (.inr f))))) ∧ mx_in i n = true ∧ K C n f = some z := by
  unfold mx_ar at h
  split at h
  · split at h
    · rename_i hc
      exact ⟨_, _, _, rfl, hc, h⟩
    · cases h
  · cases h
theorem mx_le_inv {v : Option mx_C} {K : Nat → Option α} (h : mx_le v K = some z) : ∃ ty n d, v = some (.inl (ty, n, d)) ∧ K n = some z := by
  unfold mx_le at h
  split at h
  · exact ⟨_, _, _, rfl, h⟩
  · cases h
theorem mx_ob_inv {v : Option mx_C} {K : Nat → Option α} (h : mx_ob v K = some z) : ∃ ci fs, v = some (.inr (ci, fs)) ∧ K ci = some z := by
  unfold mx_ob at h
  split at h
  · exact ⟨_, _, rfl, h⟩
  · cases h
theorem mx_cpi_inv {v w : Option mx_C} {K : Nat → (Nat → Int32) → Nat → (Nat → Int32) → Option α} {J : Nat → (Nat → Int64) → Nat → (Nat → Int64) → Option α} (h : mx_cpi v w K J = some z) : (∃ n f n1 f1, v = some (.inl (.int, n, .inl f)) ∧ w = some (.inl (.int, n1, .inl f1)) ∧ K n f n1 f1 = some z) ∨ ∃ n f n1 f1, v = some (.inl (.long, n, .inr (.inl f))) ∧ w = some (.inl (.long, n1, .inr (.inl f1))) ∧ J n f n1 f1 = some z := by
  unfold mx_cpi at h
  split at h
  · exact Or.inl ⟨_, _, _, _, rfl, rfl, h⟩
  · exact Or.inr ⟨_, _, _, _, rfl, rfl, h⟩
  · cases h
theorem mx_if_inv {P : Prop} [Decidable P] {x : Option α} (h : (if P then x else none) = some z) : P ∧ x = some z := by
  split at h
  · exact ⟨by assumption, h⟩
  · cases h
theorem mx_ifn_inv {P : Prop} [Decidable P] {x : Option α} (h : (if P then none else x) = some z) : ¬ P ∧ x = some z := by
  split at h
  · cases h
  · exact ⟨by assumption, h⟩
end Inv
theorem mx_nx_inv {pc pc' : Nat} {ls ls' : mx_L} {st st' : List Value} {g g' : mx_G} (h : mx_nx pc ls st g = some (pc', ls', st', g')) : pc' = pc ∧ ls' = ls ∧ st' = st ∧ g' = g := by
  unfold mx_nx at h
  cases h
  exact ⟨rfl, rfl, rfl, rfl⟩
theorem mx_go_inv {pc pc' : Nat} {off : Int} {ls ls' : mx_L} {st st' : List Value} {g g' : mx_G} (h : mx_go pc off ls st g = some (pc', ls', st', g')) : (pc : Int) + off = (pc' : Int) ∧ ls' = ls ∧ st' = st ∧ g' = g := by
  obtain ⟨h1, h2⟩ := mx_if_inv h
  obtain ⟨rfl, rfl, rfl, rfl⟩ := mx_nx_inv h2
  refine ⟨?_, rfl, rfl, rfl⟩
  unfold mx_tg
  omega
section Next
variable {p : Program} {l : Launch} {e : Env} {R : Room} {s : State} {m : MethodId} {args : Array Value} {below : List Frame} {meth : Method} {c : Code} {Q : State → Prop} {D : va_G} {X : Nat → Value} {A : Nat → Prop} {M : mx_M} {L0 : List Nat} {n0 s0 : Nat} {sc : mx_X}
set_option maxHeartbeats 4000000 in
set_option maxRecDepth 20000 in
theorem mx_next (F : mx_Cx p s m args meth c M) (E : mx_E sc X A s s.heap) (hA : ∀ q, s.heap.size ≤ q → A q) (hR1 : 1 ≤ R.frames) (hR2 : 34 ≤ R.locals) {pc : Nat} {ls : mx_L} {st : List Value} {g : mx_G} {i : Instr} {n : Nat} (hd : decode M.2.2.1 pc = .ok (i, n)) (hn : mx_ln i n = true) {pc' : Nat} {ls' : mx_L} {st' : List Value} {g' : mx_G} (h : mx_op sc M i pc ls st g = some (pc', ls', st', g')) (hr1 : g'.2.1 ≤ R.cells + n0) (hr2 : g'.2.2 ≤ R.slots + s0) (k : mx_OK p l e R s m args below meth c Q D X A M L0 n0 s0 pc' ls' st' g') : mx_OK p l e R s m args below meth c Q D X A M L0 n0 s0 pc ls st g := by
  cases i
  case iconst z =>
    obtain rfl : n = 1 := by simpa [mx_ln] using hn
    obtain ⟨rfl, rfl, rfl, rfl⟩ := mx_nx_inv h
    exact mw_iconst F hd k
  case bipush z =>
    obtain rfl : n = 2 := by simpa [mx_ln] using hn
    obtain ⟨rfl, rfl, rfl, rfl⟩ := mx_nx_inv h
    exact mw_bipush F hd k
  case sipush z =>
    obtain rfl : n = 3 := by simpa [mx_ln] using hn
    obtain ⟨rfl, rfl, rfl, rfl⟩ := mx_nx_inv h
    exact mw_sipush F hd k
  case lconst z =>
    obtain rfl : n = 1 := by simpa [mx_ln] using hn
    obtain ⟨rfl, rfl, rfl, rfl⟩ := mx_nx_inv h
    exact mw_lconst F hd k
  case ldc z =>
    obtain rfl : n = 2 := by simpa [mx_ln] using hn
    cases hv : mx_ldc M.1 z with
    | none => simp [mx_op, hv] at h
    | some v =>
      cases v with
      | int x =>
        have h : mx_nx (pc + 2) ls (.int x :: st) g = some (pc', ls', st', g') := by simpa [mx_op, hv] using h
        obtain ⟨rfl, rfl, rfl, rfl⟩ := mx_nx_inv h
        exact mw_ldc F E hv (fun _ => by simp) hd k
      | ref x =>
        have h : mx_nx (pc + 2) ls (.ref x :: st) g = some (pc', ls', st', g') := by simpa [mx_op, hv] using h
        obtain ⟨rfl, rfl, rfl, rfl⟩ := mx_nx_inv h
        exact mw_ldc F E hv (fun _ => by simp) hd k
      | _ => simp [mx_op, hv] at h
  case ldc_w z =>
    obtain rfl : n = 3 := by simpa [mx_ln] using hn
    cases hv : mx_ldc M.1 z with
    | none => simp [mx_op, hv] at h
    | some v =>
      cases v with
      | int x =>
        have h : mx_nx (pc + 3) ls (.int x :: st) g = some (pc', ls', st', g') := by simpa [mx_op, hv] using h
        obtain ⟨rfl, rfl, rfl, rfl⟩ := mx_nx_inv h
        exact mw_ldc_w F hv hd k
      | _ => simp [mx_op, hv] at h
  case ldc2_w z =>
    obtain rfl : n = 3 := by simpa [mx_ln] using hn
    cases hv : mx_ldc M.1 z with
    | none => simp [mx_op, hv] at h
    | some v =>
      cases v with
      | long x =>
        have h : mx_nx (pc + 3) ls (.long x :: st) g = some (pc', ls', st', g') := by simpa [mx_op, hv] using h
        obtain ⟨rfl, rfl, rfl, rfl⟩ := mx_nx_inv h
        exact mw_ldc2_w F hv hd k
      | _ => simp [mx_op, hv] at h
  case iload_n z =>
    obtain rfl : n = 1 := by simpa [mx_ln] using hn
    obtain ⟨x, hx, h⟩ := mx_i_inv h
    obtain ⟨rfl, rfl, rfl, rfl⟩ := mx_nx_inv h
    exact mw_iload_n F hd hx k
  case iload z =>
    obtain rfl : n = 2 := by simpa [mx_ln] using hn
    obtain ⟨x, hx, h⟩ := mx_i_inv h
    obtain ⟨rfl, rfl, rfl, rfl⟩ := mx_nx_inv h
    exact mw_iload F hd hx k
  case lload_n z =>
    obtain rfl : n = 1 := by simpa [mx_ln] using hn
    obtain ⟨x, hx, h⟩ := mx_j_inv h
    obtain ⟨rfl, rfl, rfl, rfl⟩ := mx_nx_inv h
    exact mw_lload_n F hd hx k
  case lload z =>
    obtain rfl : n = 2 := by simpa [mx_ln] using hn
    obtain ⟨x, hx, h⟩ := mx_j_inv h
    obtain ⟨rfl, rfl, rfl, rfl⟩ := mx_nx_inv h
    exact mw_lload F hd hx k
  case aload_n z =>
    obtain rfl : n = 1 := by simpa [mx_ln] using hn
    have h : mx_a (mx_ld ls z) (fun v => mx_nx (pc + 1) ls (v :: st) g) = some (pc', ls', st', g') := h
    obtain ⟨w, hx, hw, h⟩ := mx_a_inv h
    obtain ⟨rfl, rfl, rfl, rfl⟩ := mx_nx_inv h
    exact mw_aload_n F E.1 hw hd hx k
  case aload z =>
    obtain rfl : n = 2 := by simpa [mx_ln] using hn
    have h : mx_a (mx_ld ls z) (fun v => mx_nx (pc + 2) ls (v :: st) g) = some (pc', ls', st', g') := h
    obtain ⟨w, hx, hw, h⟩ := mx_a_inv h
    obtain ⟨rfl, rfl, rfl, rfl⟩ := mx_nx_inv h
    exact mw_aload F E.1 hw hd hx k
  case istore_n z =>
    obtain rfl : n = 1 := by simpa [mx_ln] using hn
    obtain ⟨x, r, rfl, h⟩ := mx_si_inv h
    obtain ⟨hz, h⟩ := mx_if_inv h
    obtain ⟨rfl, rfl, rfl, rfl⟩ := mx_nx_inv h
    exact mw_istore_n F E.1 hz hd k
  case istore z =>
    obtain rfl : n = 2 := by simpa [mx_ln] using hn
    obtain ⟨x, r, rfl, h⟩ := mx_si_inv h
    obtain ⟨hz, h⟩ := mx_if_inv h
    obtain ⟨rfl, rfl, rfl, rfl⟩ := mx_nx_inv h
    exact mw_istore F E.1 hz hd k
  case lstore z =>
    obtain rfl : n = 2 := by simpa [mx_ln] using hn
    obtain ⟨x, r, rfl, h⟩ := mx_sj_inv h
    obtain ⟨hz, h⟩ := mx_if_inv h
    obtain ⟨rfl, rfl, rfl, rfl⟩ := mx_nx_inv h
    exact mw_lstore F E.1 hz hd k
  case astore_n z =>
    obtain rfl : n = 1 := by simpa [mx_ln] using hn
    obtain ⟨x, r, rfl, h⟩ := mx_sr_inv h
    obtain ⟨hz, h⟩ := mx_if_inv h
    obtain ⟨rfl, rfl, rfl, rfl⟩ := mx_nx_inv h
    exact mw_astore_n F E.1 hz hd k
  case iinc z y =>
    obtain rfl : n = 3 := by simpa [mx_ln] using hn
    obtain ⟨x, hx, h⟩ := mx_i_inv h
    obtain ⟨rfl, rfl, rfl, rfl⟩ := mx_nx_inv h
    exact mw_iinc F E.1 hx hd k
  case iadd =>
    obtain rfl : n = 1 := by simpa [mx_ln] using hn
    obtain ⟨x, y, r, rfl, h⟩ := mx_sii_inv h
    obtain ⟨rfl, rfl, rfl, rfl⟩ := mx_nx_inv h
    exact mw_iadd F hd k
  case isub =>
    obtain rfl : n = 1 := by simpa [mx_ln] using hn
    obtain ⟨x, y, r, rfl, h⟩ := mx_sii_inv h
    obtain ⟨rfl, rfl, rfl, rfl⟩ := mx_nx_inv h
    exact mw_isub F hd k
  case imul =>
    obtain rfl : n = 1 := by simpa [mx_ln] using hn
    obtain ⟨x, y, r, rfl, h⟩ := mx_sii_inv h
    obtain ⟨rfl, rfl, rfl, rfl⟩ := mx_nx_inv h
    exact mw_imul F hd k
  case iand =>
    obtain rfl : n = 1 := by simpa [mx_ln] using hn
    obtain ⟨x, y, r, rfl, h⟩ := mx_sii_inv h
    obtain ⟨rfl, rfl, rfl, rfl⟩ := mx_nx_inv h
    exact mw_iand F hd k
  case ior =>
    obtain rfl : n = 1 := by simpa [mx_ln] using hn
    obtain ⟨x, y, r, rfl, h⟩ := mx_sii_inv h
    obtain ⟨rfl, rfl, rfl, rfl⟩ := mx_nx_inv h
    exact mw_ior F hd k
  case ixor =>
    obtain rfl : n = 1 := by simpa [mx_ln] using hn
    obtain ⟨x, y, r, rfl, h⟩ := mx_sii_inv h
    obtain ⟨rfl, rfl, rfl, rfl⟩ := mx_nx_inv h
    exact mw_ixor F hd k
  case ishl =>
    obtain rfl : n = 1 := by simpa [mx_ln] using hn
    obtain ⟨x, y, r, rfl, h⟩ := mx_sii_inv h
    obtain ⟨rfl, rfl, rfl, rfl⟩ := mx_nx_inv h
    exact mw_ishl F hd k
  case ishr =>
    obtain rfl : n = 1 := by simpa [mx_ln] using hn
    obtain ⟨x, y, r, rfl, h⟩ := mx_sii_inv h
    obtain ⟨rfl, rfl, rfl, rfl⟩ := mx_nx_inv h
    exact mw_ishr F hd k
  case iushr =>
    obtain rfl : n = 1 := by simpa [mx_ln] using hn
    obtain ⟨x, y, r, rfl, h⟩ := mx_sii_inv h
    obtain ⟨rfl, rfl, rfl, rfl⟩ := mx_nx_inv h
    exact mw_iushr F hd k
  case idiv =>
    obtain rfl : n = 1 := by simpa [mx_ln] using hn
    obtain ⟨x, y, r, rfl, h⟩ := mx_sii_inv h
    obtain ⟨hy, h⟩ := mx_ifn_inv h
    obtain ⟨rfl, rfl, rfl, rfl⟩ := mx_nx_inv h
    exact mw_idiv F hy hd k
  case irem =>
    obtain rfl : n = 1 := by simpa [mx_ln] using hn
    obtain ⟨x, y, r, rfl, h⟩ := mx_sii_inv h
    obtain ⟨hy, h⟩ := mx_ifn_inv h
    obtain ⟨rfl, rfl, rfl, rfl⟩ := mx_nx_inv h
    exact mw_irem F hy hd k
  case ladd =>
    obtain rfl : n = 1 := by simpa [mx_ln] using hn
    obtain ⟨x, y, r, rfl, h⟩ := mx_sjj_inv h
    obtain ⟨rfl, rfl, rfl, rfl⟩ := mx_nx_inv h
    exact mw_ladd F hd k
  case lsub =>
    obtain rfl : n = 1 := by simpa [mx_ln] using hn
    obtain ⟨x, y, r, rfl, h⟩ := mx_sjj_inv h
    obtain ⟨rfl, rfl, rfl, rfl⟩ := mx_nx_inv h
    exact mw_lsub F hd k
  case lmul =>
    obtain rfl : n = 1 := by simpa [mx_ln] using hn
    obtain ⟨x, y, r, rfl, h⟩ := mx_sjj_inv h
    obtain ⟨rfl, rfl, rfl, rfl⟩ := mx_nx_inv h
    exact mw_lmul F hd k
  case land =>
    obtain rfl : n = 1 := by simpa [mx_ln] using hn
    obtain ⟨x, y, r, rfl, h⟩ := mx_sjj_inv h
    obtain ⟨rfl, rfl, rfl, rfl⟩ := mx_nx_inv h
    exact mw_land F hd k
  case lor =>
    obtain rfl : n = 1 := by simpa [mx_ln] using hn
    obtain ⟨x, y, r, rfl, h⟩ := mx_sjj_inv h
    obtain ⟨rfl, rfl, rfl, rfl⟩ := mx_nx_inv h
    exact mw_lor F hd k
  case lcmp =>
    obtain rfl : n = 1 := by simpa [mx_ln] using hn
    obtain ⟨x, y, r, rfl, h⟩ := mx_sjj_inv h
    obtain ⟨rfl, rfl, rfl, rfl⟩ := mx_nx_inv h
    exact mw_lcmp F hd k
  case lshl =>
    obtain rfl : n = 1 := by simpa [mx_ln] using hn
    obtain ⟨y, x, r, rfl, h⟩ := mx_sij_inv h
    obtain ⟨rfl, rfl, rfl, rfl⟩ := mx_nx_inv h
    exact mw_lshl F hd k
  case lshr =>
    obtain rfl : n = 1 := by simpa [mx_ln] using hn
    obtain ⟨y, x, r, rfl, h⟩ := mx_sij_inv h
    obtain ⟨rfl, rfl, rfl, rfl⟩ := mx_nx_inv h
    exact mw_lshr F hd k
  case i2l =>
    obtain rfl : n = 1 := by simpa [mx_ln] using hn
    obtain ⟨x, r, rfl, h⟩ := mx_si_inv h
    obtain ⟨rfl, rfl, rfl, rfl⟩ := mx_nx_inv h
    exact mw_i2l F hd k
  case l2i =>
    obtain rfl : n = 1 := by simpa [mx_ln] using hn
    obtain ⟨x, r, rfl, h⟩ := mx_sj_inv h
    obtain ⟨rfl, rfl, rfl, rfl⟩ := mx_nx_inv h
    exact mw_l2i F hd k
  case i2b =>
    obtain rfl : n = 1 := by simpa [mx_ln] using hn
    obtain ⟨x, r, rfl, h⟩ := mx_si_inv h
    obtain ⟨rfl, rfl, rfl, rfl⟩ := mx_nx_inv h
    exact mw_i2b F hd k
  case i2s =>
    obtain rfl : n = 1 := by simpa [mx_ln] using hn
    obtain ⟨x, r, rfl, h⟩ := mx_si_inv h
    obtain ⟨rfl, rfl, rfl, rfl⟩ := mx_nx_inv h
    exact mw_i2s F hd k
  case i2c =>
    obtain rfl : n = 1 := by simpa [mx_ln] using hn
    obtain ⟨x, r, rfl, h⟩ := mx_si_inv h
    obtain ⟨rfl, rfl, rfl, rfl⟩ := mx_nx_inv h
    exact mw_i2c F hd k
  case dup =>
    obtain rfl : n = 1 := by simpa [mx_ln] using hn
    have h : mx_s1 st (fun v r => mx_nx (pc + 1) ls (v :: v :: r) g) = some (pc', ls', st', g') := h
    obtain ⟨w, r, rfl, hw, h⟩ := mx_s1_inv h
    obtain ⟨rfl, rfl, rfl, rfl⟩ := mx_nx_inv h
    exact mw_dup F E.1 hw hd k
  case pop =>
    obtain rfl : n = 1 := by simpa [mx_ln] using hn
    have h : mx_s1 st (fun _ r => mx_nx (pc + 1) ls r g) = some (pc', ls', st', g') := h
    obtain ⟨w, r, rfl, hw, h⟩ := mx_s1_inv h
    obtain ⟨rfl, rfl, rfl, rfl⟩ := mx_nx_inv h
    exact mw_pop F E.1 hw hd k
  case dup2 =>
    obtain rfl : n = 1 := by simpa [mx_ln] using hn
    obtain ⟨x, a, r, rfl, h⟩ := mx_s2_inv h
    obtain ⟨rfl, rfl, rfl, rfl⟩ := mx_nx_inv h
    exact mw_dup2 F E.1 rfl rfl hd k
  case goto z =>
    obtain rfl : n = 3 := by simpa [mx_ln] using hn
    obtain ⟨ht, rfl, rfl, rfl⟩ := mx_go_inv h
    exact mw_goto F ht hd k
  case ifCond cd off =>
    obtain rfl : n = 3 := by simpa [mx_ln] using hn
    obtain ⟨x, r, rfl, h⟩ := mx_si_inv h
    have h : mx_br (mx_cd cd x 0) pc off ls r g = _ := h
    obtain ⟨h0, h⟩ := mx_if_inv h
    have ht : (pc : Int) + off = ((mx_tg pc off : Nat) : Int) := by unfold mx_tg; omega
    by_cases hb : mx_cd cd x 0 = true
    · rw [if_pos hb] at h
      obtain ⟨rfl, rfl, rfl, rfl⟩ := mx_nx_inv h
      exact mw_if F ht hd (fun _ => k) (fun hf => absurd (hb.symm.trans hf) (by decide))
    · rw [if_neg hb] at h
      obtain ⟨rfl, rfl, rfl, rfl⟩ := mx_nx_inv h
      have hb2 : mx_cd cd x 0 = false := by simpa using hb
      exact mw_if F ht hd (fun ht => absurd (hb2.symm.trans ht) (by decide)) (fun _ => k)
  case if_icmp cd off =>
    obtain rfl : n = 3 := by simpa [mx_ln] using hn
    obtain ⟨x, y, r, rfl, h⟩ := mx_sii_inv h
    have h : mx_br (mx_cd cd x y) pc off ls r g = _ := h
    obtain ⟨h0, h⟩ := mx_if_inv h
    have ht : (pc : Int) + off = ((mx_tg pc off : Nat) : Int) := by unfold mx_tg; omega
    by_cases hb : mx_cd cd x y = true
    · rw [if_pos hb] at h
      obtain ⟨rfl, rfl, rfl, rfl⟩ := mx_nx_inv h
      exact mw_icmp F ht hd (fun _ => k) (fun hf => absurd (hb.symm.trans hf) (by decide))
    · rw [if_neg hb] at h
      obtain ⟨rfl, rfl, rfl, rfl⟩ := mx_nx_inv h
      have hb2 : mx_cd cd x y = false := by simpa using hb
      exact mw_icmp F ht hd (fun ht => absurd (hb2.symm.trans ht) (by decide)) (fun _ => k)
  case tableswitch d lo hi offs =>
    simp only [mx_op] at h
    obtain ⟨x, r, rfl, hz⟩ := mx_si_inv h
    have h := hz
    by_cases hx : x.toInt < lo ∨ hi < x.toInt
    · rw [if_pos hx] at h
      obtain ⟨ht, rfl, rfl, rfl⟩ := mx_go_inv h
      exact mw_tableO F hx ht hd k
    · rw [if_neg hx] at h
      cases ho : offs[(x.toInt - lo).toNat]? with
      | none => rw [ho] at h; cases h
      | some off =>
        rw [ho] at h
        obtain ⟨ht, rfl, rfl, rfl⟩ := mx_go_inv h
        exact mw_tableI F hx ho ht hd k
  case getfield z =>
    obtain rfl : n = 3 := by simpa [mx_ln] using hn
    simp only [mx_op] at h
    obtain ⟨a, r, rfl, hz⟩ := mx_sr_inv h
    have h := hz
    cases hf : mx_fld M.1 z with
    | some q =>
      obtain ⟨ci, j, nest⟩ := q
      rw [hf] at h
      obtain ⟨fs, v, ha, hv, h⟩ := mx_gf_inv h
      obtain ⟨rfl, rfl, rfl, rfl⟩ := mx_nx_inv h
      exact mw_getfield F E hf ha hv hd k
    | none =>
      rw [hf] at h
      cases hv : mx_xf M.1 z a with
      | none => rw [hv] at h; cases h
      | some v =>
        rw [hv] at h
        obtain ⟨rfl, rfl, rfl, rfl⟩ := mx_nx_inv h
        exact mw_getfieldX F E hv hd k
  case putfield z =>
    obtain rfl : n = 3 := by simpa [mx_ln] using hn
    simp only [mx_op] at h
    obtain ⟨v, a, r, rfl, hz⟩ := mx_svr_inv h
    have h := hz
    cases hf : mx_fld M.1 z with
    | some q =>
      obtain ⟨ci, j, nest⟩ := q
      rw [hf] at h
      obtain ⟨fs, ha, hj, h⟩ := mx_pf_inv h
      obtain ⟨hfit, h⟩ := mx_if_inv h
      obtain ⟨rfl, rfl, rfl, rfl⟩ := mx_nx_inv h
      exact mw_putfield F E hf ha hj hfit hd k
    | none => rw [hf] at h; cases h
  case getstatic z =>
    obtain rfl : n = 3 := by simpa [mx_ln] using hn
    cases hv : mx_gs M.1 z with
    | none => simp [mx_op, hv] at h
    | some v =>
      have h : mx_nx (pc + 3) ls (v :: st) g = some (pc', ls', st', g') := by simpa [mx_op, hv] using h
      obtain ⟨rfl, rfl, rfl, rfl⟩ := mx_nx_inv h
      exact mw_getstatic F E hv hd k
  case iaload =>
    obtain rfl : n = 1 := by simpa [mx_ln] using hn
    obtain ⟨i, a, r, rfl, h⟩ := mx_s2_inv h
    obtain ⟨n, f, ha, hi, h⟩ := mx_ai_inv h
    obtain ⟨rfl, rfl, rfl, rfl⟩ := mx_nx_inv h
    exact mw_iaload F E ha hi hd k
  case baload =>
    obtain rfl : n = 1 := by simpa [mx_ln] using hn
    obtain ⟨i, a, r, rfl, h⟩ := mx_s2_inv h
    obtain ⟨n, f, ha, hi, h⟩ := mx_ab_inv h
    obtain ⟨rfl, rfl, rfl, rfl⟩ := mx_nx_inv h
    exact mw_baload F E ha hi hd k
  case laload =>
    obtain rfl : n = 1 := by simpa [mx_ln] using hn
    obtain ⟨i, a, r, rfl, h⟩ := mx_s2_inv h
    obtain ⟨n, f, ha, hi, h⟩ := mx_al_inv h
    obtain ⟨rfl, rfl, rfl, rfl⟩ := mx_nx_inv h
    exact mw_laload F ha hi hd k
  case aaload =>
    obtain rfl : n = 1 := by simpa [mx_ln] using hn
    obtain ⟨i, a, r, rfl, h⟩ := mx_s2_inv h
    obtain ⟨C, n, f, ha, hi, h⟩ := mx_ar_inv h
    obtain ⟨rfl, rfl, rfl, rfl⟩ := mx_nx_inv h
    exact mw_aaload F ha hi hd k
  case iastore =>
    obtain rfl : n = 1 := by simpa [mx_ln] using hn
    obtain ⟨x, i, a, r, rfl, h⟩ := mx_siir_inv h
    obtain ⟨n, f, ha, hi, h⟩ := mx_ai_inv h
    obtain ⟨rfl, rfl, rfl, rfl⟩ := mx_nx_inv h
    exact mw_iastore F ha hi hd k
  case lastore =>
    obtain rfl : n = 1 := by simpa [mx_ln] using hn
    obtain ⟨x, i, a, r, rfl, h⟩ := mx_sjir_inv h
    obtain ⟨n, f, ha, hi, h⟩ := mx_al_inv h
    obtain ⟨rfl, rfl, rfl, rfl⟩ := mx_nx_inv h
    exact mw_lastore F ha hi hd k
  case aastore =>
    obtain rfl : n = 1 := by simpa [mx_ln] using hn
    obtain ⟨x, i, a, r, rfl, h⟩ := mx_srir_inv h
    obtain ⟨C, n, f, ha, hi, h⟩ := mx_ar_inv h
    obtain ⟨ci, fs, hx, h⟩ := mx_ob_inv h
    obtain ⟨hc, h⟩ := mx_if_inv h
    obtain ⟨rfl, rfl, rfl, rfl⟩ := mx_nx_inv h
    exact mw_aastore F E ha hx hc hi hd k
  case arraylength =>
    obtain rfl : n = 1 := by simpa [mx_ln] using hn
    obtain ⟨a, r, rfl, h⟩ := mx_sr_inv h
    obtain ⟨ty, n, d, ha, h⟩ := mx_le_inv h
    obtain ⟨rfl, rfl, rfl, rfl⟩ := mx_nx_inv h
    exact mw_arraylength F E ha hd k
  case newarray ty =>
    obtain rfl : n = 2 := by simpa [mx_ln] using hn
    cases ty
    case int =>
      obtain ⟨x, r, rfl, h⟩ := mx_si_inv h
      obtain ⟨⟨h1, h2, h3⟩, h⟩ := mx_if_inv h
      obtain ⟨rfl, rfl, rfl, rfl⟩ := mx_nx_inv h
      exact mw_newarrayI F hA h1 h2 h3 hr1 hr2 hd k
    case long =>
      obtain ⟨x, r, rfl, h⟩ := mx_si_inv h
      obtain ⟨⟨h1, h2, h3⟩, h⟩ := mx_if_inv h
      obtain ⟨rfl, rfl, rfl, rfl⟩ := mx_nx_inv h
      exact mw_newarrayL F hA h1 h2 h3 hr1 hr2 hd k
    all_goals cases h
  case anewarray z =>
    obtain rfl : n = 3 := by simpa [mx_ln] using hn
    simp only [mx_op] at h
    obtain ⟨x, r, rfl, hz⟩ := mx_si_inv h
    have h := hz
    cases hv : mx_acl M.1 z with
    | none => rw [hv] at h; cases h
    | some C =>
      rw [hv] at h
      obtain ⟨⟨h1, h2, h3⟩, h⟩ := mx_if_inv h
      obtain ⟨rfl, rfl, rfl, rfl⟩ := mx_nx_inv h
      exact mw_anewarray F E hA hv h1 h2 h3 hr1 hr2 hd k
  case new z =>
    obtain rfl : n = 3 := by simpa [mx_ln] using hn
    cases hv : mx_ncl M.1 z with
    | none => simp [mx_op, hv] at h
    | some ci =>
      have h : (if g.2.1 < 900 then mx_nx (pc + 3) ls (.ref g.2.1 :: st) (mx_nw g (.inr (ci, mx_dfl ci)) (mx_dfl ci).length) else none) = some (pc', ls', st', g') := by simpa [mx_op, hv] using h
      obtain ⟨h3, h⟩ := mx_if_inv h
      obtain ⟨rfl, rfl, rfl, rfl⟩ := mx_nx_inv h
      exact mw_new F hA hv h3 hr1 hr2 hd k
  case invokestatic z =>
    obtain rfl : n = 3 := by simpa [mx_ln] using hn
    have h : (if mx_mmn M.1 z then _ else _) = _ := h
    by_cases hm : mx_mmn M.1 z = true
    · rw [if_pos hm] at h
      obtain ⟨x, y, r, rfl, h⟩ := mx_sii_inv h
      obtain ⟨h1, h⟩ := mx_if_inv h
      obtain ⟨rfl, rfl, rfl, rfl⟩ := mx_nx_inv h
      exact mw_min F E hm h1 hR1 hR2 hr1 hr2 hd k
    · rw [if_neg hm] at h
      by_cases hc : mx_acp M.1 z = true
      · rw [if_pos hc] at h
        obtain ⟨n, dp, a, sp, b, r, rfl, h⟩ := mx_s5_inv h
        obtain ⟨⟨h1, h2, h3, h4⟩, h⟩ := mx_if_inv h
        rcases mx_cpi_inv h with ⟨nb, fb, na, fa, hb, ha, h⟩ | ⟨nb, fb, na, fa, hb, ha, h⟩
        · obtain ⟨⟨h5, h6⟩, h⟩ := mx_if_inv h
          obtain ⟨rfl, rfl, rfl, rfl⟩ := mx_nx_inv h
          exact mw_copyI F E hc h1 hR1 hR2 h2 h3 h4 hb ha h5 h6 hd k
        · obtain ⟨⟨h5, h6⟩, h⟩ := mx_if_inv h
          obtain ⟨rfl, rfl, rfl, rfl⟩ := mx_nx_inv h
          exact mw_copyL F E hc h1 hR1 hR2 h2 h3 h4 hb ha h5 h6 hd k
      · rw [if_neg hc] at h
        cases h
  case invokespecial z =>
    obtain rfl : n = 3 := by simpa [mx_ln] using hn
    have h : (if mx_oin M.1 z then _ else _) = _ := h
    by_cases hm : mx_oin M.1 z = true
    · rw [if_pos hm] at h
      obtain ⟨a, r, rfl, h⟩ := mx_sr_inv h
      obtain ⟨⟨h1, h2⟩, h⟩ := mx_if_inv h
      obtain ⟨rfl, rfl, rfl, rfl⟩ := mx_nx_inv h
      exact mw_objInit F E hm h2 h1 hR1 hR2 hd k
    · rw [if_neg hm] at h
      cases h
  all_goals (exfalso; cases h)
end Next
