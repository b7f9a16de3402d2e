/-! THE WHOLE RUN -/
theorem mx_run_mon {sc : mx_X} : ∀ (n d : Nat) (M : mx_M) (pc : Nat) (ls : mx_L) (st : List Value) (g : mx_G) (r : mx_R), mx_run sc n d M pc ls st g = some r → g.2.1 ≤ r.2.2.1 ∧ g.2.2 ≤ r.2.2.2 := by
  intro n
  induction n with
  | zero => intro d M pc ls st g r h; cases h
  | succ n ih =>
    intro d M pc ls st g r h
    have h : mx_T sc (mx_run sc n) d M pc ls st g = some r := h
    unfold mx_T at h
    split at h
    · rename_i i k he
      obtain ⟨hln, h⟩ := mx_if_inv h
      cases hv : mx_rt M i st with
      | some v =>
        rw [hv] at h
        cases h
        exact ⟨Nat.le_refl _, Nat.le_refl _⟩
      | none =>
        rw [hv] at h
        dsimp only at h
        cases hk : mx_cl M i st g with
        | some x =>
          rw [hk] at h
          dsimp only at h
          unfold mx_K at h
          cases d with
          | zero => cases h
          | succ d =>
            dsimp only at h
            obtain ⟨hok, h⟩ := mx_if_inv h
            cases hq : mx_run sc n d x.1 0 (mx_en x.1 x.2.1) [] g with
            | none => rw [hq] at h; cases h
            | some q =>
              rw [hq] at h
              have h1 := ih _ _ _ _ _ _ _ hq
              have h2 := ih _ _ _ _ _ _ _ h
              exact ⟨Nat.le_trans h1.1 h2.1, Nat.le_trans h1.2 h2.2⟩
        | none =>
          rw [hk] at h
          dsimp only at h
          unfold mx_F at h
          split at h
          · cases h
          · obtain ⟨hc, h⟩ := mx_if_inv h
            have h2 := ih _ _ _ _ _ _ _ h
            exact ⟨Nat.le_trans hc.1 h2.1, Nat.le_trans hc.2 h2.2⟩
    · cases h
theorem mx_cl_good {M M' : mx_M} {i : Instr} {st as rest : List Value} {g : mx_G} (h : mx_cl M i st g = some (M', as, rest)) : mx_good M' := by
  cases i
  case invokestatic k =>
    simp only [mx_cl] at h
    split at h
    · rename_i hcall
      obtain ⟨-, h⟩ := mx_if_inv h
      obtain ⟨rfl, -⟩ := mx_inv_inv h
      exact (mx_call_ok hcall).1
    · cases h
  case invokespecial k =>
    simp only [mx_cl] at h
    split at h
    · rename_i hcall
      obtain ⟨-, h⟩ := mx_if_inv h
      split at h
      · obtain ⟨ci, fs, -, h⟩ := mx_ob_inv h
        obtain ⟨rfl, -⟩ := mx_inv_inv h
        exact (mx_call_ok hcall).1
      · cases h
    · cases h
  case invokevirtual k =>
    simp only [mx_cl] at h
    split at h
    · split at h
      · split at h
        · rename_i hcall
          obtain ⟨-, h⟩ := mx_if_inv h
          obtain ⟨rfl, -⟩ := mx_inv_inv h
          exact (mx_call_ok hcall).1
        · cases h
      · cases h
    · cases h
  all_goals cases h
theorem mx_sl {X : Nat → Value} {L : List Nat} (hX : ∀ k, X k = .null ∨ ∃ a, X k = .ref a) : ∀ {as ras : List Value}, mx_vrs X L as ras → (lg_sl ras).length = (mx_slots as).length ∧ ∀ (i : Nat) (v : Value), (mx_slots as)[i]? = some (some v) → ∃ w, mx_vr X L v w ∧ (lg_sl ras)[i]? = some (.val w)
  | [], [], _ => ⟨rfl, fun i v h => by simp [mx_slots] at h⟩
  | v :: as, w :: ras, h => by
    obtain ⟨ih1, ih2⟩ := mx_sl hX h.2
    have hcat := mx_vr_cat hX h.1
    by_cases hc : w.category = 2
    · have hs : mx_slots (v :: as) = some v :: none :: mx_slots as := by
        rw [hc] at hcat
        cases v <;> first | rfl | (simp [Value.category] at hcat)
      have hr : lg_sl (w :: ras) = .val w :: .second :: lg_sl ras := by simp [lg_sl, hc]
      rw [hs, hr]
      refine ⟨by simp [ih1], fun i u hu => ?_⟩
      match i, hu with
      | 0, hu =>
        simp at hu
        subst hu
        exact ⟨w, h.1, rfl⟩
      | 1, hu => simp at hu
      | i + 2, hu => exact ih2 i u hu
    · have hs : mx_slots (v :: as) = some v :: mx_slots as := by
        cases v <;> first | rfl | exact absurd hcat hc
      have hr : lg_sl (w :: ras) = .val w :: lg_sl ras := by simp [lg_sl, hc]
      rw [hs, hr]
      refine ⟨by simp [ih1], fun i u hu => ?_⟩
      match i, hu with
      | 0, hu =>
        simp at hu
        subst hu
        exact ⟨w, h.1, rfl⟩
      | i + 1, hu => exact ih2 i u hu
  | [], _ :: _, h => by cases h
  | _ :: _, [], h => by cases h
theorem mx_entry {X : Nat → Value} {L : List Nat} {M : mx_M} {as ras : List Value} (hX : ∀ k, X k = .null ∨ ∃ a, X k = .ref a) (hv : mx_vrs X L as ras) (hok : mx_ok M as = true) : mx_lr X L (mx_en M as) ((lg_sl ras ++ List.replicate (M.2.2.2.1 - (lg_sl ras).length) Slot.unset).toArray) M.2.2.2.1 := by
  obtain ⟨h1, h2⟩ := mx_sl hX hv
  have hle : (mx_slots as).length ≤ M.2.2.2.1 := by simpa [mx_ok] using hok
  have he := lv_entry ras (n := M.2.2.2.1) (by rw [h1]; exact hle)
  refine ⟨he.1, he.2.1, by unfold mx_en; simp; omega, fun i v hi => ?_⟩
  unfold mx_en at hi
  by_cases hlt : i < (mx_slots as).length
  · rw [List.getElem?_append_left hlt] at hi
    obtain ⟨w, hw1, hw2⟩ := h2 i v hi
    refine ⟨w, hw1, ?_⟩
    rw [List.getElem?_toArray, List.getElem?_append_left (by rw [h1]; exact hlt)]
    exact hw2
  · rw [List.getElem?_append_right (by omega), List.getElem?_replicate] at hi
    split at hi <;> cases hi
/-- the method's ends -/
def mx_End (p : Program) (l : Launch) (e : Env) (R : Room) (s : State) (m : MethodId) (args : Array Value) (below : List Frame) (meth : Method) (c : Code) (Q : State → Prop) (D : va_G) (X : Nat → Value) (A : Nat → Prop) (M : mx_M) (L0 : List Nat) (n0 s0 : Nat) (r : mx_R) : Prop :=
  ∀ (pc : Nat) (i : Instr) (n : Nat) (ls : mx_L) (st : List Value) (g : mx_G) (v : Option Value), decode M.2.2.1 pc = .ok (i, n) → mx_ln i n = true → mx_rt M i st = some v → (v, g) = r → mx_OK p l e R s m args below meth c Q D X A M L0 n0 s0 pc ls st g
def mx_Snd (l : Launch) (sc : mx_X) (D : va_G) (X : Nat → Value) (n : Nat) : Prop := ∀ (d : Nat) (M : mx_M) (pc : Nat) (ls : mx_L) (st : List Value) (g : mx_G) (r : mx_R), mx_run sc n d M pc ls st g = some r →
  ∀ (p : Program) (e : Env) (R : Room) (s : State) (m : MethodId) (args : Array Value) (below : List Frame) (meth : Method) (c : Code) (Q : State → Prop) (A : Nat → Prop) (L0 : List Nat) (n0 s0 : Nat), mx_Cx p s m args meth c M → mx_E sc X A s s.heap → (∀ q, s.heap.size ≤ q → A q) → d + 1 ≤ R.frames → 34 * (d + 1) ≤ R.locals → r.2.2.1 ≤ R.cells + n0 → r.2.2.2 ≤ R.slots + s0 → mx_End p l e R s m args below meth c Q D X A M L0 n0 s0 r → mx_OK p l e R s m args below meth c Q D X A M L0 n0 s0 pc ls st g
theorem mx_met {l : Launch} {sc : mx_X} {D : va_G} {X : Nat → Value} {n : Nat} (ih : mx_Snd l sc D X n) (hX : ∀ k, X k = .null ∨ ∃ a, X k = .ref a) {d : Nat} {M : mx_M} {as : List Value} {g : mx_G} {r : mx_R} (hg : mx_good M) (hok : mx_ok M as = true) (hrun : mx_run sc n d M 0 (mx_en M as) [] g = some r) : mx_Me l sc D X d M as g r := by
  intro L tys ws ras sz hRL hvs
  have hmon := mx_run_mon _ _ _ _ _ _ _ _ hrun
  refine Met.ofW (cc := M.2.2.1) (maxL := M.2.2.2.1) (ret := M.2.2.2.2) hg.2.1 rfl ?_
  intro p e s m args below meth c s₁ B hml hv
  obtain ⟨rfl, hsz, hP, hK, hD0, hE⟩ := hv
  subst hsz
  have F : mx_Cx p s m ras.toArray meth c M := ⟨B.exec, B.bytes, hml, by rw [← hg.1]; exact findClass_of_methodNamed B.named, fun w hw => atoms_spec (ws := mx_wl M) B.pre w (List.mem_cons_of_mem _ hw), B.returns, B.notSynchronized, fun h9 => (name_of_methodNamed B.named B.method).1.trans h9⟩
  have hend : mx_End p l e (headSpec (mx_wl M) (mx_rm d (r.2.2.1 - g.2.1) (r.2.2.2 - g.2.2))).room s m ras.toArray below meth c (MQ below (mx_Qc D X L r (va_A ws s.heap.size)) ras.toArray s (r.2.2.1 - g.2.1) (r.2.2.2 - g.2.2) (va_A ws s.heap.size)) D X (va_A ws s.heap.size) M L g.2.1 g.2.2 r := by
    intro pc i k ls st g' v hd hln hrt heq L' tys' ws' H locs rl rst cells slots hw hl hs hc hk
    obtain ⟨hK', hP', hD', hS', hR'⟩ := hw
    have hcells : r.2.2.1 - g.2.1 = cells := by rw [← heq]; show g'.2.1 - g.2.1 = cells; omega
    have hslots : r.2.2.2 - g.2.2 = slots := by rw [← heq]; show g'.2.2 - g.2.2 = slots; omega
    rw [hcells, hslots]
    have hq : ∀ (rv : Option Value), mx_ov X L' v rv → ∀ t : State, t.heap = H → s.WarmedH t.vm → mx_Qc D X L r (va_A ws s.heap.size) ras.toArray s (.returned rv) t := fun rv hov t ht hW => ⟨⟨rv, L', tys', ws', rfl, by rw [← heq]; exact hov, va_K.moved hW.alike hK', by rw [ht]; exact hP', hD', by rw [← heq]; exact hR'⟩, hS'.F ht⟩
    have hlocks := F.2.2.2.2.2.2.1
    cases i
    case ireturn =>
      obtain rfl : k = 1 := by simpa [mx_ln] using hln
      simp only [mx_rt] at hrt
      split at hrt
      · rename_i x
        split at hrt
        · rename_i ty hty
          obtain ⟨hnar, hrt⟩ := mx_if_inv hrt
          cases hrt
          obtain ⟨r1, rfl, hs1⟩ := mx_vrs_i hs
          obtain rfl := mx_vrs_nil hs1
          exact W.zret F.1 F.2.1 (F.2.2.2.2.2.1.trans hty) hnar (hq (some (.int x)) rfl) hS'.2.2 hd hlocks
        · cases hrt
      · cases hrt
    case lreturn =>
      obtain rfl : k = 1 := by simpa [mx_ln] using hln
      simp only [mx_rt] at hrt
      split at hrt
      · rename_i x
        obtain ⟨hty, hrt⟩ := mx_if_inv hrt
        cases hrt
        obtain ⟨r1, rfl, hs1⟩ := mx_vrs_j hs
        obtain rfl := mx_vrs_nil hs1
        exact W.lret F.1 F.2.1 (F.2.2.2.2.2.1.trans hty) (hq (some (.long x)) rfl) hS'.2.2 hd hlocks
      · cases hrt
    case areturn =>
      obtain rfl : k = 1 := by simpa [mx_ln] using hln
      simp only [mx_rt] at hrt
      split at hrt
      · rename_i x
        obtain ⟨hty, hrt⟩ := mx_if_inv hrt
        cases hrt
        obtain ⟨w, r1, rfl, hvr, hs1⟩ := mx_vrs_cons hs
        obtain rfl := mx_vrs_nil hs1
        exact W.aret F.1 F.2.1 (F.2.2.2.2.2.1.trans hty) (Or.inl ⟨_, rfl⟩) (mx_vr_ref hX hvr) (hq (some w) hvr) hS'.2.2 hd hlocks
      · cases hrt
    case return_ =>
      obtain rfl : k = 1 := by simpa [mx_ln] using hln
      simp only [mx_rt] at hrt
      split at hrt
      · obtain ⟨hty, hrt⟩ := mx_if_inv hrt
        cases hrt
        obtain rfl := mx_vrs_nil hs
        exact W.vret F.1 F.2.1 (F.2.2.2.2.2.1.trans hty) (hq none trivial) hS'.2.2 hd hlocks
      · cases hrt
    all_goals cases hrt
  have key := ih d M 0 _ [] g r hrun p e _ s m ras.toArray below meth c _ (va_A ws s.heap.size) L g.2.1 g.2.2 F hE (fun q h => Or.inr h) (Nat.le_refl _) (Nat.le_refl _) (by show r.2.2.1 ≤ (r.2.2.1 - g.2.1) + g.2.1; omega) (by show r.2.2.2 ≤ (r.2.2.2 - g.2.2) + g.2.2; omega) hend
  rw [lg_entry_eq]
  exact key L tys ws s.heap [] _ [] 0 0 ⟨hK, hP, hD0.self, va_S.rf, hRL⟩ (mx_entry hX hvs hok) trivial (by omega) (by omega)
theorem mx_sound {l : Launch} {sc : mx_X} {D : va_G} {X : Nat → Value} (hX : ∀ k, X k = .null ∨ ∃ a, X k = .ref a) : ∀ n, mx_Snd l sc D X n := by
  intro n
  induction n with
  | zero => intro d M pc ls st g r h; cases h
  | succ n ih =>
    intro d M pc ls st g r h p e R s m args below meth c Q A L0 n0 s0 F E hA hR1 hR2 hr1 hr2 hend
    have h : mx_T sc (mx_run sc n) d M pc ls st g = some r := h
    unfold mx_T at h
    split at h
    · rename_i i k he
      obtain ⟨hln, h⟩ := mx_if_inv h
      cases hv : mx_rt M i st with
      | some v =>
        rw [hv] at h
        exact hend pc i k ls st g v he hln hv (Option.some.inj h)
      | none =>
        rw [hv] at h
        dsimp only at h
        cases hk : mx_cl M i st g with
        | some x =>
          rw [hk] at h
          dsimp only at h
          unfold mx_K at h
          cases d with
          | zero => cases h
          | succ d =>
            dsimp only at h
            obtain ⟨hok, h⟩ := mx_if_inv h
            cases hq : mx_run sc n d x.1 0 (mx_en x.1 x.2.1) [] g with
            | none => rw [hq] at h; cases h
            | some q =>
              rw [hq] at h
              dsimp only at h
              have m1 := mx_run_mon _ _ _ _ _ _ _ _ hq
              have m2 := mx_run_mon _ _ _ _ _ _ _ _ h
              have ihc := mx_met ih hX (mx_cl_good hk) hok hq
              have ihk := ih (d + 1) M (pc + 3) ls _ q.2 r h p e R s m args below meth c Q A L0 n0 s0 F E hA hR1 hR2 hr1 hr2 hend
              intro L tys ws H locs rl rst cells slots hw hl hs hc9 hk9
              obtain ⟨a, rrest, hrest, hrun⟩ := mx_runs (cells := cells) (slots := slots) F E hA hw hl hs he hln hk (by omega) (by omega) ihc ⟨by omega, by omega⟩
              obtain ⟨hK, hP, hD, hS, hR⟩ := hw
              have hFc : ∀ q, va_A ws H.size q → A q := by
                rintro q (⟨k9, e9, hk8⟩ | hq8)
                · exact hD.2 k9 _ hk8
                · exact hA q (Nat.le_trans hS.1 hq8)
              refine mx_after hrun hS (fun q _ h => hFc q h) hFc (fun rv L' tys' ws' H1 locs1 hov hK' hP' hD' hR' hS' => ?_)
              obtain ⟨b1, b2, b3, ⟨L1, b4⟩, b5⟩ := hR'
              subst b4
              have hst : mx_vrs X (L ++ L1) (q.1.toList ++ x.2.2) (rv.toList ++ rrest) := by
                refine mx_vrs_append ?_ (mx_vrs_apps L1 hrest)
                generalize q.1 = q1 at hov
                match q1, rv, hov with
                | none, none, _ => exact trivial
                | some u, some w, hov => exact ⟨hov, trivial⟩
              refine ihk (L ++ L1) tys' ws' H1 locs1 rl (rv.toList ++ rrest) (cells + (q.2.2.1 - g.2.1)) (slots + (q.2.2.2 - g.2.2)) ⟨hK', hP', hD'.weaken (fun k9 q9 _ h9 => hFc q9.1 h9), hS', b1, b2, b3, ?_, b5⟩ (mx_lr_apps L1 hl) hst (by omega) (by omega)
              obtain ⟨L2, e2⟩ := hR.2.2.2.1
              exact ⟨L2 ++ L1, by rw [e2, List.append_assoc]⟩
        | none =>
          rw [hk] at h
          dsimp only at h
          unfold mx_F at h
          split at h
          · cases h
          · rename_i pc' ls' st' g' hop
            obtain ⟨hc, h⟩ := mx_if_inv h
            have m2 := mx_run_mon _ _ _ _ _ _ _ _ h
            exact mx_next F E hA (by omega) (by omega) he hln hop (by omega) (by omega) (ih d M pc' ls' st' g' r h p e R s m args below meth c Q A L0 n0 s0 F E hA hR1 hR2 hr1 hr2 hend)
    · cases h
