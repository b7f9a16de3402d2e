/-! INSTRUCTIONS THAT TOUCH THE WORLD -/
theorem mx_sum8 {X : Nat → Value} {L : List Nat} (hX : ∀ k, X k = .null ∨ ∃ a, X k = .ref a) : ∀ {st rst : List Value}, mx_vrs X L st rst → (rst.map fun v => v.category).sum ≤ 2 * st.length
  | [], [], _ => by simp
  | v :: r, w :: r', h => by
    have h1 := mx_sum8 hX h.2
    have h2 : w.category ≤ 2 := by rcases lv_cat w with e | e <;> omega
    simp only [List.map_cons, List.sum_cons, List.length_cons]
    omega
  | [], _ :: _, h => by cases h
  | _ :: _, [], h => by cases h
theorem mx_cls_lt {ci : Nat} {q : vw_C} (h : vwCl[ci]? = some q) : ci < 12 := (List.getElem?_eq_some_iff.mp h).1
theorem mx_cr_obj {X : Nat → Value} {L : List Nat} {tys : List (ClassId × FieldType)} {ci : Nat} {fs : List Value} {e : va_E} (h : mx_cr X L tys (.inr (ci, fs)) e) : ∃ fs', e = .inr (ci, fs') ∧ mx_vrs X L fs fs' := by
  match e, h with
  | .inr (ci', fs'), h => exact ⟨fs', by rw [h.1], h.2⟩
theorem mx_cr_arr {X : Nat → Value} {L : List Nat} {tys : List (ClassId × FieldType)} {ty : FieldType} {n : Nat} {d : (Nat → Int32) ⊕ (Nat → Int64) ⊕ (Nat → UInt32) ⊕ (Nat → UInt64) ⊕ (Nat → Option Nat)} {e : va_E} (h : mx_cr X L tys (.inl (ty, n, d)) e) : ∃ (cA : ClassId) (d' : (Nat → Int32) ⊕ (Nat → Int64) ⊕ (Nat → UInt32) ⊕ (Nat → UInt64) ⊕ (Nat → Option Nat)) (t0 : Nat), e = .inl (cA, n, d') ∧ mx_dr L d d' ∧ (cA, ty) ∈ tys ∧ tys[t0]? = some (cA, ty) := by
  match e, h with
  | .inl (cA, n', d'), h =>
    have h1 := h.1
    have h3 : n' = n := h.2.1
    subst h3
    obtain ⟨t0, ht⟩ := List.getElem?_of_mem h1
    exact ⟨cA, d', t0, rfl, h.2.2, h1, ht⟩
theorem mx_dr_i {L : List Nat} {f : Nat → Int32} {d' : (Nat → Int32) ⊕ (Nat → Int64) ⊕ (Nat → UInt32) ⊕ (Nat → UInt64) ⊕ (Nat → Option Nat)} (h : mx_dr L (.inl f) d') : d' = .inl f := by
  match d', h with
  | .inl f', h => obtain rfl := h; rfl
theorem mx_dr_l {L : List Nat} {f : Nat → Int64} {d' : (Nat → Int32) ⊕ (Nat → Int64) ⊕ (Nat → UInt32) ⊕ (Nat → UInt64) ⊕ (Nat → Option Nat)} (h : mx_dr L (.inr (.inl f)) d') : d' = .inr (.inl f) := by
  match d', h with
  | .inr (.inl f'), h => obtain rfl := h; rfl
theorem mx_dr_r {L : List Nat} {f : Nat → Option Nat} {d' : (Nat → Int32) ⊕ (Nat → Int64) ⊕ (Nat → UInt32) ⊕ (Nat → UInt64) ⊕ (Nat → Option Nat)} (h : mx_dr L (.inr (.inr (.inr (.inr f)))) d') : ∃ f', d' = .inr (.inr (.inr (.inr f'))) ∧ ∀ i, (f i = none ∧ f' i = none) ∨ ∃ k a, f i = some k ∧ f' i = some a ∧ k < 900 ∧ L[k]? = some a := by
  match d', h with
  | .inr (.inr (.inr (.inr f'))), h => exact ⟨f', rfl, h⟩
theorem mx_av_inv {sc : mx_X} {g : mx_G} {a : Nat} {c : mx_C} (h : mx_av sc g a = some c) : g.1 a = some c ∨ (g.1 a = none ∧ mx_xa sc a = some c) := by
  unfold mx_av at h
  split at h
  · rename_i c' hc
    cases h
    exact Or.inl hc
  · rename_i hc
    exact Or.inr ⟨hc, h⟩
theorem mx_xa_i {sc : mx_X} {a n : Nat} {f : Nat → Int32} (h : mx_xa sc a = some (.inl (.int, n, .inl f))) : (a = 2000 ∧ n = 6 ∧ f = fun j => mx_ka.getD j 0) ∨ (a = 3000 ∧ n = sc.1 ∧ f = sc.2) := by
  unfold mx_xa at h
  split at h
  · rename_i ha
    cases h
    exact Or.inl ⟨ha, rfl, rfl⟩
  · split at h
    · rename_i ha
      cases h
      exact Or.inr ⟨ha, rfl, rfl⟩
    · split at h <;> cases h
theorem mx_xa_b {sc : mx_X} {a n : Nat} {f : Nat → Int32} (h : mx_xa sc a = some (.inl (.byte, n, .inl f))) : ∃ i, i < 11 ∧ a = 1100 + i ∧ n = (mx_byt.getD i []).length ∧ f = fun j => (mx_byt.getD i []).getD j 0 := by
  unfold mx_xa at h
  split at h
  · cases h
  · split at h
    · cases h
    · split at h
      · rename_i ha
        simp only [Option.some.injEq, Sum.inl.injEq, Prod.mk.injEq, true_and] at h
        exact ⟨a - 1100, by omega, by omega, h.1.symm, h.2.symm⟩
      · cases h
theorem mx_xa_all {sc : mx_X} {a : Nat} {c : mx_C} (h : mx_xa sc a = some c) : (∃ n f, c = .inl (.int, n, .inl f)) ∨ ∃ n f, c = .inl (.byte, n, .inl f) := by
  unfold mx_xa at h
  split at h
  · cases h; exact Or.inl ⟨_, _, rfl⟩
  · split at h
    · cases h; exact Or.inl ⟨_, _, rfl⟩
    · split at h
      · cases h; exact Or.inr ⟨_, _, rfl⟩
      · cases h
/-- a reference to something outside -/
theorem mx_vrs_x {X : Nat → Value} {L : List Nat} {k a : Nat} {r w : List Value} (hk : 1000 ≤ k) (hX : X k = .ref a) (h : mx_vrs X L (.ref k :: r) w) : ∃ r', w = .ref a :: r' ∧ mx_vrs X L r r' := by
  obtain ⟨v', r', rfl, h1, h2⟩ := mx_vrs_cons h
  rcases h1 with ⟨h3, -⟩ | ⟨-, h3⟩
  · have h6 : k < 900 := h3
    omega
  · exact ⟨r', by rw [h3, hX], h2⟩
theorem mx_vr_x {X : Nat → Value} {L : List Nat} {k : Nat} {w : Value} (hk : 1000 ≤ k) (h : w = X k) : mx_vr X L (.ref k) w := Or.inr ⟨hk, h⟩
theorem mx_vr_w {X : Nat → Value} {L : List Nat} {k a : Nat} (hk : k < 900) (h : L[k]? = some a) : mx_vr X L (.ref k) (.ref a) := Or.inl ⟨hk, a, h, rfl⟩
section HeapOps
variable {p : Program} {l : Launch} {e : Env} {R : Room} {s : State} {m : MethodId} {args : Array Value} {below : List Frame} {meth : Method} {c : Code} {Q : State → Prop} {D : va_G} {X : Nat → Value} {A : Nat → Prop} {M : mx_M} {L0 : List Nat} {n0 s0 : Nat} {sc : mx_X}
variable {pc : Nat} {ls : mx_L} {st r : List Value} {g : mx_G}
theorem mw_ldc (F : mx_Cx p s m args meth c M) (E : mx_E sc X A s s.heap) {n : Nat} {v : Value} (hv : mx_ldc M.1 n = some v) (hj : ∀ x, v ≠ .long x) (hd : decode M.2.2.1 pc = .ok (.ldc n, 2)) (k : mx_OK p l e R s m args below meth c Q D X A M L0 n0 s0 (pc + 2) ls (v :: st) g) : mx_OK p l e R s m args below meth c Q D X A M L0 n0 s0 pc ls st g := by
  intro L tys ws H locs rl rst cells slots hw hl hs hc hk
  rcases mx_ldc_ok hv with ⟨x, rfl, h⟩ | ⟨x, rfl, h⟩ | ⟨i, hi, rfl, h1, h2⟩
  · exact lv_ldc F.1 F.2.1 F.2.2.2.1 (F.2.2.2.2.1 _ h) hd (k L tys ws H locs rl _ cells slots hw hl ⟨rfl, hs⟩ hc hk)
  · exact absurd rfl (hj x)
  · obtain ⟨adK, adV, -, hS⟩ := E.2.2.2.2.2.1
    obtain ⟨q1, q2, q3⟩ := hS i hi
    rw [h2] at q3
    refine va_ldcS F.1 F.2.1 (own := mx_sown) (by rw [← h1]; exact F.2.2.2.1) q3 hd (k L tys ws H locs rl _ cells slots hw hl ⟨mx_vr_x (by omega) q1.symm, hs⟩ hc hk)
theorem mw_ldc_w (F : mx_Cx p s m args meth c M) {n : Nat} {x : Int32} (hv : mx_ldc M.1 n = some (.int x)) (hd : decode M.2.2.1 pc = .ok (.ldc_w n, 3)) (k : mx_OK p l e R s m args below meth c Q D X A M L0 n0 s0 (pc + 3) ls (.int x :: st) g) : mx_OK p l e R s m args below meth c Q D X A M L0 n0 s0 pc ls st g := by
  intro L tys ws H locs rl rst cells slots hw hl hs hc hk
  rcases mx_ldc_ok hv with ⟨y, h0, h⟩ | ⟨y, h0, h⟩ | ⟨i, hi, h0, h1, h2⟩
  · cases h0
    exact lv_ldcw F.1 F.2.1 F.2.2.2.1 (F.2.2.2.2.1 _ h) hd (k L tys ws H locs rl _ cells slots hw hl ⟨rfl, hs⟩ hc hk)
  · cases h0
  · cases h0
theorem mw_ldc2_w (F : mx_Cx p s m args meth c M) {n : Nat} {x : Int64} (hv : mx_ldc M.1 n = some (.long x)) (hd : decode M.2.2.1 pc = .ok (.ldc2_w n, 3)) (k : mx_OK p l e R s m args below meth c Q D X A M L0 n0 s0 (pc + 3) ls (.long x :: st) g) : mx_OK p l e R s m args below meth c Q D X A M L0 n0 s0 pc ls st g := by
  intro L tys ws H locs rl rst cells slots hw hl hs hc hk
  rcases mx_ldc_ok hv with ⟨y, h0, h⟩ | ⟨y, h0, h⟩ | ⟨i, hi, h0, h1, h2⟩
  · cases h0
  · cases h0
    exact lv_ldc2 F.1 F.2.1 F.2.2.2.1 (F.2.2.2.2.1 _ h) hd (k L tys ws H locs rl _ cells slots hw hl ⟨rfl, hs⟩ hc hk)
  · cases h0
theorem mw_getstatic (F : mx_Cx p s m args meth c M) (E : mx_E sc X A s s.heap) {n : Nat} {v : Value} (hv : mx_gs M.1 n = some v) (hd : decode M.2.2.1 pc = .ok (.getstatic n, 3)) (k : mx_OK p l e R s m args below meth c Q D X A M L0 n0 s0 (pc + 3) ls (v :: st) g) : mx_OK p l e R s m args below meth c Q D X A M L0 n0 s0 pc ls st g := by
  intro L tys ws H locs rl rst cells slots hw hl hs hc hk
  rcases mx_gs_ok hv with ⟨rfl, h⟩ | ⟨rfl, h⟩ | ⟨rfl, h⟩
  · obtain ⟨kA, a1, a2, a3⟩ := E.2.1
    exact va_gets F.1 F.2.1 a2 hw.2.2.2.1 F.2.2.2.1 (F.2.2.2.2.1 _ h) (fun _ h => h) hd (k L tys ws H locs rl _ cells slots hw hl ⟨mx_vr_x (by omega) a1.symm, hs⟩ hc hk)
  · exact va_gets F.1 F.2.1 E.2.2.2.1 hw.2.2.2.1 F.2.2.2.1 (F.2.2.2.2.1 _ h) (fun _ h => h) hd (k L tys ws H locs rl _ cells slots hw hl ⟨rfl, hs⟩ hc hk)
  · exact va_gets F.1 F.2.1 E.2.2.2.2.1 hw.2.2.2.1 F.2.2.2.1 (F.2.2.2.2.1 _ h) (fun _ h => h) hd (k L tys ws H locs rl _ cells slots hw hl ⟨mx_vr_x (by omega) rfl, hs⟩ hc hk)
theorem mw_getfield (F : mx_Cx p s m args meth c M) (E : mx_E sc X A s s.heap) {n a ci j : Nat} {nest : Bool} {fs : List Value} {v : Value} (hf : mx_fld M.1 n = some (ci, j, nest)) (ha : g.1 a = some (.inr (ci, fs))) (hv : fs[j]? = some v) (hd : decode M.2.2.1 pc = .ok (.getfield n, 3)) (k : mx_OK p l e R s m args below meth c Q D X A M L0 n0 s0 (pc + 3) ls (v :: r) g) : mx_OK p l e R s m args below meth c Q D X A M L0 n0 s0 pc ls (.ref a :: r) g := by
  intro L tys ws H locs rl rst cells slots hw hl hs hc hk
  obtain ⟨hK, hP, hD, hS, hR⟩ := id hw
  obtain ⟨a', e', h1, h2, h3⟩ := mx_rel_at hR ha
  obtain ⟨fs', rfl, h4⟩ := mx_cr_obj h3
  obtain ⟨r', rfl, hs'⟩ := mx_vrs_r h2 hR.2.2.1 hs
  obtain ⟨v', hv', hvr⟩ := mx_vrs_get h4 hv
  obtain ⟨f1, f2, f3⟩ := mx_fld_ok hf
  obtain ⟨c1, c2, c3, c4, c5, c6, c7, c8, c9, c10⟩ := mx_CC_ok ci f1
  have kk := k L tys ws H locs rl (v' :: r') cells slots hw hl ⟨hvr, hs'⟩ hc hk
  cases nest with
  | false => exact va_get F.1 F.2.1 F.2.2.2.2.1 c2 F.2.2.2.1 hK hP a h1 c1 j f2 (F.2.2.2.2.1 _ f3) (fun _ h => h) hv' hd kk
  | true => exact va_getN F.1 F.2.1 F.2.2.2.2.1 c2 F.2.2.2.1 hK hP a h1 c1 j f2 (va_Nw.use rfl (E.2.2.2.2.2.2 _ f3)) (fun _ h => h) hv' hd kk
theorem mw_getfieldX (F : mx_Cx p s m args meth c M) (E : mx_E sc X A s s.heap) {n a : Nat} {v : Value} (hv : mx_xf M.1 n a = some v) (hd : decode M.2.2.1 pc = .ok (.getfield n, 3)) (k : mx_OK p l e R s m args below meth c Q D X A M L0 n0 s0 (pc + 3) ls (v :: r) g) : mx_OK p l e R s m args below meth c Q D X A M L0 n0 s0 pc ls (.ref a :: r) g := by
  intro L tys ws H locs rl rst cells slots hw hl hs hc hk
  obtain ⟨h1, h2, h3, h4⟩ := mx_xf_ok hv
  obtain ⟨adK, adV, hS, hA⟩ := E.2.2.2.2.2.1
  obtain ⟨i, rfl⟩ : ∃ i, a = 1000 + i := ⟨a - 1000, by omega⟩
  have hi : i < 11 := by omega
  obtain ⟨q1, q2, -⟩ := hA i hi
  obtain ⟨r', rfl, hs'⟩ := mx_vrs_x h2 q1 hs
  have hcn : s.vm.findClass (mx_cn 20) = some m.cls := by rw [← h1]; exact F.2.2.2.1
  rcases h4 with ⟨rfl, h5⟩ | ⟨rfl, h5⟩
  · exact vk_getf F.1 F.2.1 (hS.1 i hi).2.2.1 hw.2.2.2.1 hcn (F.2.2.2.2.1 _ h5) (fun _ h => h) hd (k L tys ws H locs rl _ cells slots hw hl ⟨mx_vr_x (by omega) (by rw [show 1000 + i + 100 = 1100 + i by omega]; exact q2.symm), hs'⟩ hc hk)
  · exact vk_getf F.1 F.2.1 (hS.1 i hi).2.1 hw.2.2.2.1 hcn (F.2.2.2.2.1 _ h5) (fun _ h => h) hd (k L tys ws H locs rl _ cells slots hw hl ⟨rfl, hs'⟩ hc hk)
theorem mx_fit_ok (hX : ∀ k, X k = .null ∨ ∃ a, X k = .ref a) {L : List Nat} {ci j : Nat} {v v' : Value} (h : mx_fit M ci j v = true) (hv : mx_vr X L v v') : narrow (mx_fty ci j) v' = v' ∧ fits (mx_fty ci j) v' = true := by
  unfold mx_fit at h
  rw [Bool.and_eq_true] at h
  have h1 := h.1
  split at h1
  · rename_i e1
    rw [e1]; cases hv; exact ⟨rfl, rfl⟩
  · rename_i e1
    rw [e1]; cases hv; exact ⟨rfl, rfl⟩
  · rename_i x e1
    rw [e1]; cases hv
    rcases (by simpa using h1 : x = 0 ∨ x = 1) with rfl | rfl <;> exact ⟨rfl, rfl⟩
  · rename_i e1
    rw [e1]
    rcases mx_vr_ref hX hv with rfl | ⟨b, rfl⟩ <;> exact ⟨rfl, rfl⟩
  · rename_i e1
    rw [e1]
    rcases mx_vr_ref hX hv with rfl | ⟨b, rfl⟩ <;> exact ⟨rfl, rfl⟩
  · cases h1
theorem mw_putfield (F : mx_Cx p s m args meth c M) (E : mx_E sc X A s s.heap) {n a ci j : Nat} {nest : Bool} {fs : List Value} {v : Value} (hf : mx_fld M.1 n = some (ci, j, nest)) (ha : g.1 a = some (.inr (ci, fs))) (hj : j < fs.length) (hfit : (mx_fit M ci j v && !(nest && mx_ffin ci j)) = true) (hd : decode M.2.2.1 pc = .ok (.putfield n, 3)) (k : mx_OK p l e R s m args below meth c Q D X A M L0 n0 s0 (pc + 3) ls r (mx_up g a (.inr (ci, fs.set j v)))) : mx_OK p l e R s m args below meth c Q D X A M L0 n0 s0 pc ls (v :: .ref a :: r) g := by
  intro L tys ws H locs rl rst cells slots hw hl hs hc hk
  obtain ⟨hK, hP, hD, hS, hR⟩ := id hw
  obtain ⟨v', r1, rfl, hv, hs1⟩ := mx_vrs_cons hs
  obtain ⟨a', e', h1, h2, h3⟩ := mx_rel_at hR ha
  obtain ⟨fs', rfl, h4⟩ := mx_cr_obj h3
  obtain ⟨r', rfl, hs'⟩ := mx_vrs_r h2 hR.2.2.1 hs1
  obtain ⟨f1, f2, f3⟩ := mx_fld_ok hf
  obtain ⟨c1, c2, c3, c4, c5, c6, c7, c8, c9, c10⟩ := mx_CC_ok ci f1
  rw [Bool.and_eq_true] at hfit
  obtain ⟨t1, t2⟩ := mx_fit_ok E.1 hfit.1 hv
  have hjl : j < fs'.length := by rw [mx_vrs_len h4]; exact hj
  have kk : ∀ (H1 : Heap) (locs1 : List Loc), va_P D vwCl (ws.set a (a', .inr (ci, fs'.set j v'))) H1 → va_D A (ws.set a (a', .inr (ci, fs'.set j v'))) → va_S A s.heap H1 locs1 → W p l e R s m args below meth c H1 locs1 cells slots Q (F0 m (pc + 3) rl r') := fun H1 locs1 g1 g2 g3 => k L tys _ H1 locs1 rl _ cells slots ⟨hK, g1, g2, g3, mx_rel_up hR h1 ⟨rfl, mx_vrs_set h4 hv⟩⟩ hl hs' hc hk
  by_cases hfin : mx_ffin ci j = true
  · have hnest : nest = false := by
      have h5 := hfit.2
      rw [hfin] at h5
      cases nest <;> simp_all
    subst hnest
    have h6 := hfit.1
    unfold mx_fit at h6
    rw [Bool.and_eq_true, hfin] at h6
    have h7 : M.2.1.name = "<init>" ∧ M.1 = ci := by simpa using h6.2
    exact va_putF F.1 F.2.1 F.2.2.2.2.1 c2 (mx_fty ci) c3 c4 F.2.2.2.1 hK hP hD hS a h1 c1 j f2 (F.2.2.2.2.1 _ f3) (fun _ h => h) (by rw [c7]; exact hfin) (F.2.2.2.2.2.2.2 h7.1) (by rw [c8 j f2, h7.2]) (c3 j f2) t1 t2 hjl hd kk
  · have hfin2 : (mx_TT ci j).2.2.2 = false := by rw [c7]; simpa using hfin
    cases nest with
    | false => exact va_put F.1 F.2.1 F.2.2.2.2.1 c2 (mx_fty ci) c3 c4 F.2.2.2.1 hK hP hD hS a h1 c1 j f2 (F.2.2.2.2.1 _ f3) (fun _ h => h) hfin2 (c3 j f2) t1 t2 hjl hd kk
    | true => exact va_putN F.1 F.2.1 F.2.2.2.2.1 c2 (mx_fty ci) c3 c4 F.2.2.2.1 hK hP hD hS a h1 c1 j f2 (va_Nw.use rfl (E.2.2.2.2.2.2 _ f3)) (fun _ h => h) hfin2 (c3 j f2) t1 t2 hjl hd kk
theorem mw_iaload (F : mx_Cx p s m args meth c M) (E : mx_E sc X A s s.heap) {a n : Nat} {i : Int32} {f : Nat → Int32} (ha : mx_av sc g a = some (.inl (.int, n, .inl f))) (hi : mx_in i n = true) (hd : decode M.2.2.1 pc = .ok (.iaload, 1)) (k : mx_OK p l e R s m args below meth c Q D X A M L0 n0 s0 (pc + 1) ls (.int (f i.toNatClampNeg) :: r) g) : mx_OK p l e R s m args below meth c Q D X A M L0 n0 s0 pc ls (.int i :: .ref a :: r) g := by
  intro L tys ws H locs rl rst cells slots hw hl hs hc hk
  obtain ⟨hK, hP, hD, hS, hR⟩ := id hw
  obtain ⟨r1, rfl, hs1⟩ := mx_vrs_i hs
  rcases mx_av_inv ha with ha | ⟨-, ha⟩
  · obtain ⟨a', e', h1, h2, h3⟩ := mx_rel_at hR ha
    obtain ⟨cA, d', t0, rfl, h4, -, h5⟩ := mx_cr_arr h3
    obtain rfl := mx_dr_i h4
    obtain ⟨r', rfl, hs'⟩ := mx_vrs_r h2 hR.2.2.1 hs1
    exact va_iald F.1 F.2.1 hK hP a t0 h1 h5 (mx_in_iff.mp hi) hd (k L tys ws H locs rl _ cells slots hw hl ⟨rfl, hs'⟩ hc hk)
  · rcases mx_xa_i ha with ⟨rfl, rfl, rfl⟩ | ⟨rfl, rfl, rfl⟩
    · obtain ⟨kA, a1, a2, a3⟩ := E.2.1
      obtain ⟨r', rfl, hs'⟩ := mx_vrs_x (by omega) a1 hs1
      exact va_ti F.1 F.2.1 a3 hS (mx_in_iff.mp hi) rfl hd (k L tys ws H locs rl _ cells slots hw hl ⟨rfl, hs'⟩ hc hk)
    · obtain ⟨b, a1, a3⟩ := E.2.2.1
      obtain ⟨r', rfl, hs'⟩ := mx_vrs_x (by omega) a1 hs1
      exact va_ti F.1 F.2.1 a3 hS (mx_in_iff.mp hi) rfl hd (k L tys ws H locs rl _ cells slots hw hl ⟨rfl, hs'⟩ hc hk)
theorem mw_baload (F : mx_Cx p s m args meth c M) (E : mx_E sc X A s s.heap) {a n : Nat} {i : Int32} {f : Nat → Int32} (ha : mx_av sc g a = some (.inl (.byte, n, .inl f))) (hi : mx_in i n = true) (hd : decode M.2.2.1 pc = .ok (.baload, 1)) (k : mx_OK p l e R s m args below meth c Q D X A M L0 n0 s0 (pc + 1) ls (.int (f i.toNatClampNeg) :: r) g) : mx_OK p l e R s m args below meth c Q D X A M L0 n0 s0 pc ls (.int i :: .ref a :: r) g := by
  intro L tys ws H locs rl rst cells slots hw hl hs hc hk
  obtain ⟨hK, hP, hD, hS, hR⟩ := id hw
  obtain ⟨r1, rfl, hs1⟩ := mx_vrs_i hs
  rcases mx_av_inv ha with ha | ⟨-, ha⟩
  · obtain ⟨a', e', h1, h2, h3⟩ := mx_rel_at hR ha
    obtain ⟨cA, d', t0, rfl, h4, -, h5⟩ := mx_cr_arr h3
    obtain rfl := mx_dr_i h4
    obtain ⟨r', rfl, hs'⟩ := mx_vrs_r h2 hR.2.2.1 hs1
    exact va_bald F.1 F.2.1 hK hP a t0 h1 h5 (mx_in_iff.mp hi) hd (k L tys ws H locs rl _ cells slots hw hl ⟨rfl, hs'⟩ hc hk)
  · obtain ⟨j, hj, rfl, rfl, rfl⟩ := mx_xa_b ha
    obtain ⟨adK, adV, hT, hA⟩ := E.2.2.2.2.2.1
    obtain ⟨r', rfl, hs'⟩ := mx_vrs_x (by omega) (hA j hj).2.1 hs1
    rw [mx_sln_ok j hj] at hi
    exact va_tb F.1 F.2.1 (hT.1 j hj).2.2.2 hS (mx_in_iff.mp hi) rfl hd (k L tys ws H locs rl _ cells slots hw hl ⟨rfl, hs'⟩ hc hk)
theorem mw_arraylength (F : mx_Cx p s m args meth c M) (E : mx_E sc X A s s.heap) {a n : Nat} {ty : FieldType} {dd : (Nat → Int32) ⊕ (Nat → Int64) ⊕ (Nat → UInt32) ⊕ (Nat → UInt64) ⊕ (Nat → Option Nat)} (ha : mx_av sc g a = some (.inl (ty, n, dd))) (hd : decode M.2.2.1 pc = .ok (.arraylength, 1)) (k : mx_OK p l e R s m args below meth c Q D X A M L0 n0 s0 (pc + 1) ls (.int (Int32.ofNat n) :: r) g) : mx_OK p l e R s m args below meth c Q D X A M L0 n0 s0 pc ls (.ref a :: r) g := by
  intro L tys ws H locs rl rst cells slots hw hl hs hc hk
  obtain ⟨hK, hP, hD, hS, hR⟩ := id hw
  rcases mx_av_inv ha with ha | ⟨-, ha⟩
  · obtain ⟨a', e', h1, h2, h3⟩ := mx_rel_at hR ha
    obtain ⟨cA, d', t0, rfl, h4, -, h5⟩ := mx_cr_arr h3
    obtain ⟨r', rfl, hs'⟩ := mx_vrs_r h2 hR.2.2.1 hs
    exact va_alen F.1 F.2.1 hK hP a t0 h1 h5 rfl hd (k L tys ws H locs rl _ cells slots hw hl ⟨rfl, hs'⟩ hc hk)
  · rcases mx_xa_all ha with ⟨n', f, he⟩ | ⟨n', f, he⟩
    · cases he
      rcases mx_xa_i ha with ⟨rfl, rfl, rfl⟩ | ⟨rfl, rfl, rfl⟩
      · obtain ⟨kA, a1, a2, a3⟩ := E.2.1
        obtain ⟨r', rfl, hs'⟩ := mx_vrs_x (by omega) a1 hs
        exact va_tlen F.1 F.2.1 a3 hS rfl hd (k L tys ws H locs rl _ cells slots hw hl ⟨rfl, hs'⟩ hc hk)
      · obtain ⟨b, a1, a3⟩ := E.2.2.1
        obtain ⟨r', rfl, hs'⟩ := mx_vrs_x (by omega) a1 hs
        exact va_tlen F.1 F.2.1 a3 hS rfl hd (k L tys ws H locs rl _ cells slots hw hl ⟨rfl, hs'⟩ hc hk)
    · cases he
      obtain ⟨j, hj, rfl, rfl, rfl⟩ := mx_xa_b ha
      obtain ⟨adK, adV, hT, hA⟩ := E.2.2.2.2.2.1
      obtain ⟨r', rfl, hs'⟩ := mx_vrs_x (by omega) (hA j hj).2.1 hs
      exact va_tlen F.1 F.2.1 (hT.1 j hj).2.2.2 hS (by rw [mx_sln_ok j hj]) hd (k L tys ws H locs rl _ cells slots hw hl ⟨rfl, hs'⟩ hc hk)
theorem mw_laload (F : mx_Cx p s m args meth c M) {a n : Nat} {i : Int32} {f : Nat → Int64} (ha : g.1 a = some (.inl (.long, n, .inr (.inl f)))) (hi : mx_in i n = true) (hd : decode M.2.2.1 pc = .ok (.laload, 1)) (k : mx_OK p l e R s m args below meth c Q D X A M L0 n0 s0 (pc + 1) ls (.long (f i.toNatClampNeg) :: r) g) : mx_OK p l e R s m args below meth c Q D X A M L0 n0 s0 pc ls (.int i :: .ref a :: r) g := by
  intro L tys ws H locs rl rst cells slots hw hl hs hc hk
  obtain ⟨hK, hP, hD, hS, hR⟩ := id hw
  obtain ⟨r1, rfl, hs1⟩ := mx_vrs_i hs
  obtain ⟨a', e', h1, h2, h3⟩ := mx_rel_at hR ha
  obtain ⟨cA, d', t0, rfl, h4, -, h5⟩ := mx_cr_arr h3
  obtain rfl := mx_dr_l h4
  obtain ⟨r', rfl, hs'⟩ := mx_vrs_r h2 hR.2.2.1 hs1
  exact va_lald F.1 F.2.1 hK hP a t0 h1 h5 (mx_in_iff.mp hi) hd (k L tys ws H locs rl _ cells slots hw hl ⟨rfl, hs'⟩ hc hk)
theorem mw_aaload (F : mx_Cx p s m args meth c M) {a n : Nat} {i : Int32} {C : String} {f : Nat → Option Nat} (ha : g.1 a = some (.inl (.object C, n, .inr (.inr (.inr (.inr f)))))) (hi : mx_in i n = true) (hd : decode M.2.2.1 pc = .ok (.aaload, 1)) (k : mx_OK p l e R s m args below meth c Q D X A M L0 n0 s0 (pc + 1) ls (va_rf (f i.toNatClampNeg) :: r) g) : mx_OK p l e R s m args below meth c Q D X A M L0 n0 s0 pc ls (.int i :: .ref a :: r) g := by
  intro L tys ws H locs rl rst cells slots hw hl hs hc hk
  obtain ⟨hK, hP, hD, hS, hR⟩ := id hw
  obtain ⟨r1, rfl, hs1⟩ := mx_vrs_i hs
  obtain ⟨a', e', h1, h2, h3⟩ := mx_rel_at hR ha
  obtain ⟨cA, d', t0, rfl, h4, -, h5⟩ := mx_cr_arr h3
  obtain ⟨f', rfl, h6⟩ := mx_dr_r h4
  obtain ⟨r', rfl, hs'⟩ := mx_vrs_r h2 hR.2.2.1 hs1
  have hv : mx_vr X L (va_rf (f i.toNatClampNeg)) (va_rf (f' i.toNatClampNeg)) := by
    rcases h6 i.toNatClampNeg with ⟨q1, q2⟩ | ⟨b, b', q1, q2, q3, q4⟩
    · rw [q1, q2]; rfl
    · rw [q1, q2]; exact Or.inl ⟨q3, b', q4, rfl⟩
  exact va_aldq F.1 F.2.1 hK hP a t0 h1 h5 (mx_in_iff.mp hi) hd (k L tys ws H locs rl _ cells slots hw hl ⟨hv, hs'⟩ hc hk)
theorem mw_iastore (F : mx_Cx p s m args meth c M) {a n : Nat} {i x : Int32} {f : Nat → Int32} (ha : g.1 a = some (.inl (.int, n, .inl f))) (hi : mx_in i n = true) (hd : decode M.2.2.1 pc = .ok (.iastore, 1)) (k : mx_OK p l e R s m args below meth c Q D X A M L0 n0 s0 (pc + 1) ls r (mx_up g a (.inl (.int, n, .inl (upd f i.toNatClampNeg x))))) : mx_OK p l e R s m args below meth c Q D X A M L0 n0 s0 pc ls (.int x :: .int i :: .ref a :: r) g := by
  intro L tys ws H locs rl rst cells slots hw hl hs hc hk
  obtain ⟨hK, hP, hD, hS, hR⟩ := id hw
  obtain ⟨r0, rfl, hs0⟩ := mx_vrs_i hs
  obtain ⟨r1, rfl, hs1⟩ := mx_vrs_i hs0
  obtain ⟨a', e', h1, h2, h3⟩ := mx_rel_at hR ha
  obtain ⟨cA, d', t0, rfl, h4, h6, h5⟩ := mx_cr_arr h3
  obtain rfl := mx_dr_i h4
  obtain ⟨r', rfl, hs'⟩ := mx_vrs_r h2 hR.2.2.1 hs1
  exact va_iast F.1 F.2.1 hK hP hD hS a t0 h1 h5 (mx_in_iff.mp hi) hd (fun H1 locs1 g1 g2 g3 => k L tys _ H1 locs1 rl _ cells slots ⟨hK, g1, g2, g3, mx_rel_up hR h1 ⟨h6, rfl, rfl⟩⟩ hl hs' hc hk)
theorem mw_lastore (F : mx_Cx p s m args meth c M) {a n : Nat} {i : Int32} {x : Int64} {f : Nat → Int64} (ha : g.1 a = some (.inl (.long, n, .inr (.inl f)))) (hi : mx_in i n = true) (hd : decode M.2.2.1 pc = .ok (.lastore, 1)) (k : mx_OK p l e R s m args below meth c Q D X A M L0 n0 s0 (pc + 1) ls r (mx_up g a (.inl (.long, n, .inr (.inl (vp_updL f i.toNatClampNeg x)))))) : mx_OK p l e R s m args below meth c Q D X A M L0 n0 s0 pc ls (.long x :: .int i :: .ref a :: r) g := by
  intro L tys ws H locs rl rst cells slots hw hl hs hc hk
  obtain ⟨hK, hP, hD, hS, hR⟩ := id hw
  obtain ⟨r0, rfl, hs0⟩ := mx_vrs_j hs
  obtain ⟨r1, rfl, hs1⟩ := mx_vrs_i hs0
  obtain ⟨a', e', h1, h2, h3⟩ := mx_rel_at hR ha
  obtain ⟨cA, d', t0, rfl, h4, h6, h5⟩ := mx_cr_arr h3
  obtain rfl := mx_dr_l h4
  obtain ⟨r', rfl, hs'⟩ := mx_vrs_r h2 hR.2.2.1 hs1
  exact va_last F.1 F.2.1 hK hP hD hS a t0 h1 h5 (mx_in_iff.mp hi) hd (fun H1 locs1 g1 g2 g3 => k L tys _ H1 locs1 rl _ cells slots ⟨hK, g1, g2, g3, mx_rel_up hR h1 ⟨h6, rfl, rfl⟩⟩ hl hs' hc hk)
theorem mw_aastore (F : mx_Cx p s m args meth c M) (E : mx_E sc X A s s.heap) {a n x ci : Nat} {i : Int32} {C : String} {f : Nat → Option Nat} {fs : List Value} (ha : g.1 a = some (.inl (.object C, n, .inr (.inr (.inr (.inr f)))))) (hx : g.1 x = some (.inr (ci, fs))) (hcast : mx_cast ci C = true) (hi : mx_in i n = true) (hd : decode M.2.2.1 pc = .ok (.aastore, 1)) (k : mx_OK p l e R s m args below meth c Q D X A M L0 n0 s0 (pc + 1) ls r (mx_up g a (.inl (.object C, n, .inr (.inr (.inr (.inr (va_up f i.toNatClampNeg (some x))))))))) : mx_OK p l e R s m args below meth c Q D X A M L0 n0 s0 pc ls (.ref x :: .int i :: .ref a :: r) g := by
  intro L tys ws H locs rl rst cells slots hw hl hs hc hk
  obtain ⟨hK, hP, hD, hS, hR⟩ := id hw
  obtain ⟨x', ex, y1, y2, y3⟩ := mx_rel_at hR hx
  obtain ⟨fs', rfl, y4⟩ := mx_cr_obj y3
  obtain ⟨r0, rfl, hs0⟩ := mx_vrs_r y2 hR.2.2.1 hs
  obtain ⟨r1, rfl, hs1⟩ := mx_vrs_i hs0
  obtain ⟨a', e', h1, h2, h3⟩ := mx_rel_at hR ha
  obtain ⟨cA, d', t0, rfl, h4, h6, h5⟩ := mx_cr_arr h3
  obtain ⟨f', rfl, h7⟩ := mx_dr_r h4
  obtain ⟨r', rfl, hs'⟩ := mx_vrs_r h2 hR.2.2.1 hs1
  obtain ⟨q, hq, -⟩ := hP x _ y1
  have hci : ci < 12 := mx_cls_lt hq
  obtain ⟨c1, -⟩ := mx_CC_ok ci hci
  have hx9 : x < 900 := Nat.lt_of_lt_of_le (List.getElem?_eq_some_iff.mp y2).1 hR.2.2.1
  have hdr : mx_dr L (.inr (.inr (.inr (.inr (va_up f i.toNatClampNeg (some x)))))) (.inr (.inr (.inr (.inr (va_up f' i.toNatClampNeg (some x')))))) := by
    intro z
    unfold va_up
    by_cases hz : z = i.toNatClampNeg
    · rw [if_pos hz, if_pos hz]
      exact Or.inr ⟨x, x', rfl, rfl, hx9, y2⟩
    · rw [if_neg hz, if_neg hz]
      exact h7 z
  have kk : ∀ (H1 : Heap) (locs1 : List Loc), va_P D vwCl (ws.set a (a', .inl (cA, n, .inr (.inr (.inr (.inr (va_up f' i.toNatClampNeg (some x')))))))) H1 → va_D A (ws.set a (a', .inl (cA, n, .inr (.inr (.inr (.inr (va_up f' i.toNatClampNeg (some x')))))))) → va_S A s.heap H1 locs1 → W p l e R s m args below meth c H1 locs1 cells slots Q (F0 m (pc + 1) rl r') := fun H1 locs1 g1 g2 g3 => k L tys _ H1 locs1 rl _ cells slots ⟨hK, g1, g2, g3, mx_rel_up hR h1 ⟨h6, rfl, hdr⟩⟩ hl hs' hc hk
  rcases mx_cast_ok hcast with rfl | hca
  · exact va_astq F.1 F.2.1 hK hP hD hS a t0 x ci h1 h5 y1 c1 (mx_in_iff.mp hi) hd kk
  · exact va_astqO F.1 F.2.1 hK hP hD hS a t0 x ci (r := (mx_cn ci, mx_TT ci, mx_NN ci)) h1 h5 (E.2.2.2.2.2.2 _ hca) y1 c1 (mx_in_iff.mp hi) hd kk
theorem mx_new_at {L : List Nat} {q : Nat} {k : Nat} (h : k = L.length) : (L ++ [q])[k]? = some q := by
  subst h
  rw [List.getElem?_append_right (Nat.le_refl _)]
  simp
theorem mx_dfl_vrs {L : List Nat} (ci : Nat) : mx_vrs X L (mx_dfl ci) (mx_dfl ci) := by
  unfold mx_dfl
  split <;> simp [mx_vrs, mx_vr]
theorem mw_new (F : mx_Cx p s m args meth c M) (hA : ∀ q, s.heap.size ≤ q → A q) {n ci : Nat} (hn : mx_ncl M.1 n = some ci) (hg : g.2.1 < 900) (hr1 : g.2.1 + 1 ≤ R.cells + n0) (hr2 : g.2.2 + (mx_dfl ci).length ≤ R.slots + s0) (hd : decode M.2.2.1 pc = .ok (.new n, 3)) (k : mx_OK p l e R s m args below meth c Q D X A M L0 n0 s0 (pc + 3) ls (.ref g.2.1 :: st) (mx_nw g (.inr (ci, mx_dfl ci)) (mx_dfl ci).length)) : mx_OK p l e R s m args below meth c Q D X A M L0 n0 s0 pc ls st g := by
  intro L tys ws H locs rl rst cells slots hw hl hs hc hk
  obtain ⟨hK, hP, hD, hS, hR⟩ := id hw
  obtain ⟨f1, f2⟩ := mx_ncl_ok hn
  obtain ⟨c1, c2, c3, c4, c5, c6, c7, c8, c9, c10⟩ := mx_CC_ok ci f1
  rw [c5] at hr2
  refine va_new F.1 F.2.1 F.2.2.2.2.1 c2 (mx_fty ci) c3 F.2.2.2.1 (F.2.2.2.2.1 _ f2) (F.2.2.2.2.1 _ c9) (F.2.2.2.2.1 _ c10) hK hP hD hS hA c1 (fs := mx_dfl ci) c6 (by omega) (by omega) hd (fun q H1 g1 g2 g3 => ?_)
  exact k (L ++ [q]) tys _ H1 locs rl _ (cells + 1) (slots + mx_NN ci) ⟨hK, g1, g2, g3, mx_rel_nw hR hg (fun c e h => mx_cr_app0 q h) ⟨rfl, mx_dfl_vrs ci⟩⟩ (mx_lr_app q hl) ⟨mx_vr_w hg (mx_new_at hR.2.1), mx_vrs_app q hs⟩ (by show cells + 1 + n0 = g.2.1 + 1; omega) (by show slots + mx_NN ci + s0 = g.2.2 + (mx_dfl ci).length; rw [c5]; omega)
theorem mw_newarrayI (F : mx_Cx p s m args meth c M) (hA : ∀ q, s.heap.size ≤ q → A q) {n : Int32} (hn : ¬ n < 0) (hn2 : n.toNatClampNeg ≤ 1000) (hg : g.2.1 < 900) (hr1 : g.2.1 + 1 ≤ R.cells + n0) (hr2 : g.2.2 + n.toNatClampNeg ≤ R.slots + s0) (hd : decode M.2.2.1 pc = .ok (.newarray .int, 2)) (k : mx_OK p l e R s m args below meth c Q D X A M L0 n0 s0 (pc + 2) ls (.ref g.2.1 :: r) (mx_nw g (.inl (.int, n.toNatClampNeg, .inl (fun _ => 0))) n.toNatClampNeg)) : mx_OK p l e R s m args below meth c Q D X A M L0 n0 s0 pc ls (.int n :: r) g := by
  intro L tys ws H locs rl rst cells slots hw hl hs hc hk
  obtain ⟨hK, hP, hD, hS, hR⟩ := id hw
  obtain ⟨r', rfl, hs'⟩ := mx_vrs_i hs
  refine va_newa (atype := .int) F.1 F.2.1 (F.2.2.2.2.1 _ mx_arr_w.1) (ty := .int) rfl hK hP hD hS hA (N' := n.toNatClampNeg) (a0 := (n.toNatClampNeg, .inl (fun _ => 0))) (fun cA => rfl) hn rfl (by show n.toNatClampNeg * 4 ≤ 536870912; omega) (by omega) (by omega) hd (fun q cA H1 g0 g1 g2 g3 => ?_)
  exact k (L ++ [q]) (tys ++ [(cA, .int)]) _ H1 locs rl _ (cells + 1) (slots + n.toNatClampNeg) ⟨g0, g1, g2, g3, mx_rel_nw hR hg (fun c e h => mx_cr_app q _ h) ⟨by simp, rfl, rfl⟩⟩ (mx_lr_app q hl) ⟨mx_vr_w hg (mx_new_at hR.2.1), mx_vrs_app q hs'⟩ (by show cells + 1 + n0 = g.2.1 + 1; omega) (by show slots + n.toNatClampNeg + s0 = g.2.2 + n.toNatClampNeg; omega)
theorem mw_newarrayL (F : mx_Cx p s m args meth c M) (hA : ∀ q, s.heap.size ≤ q → A q) {n : Int32} (hn : ¬ n < 0) (hn2 : n.toNatClampNeg ≤ 1000) (hg : g.2.1 < 900) (hr1 : g.2.1 + 1 ≤ R.cells + n0) (hr2 : g.2.2 + n.toNatClampNeg ≤ R.slots + s0) (hd : decode M.2.2.1 pc = .ok (.newarray .long, 2)) (k : mx_OK p l e R s m args below meth c Q D X A M L0 n0 s0 (pc + 2) ls (.ref g.2.1 :: r) (mx_nw g (.inl (.long, n.toNatClampNeg, .inr (.inl (fun _ => 0)))) n.toNatClampNeg)) : mx_OK p l e R s m args below meth c Q D X A M L0 n0 s0 pc ls (.int n :: r) g := by
  intro L tys ws H locs rl rst cells slots hw hl hs hc hk
  obtain ⟨hK, hP, hD, hS, hR⟩ := id hw
  obtain ⟨r', rfl, hs'⟩ := mx_vrs_i hs
  refine va_newa (atype := .long) F.1 F.2.1 (F.2.2.2.2.1 _ mx_arr_w.2) (ty := .long) rfl hK hP hD hS hA (N' := n.toNatClampNeg) (a0 := (n.toNatClampNeg, .inr (.inl (fun _ => 0)))) (fun cA => rfl) hn rfl (by show n.toNatClampNeg * 8 ≤ 536870912; omega) (by omega) (by omega) hd (fun q cA H1 g0 g1 g2 g3 => ?_)
  exact k (L ++ [q]) (tys ++ [(cA, .long)]) _ H1 locs rl _ (cells + 1) (slots + n.toNatClampNeg) ⟨g0, g1, g2, g3, mx_rel_nw hR hg (fun c e h => mx_cr_app q _ h) ⟨by simp, rfl, rfl⟩⟩ (mx_lr_app q hl) ⟨mx_vr_w hg (mx_new_at hR.2.1), mx_vrs_app q hs'⟩ (by show cells + 1 + n0 = g.2.1 + 1; omega) (by show slots + n.toNatClampNeg + s0 = g.2.2 + n.toNatClampNeg; omega)
theorem mw_anewarray (F : mx_Cx p s m args meth c M) (E : mx_E sc X A s s.heap) (hA : ∀ q, s.heap.size ≤ q → A q) {i : Nat} {C : String} {n : Int32} (hi : mx_acl M.1 i = some C) (hn : ¬ n < 0) (hn2 : n.toNatClampNeg ≤ 1000) (hg : g.2.1 < 900) (hr1 : g.2.1 + 1 ≤ R.cells + n0) (hr2 : g.2.2 + n.toNatClampNeg ≤ R.slots + s0) (hd : decode M.2.2.1 pc = .ok (.anewarray i, 3)) (k : mx_OK p l e R s m args below meth c Q D X A M L0 n0 s0 (pc + 3) ls (.ref g.2.1 :: r) (mx_nw g (.inl (.object C, n.toNatClampNeg, .inr (.inr (.inr (.inr (fun _ => none)))))) n.toNatClampNeg)) : mx_OK p l e R s m args below meth c Q D X A M L0 n0 s0 pc ls (.int n :: r) g := by
  intro L tys ws H locs rl rst cells slots hw hl hs hc hk
  obtain ⟨hK, hP, hD, hS, hR⟩ := id hw
  obtain ⟨r', rfl, hs'⟩ := mx_vrs_i hs
  obtain ⟨f1, f2⟩ := mx_acl_ok hi
  refine va_newq F.1 F.2.1 F.2.2.2.1 (F.2.2.2.2.1 _ f1) (E.2.2.2.2.2.2 _ f2) hK hP hD hS hA (N' := n.toNatClampNeg) hn rfl (by omega) (by omega) (by omega) hd (fun q cA H1 g0 g1 g2 g3 => ?_)
  exact k (L ++ [q]) (tys ++ [(cA, .object C)]) _ H1 locs rl _ (cells + 1) (slots + n.toNatClampNeg) ⟨g0, g1, g2, g3, mx_rel_nw hR hg (fun c e h => mx_cr_app q _ h) ⟨by simp, rfl, fun z => Or.inl ⟨rfl, rfl⟩⟩⟩ (mx_lr_app q hl) ⟨mx_vr_w hg (mx_new_at hR.2.1), mx_vrs_app q hs'⟩ (by show cells + 1 + n0 = g.2.1 + 1; omega) (by show slots + n.toNatClampNeg + s0 = g.2.2 + n.toNatClampNeg; omega)
theorem mw_min (F : mx_Cx p s m args meth c M) (E : mx_E sc X A s s.heap) {n : Nat} {x y : Int32} (hn : mx_mmn M.1 n = true) (hr : r.length ≤ 4) (hR1 : 1 ≤ R.frames) (hR2 : 34 ≤ R.locals) (hr1 : g.2.1 ≤ R.cells + n0) (hr2 : g.2.2 ≤ R.slots + s0) (hd : decode M.2.2.1 pc = .ok (.invokestatic n, 3)) (k : mx_OK p l e R s m args below meth c Q D X A M L0 n0 s0 (pc + 3) ls (.int (if y < x then y else x) :: r) g) : mx_OK p l e R s m args below meth c Q D X A M L0 n0 s0 pc ls (.int y :: .int x :: r) g := by
  intro L tys ws H locs rl rst cells slots hw hl hs hc hk
  obtain ⟨r1, rfl, hs1⟩ := mx_vrs_i hs
  obtain ⟨r2, rfl, hs2⟩ := mx_vrs_i hs1
  have h8 := mx_sum8 E.1 hs2
  exact va_mmin F.1 F.2.1 (F.2.2.1.trans hl.1.symm) F.2.2.2.1 (F.2.2.2.2.1 _ (mx_mmn_ok hn)) (F.2.2.2.2.1 _ mx_mmn_w.1) (F.2.2.2.2.1 _ mx_mmn_w.2.1) (F.2.2.2.2.1 _ mx_mmn_w.2.2) hR1 (by omega) (by omega) (by omega) hd (k L tys ws H locs rl _ cells slots hw hl ⟨rfl, hs2⟩ hc hk)
theorem mw_objInit (F : mx_Cx p s m args meth c M) (E : mx_E sc X A s s.heap) {n a : Nat} (hn : mx_oin M.1 n = true) (ha : a < 1000) (hr : r.length ≤ 4) (hR1 : 1 ≤ R.frames) (hR2 : 34 ≤ R.locals) (hd : decode M.2.2.1 pc = .ok (.invokespecial n, 3)) (k : mx_OK p l e R s m args below meth c Q D X A M L0 n0 s0 (pc + 3) ls r g) : mx_OK p l e R s m args below meth c Q D X A M L0 n0 s0 pc ls (.ref a :: r) g := by
  intro L tys ws H locs rl rst cells slots hw hl hs hc hk
  obtain ⟨v, r1, rfl, hv, hs1⟩ := mx_vrs_cons hs
  have h8 := mx_sum8 E.1 hs1
  rcases hv with ⟨-, b, -, rfl⟩ | ⟨h9, -⟩
  · refine W.objInit F.1 F.2.1 F.2.2.2.1 (F.2.2.2.2.1 _ (mx_oin_ok hn)) (F.2.2.2.2.1 _ mx_oin_w.1) (F.2.2.2.2.1 _ mx_oin_w.2) (g := F0 m pc rl (.ref b :: r1)) rfl (by show rl.size = _; rw [F.2.2.1]; exact hl.1) rfl hd hR1 (by have := lv_room (m := m) (pc := pc) (ls := rl) (rest := .ref b :: r1) (st := r1) (by omega); omega) ?_
    exact k L tys ws H locs rl _ cells slots hw hl hs1 hc hk
  · have h10 : 1000 ≤ a := h9
    omega
theorem mw_copyI (F : mx_Cx p s m args meth c M) (E : mx_E sc X A s s.heap) {j a b na nb : Nat} {n dp sp : Int32} {fa fb : Nat → Int32} (hn : mx_acp M.1 j = true) (hr : r.length ≤ 4) (hR1 : 1 ≤ R.frames) (hR2 : 34 ≤ R.locals) (h1 : ¬ n < 0) (h2 : ¬ dp < 0) (h3 : ¬ sp < 0) (hb : g.1 b = some (.inl (.int, nb, .inl fb))) (ha : g.1 a = some (.inl (.int, na, .inl fa))) (h4 : sp.toNatClampNeg + n.toNatClampNeg ≤ nb) (h5 : dp.toNatClampNeg + n.toNatClampNeg ≤ na) (hd : decode M.2.2.1 pc = .ok (.invokestatic j, 3)) (k : mx_OK p l e R s m args below meth c Q D X A M L0 n0 s0 (pc + 3) ls r (mx_up g a (.inl (.int, na, .inl (va_cpy fb fa sp.toNatClampNeg dp.toNatClampNeg n.toNatClampNeg))))) : mx_OK p l e R s m args below meth c Q D X A M L0 n0 s0 pc ls (.int n :: .int dp :: .ref a :: .int sp :: .ref b :: r) g := by
  intro L tys ws H locs rl rst cells slots hw hl hs hc hk
  obtain ⟨hK, hP, hD, hS, hR⟩ := id hw
  obtain ⟨r1, rfl, hs1⟩ := mx_vrs_i hs
  obtain ⟨r2, rfl, hs2⟩ := mx_vrs_i hs1
  obtain ⟨a', e', y1, y2, y3⟩ := mx_rel_at hR ha
  obtain ⟨cA, d', t0, rfl, y4, y6, y5⟩ := mx_cr_arr y3
  obtain rfl := mx_dr_i y4
  obtain ⟨r3, rfl, hs3⟩ := mx_vrs_r y2 hR.2.2.1 hs2
  obtain ⟨r4, rfl, hs4⟩ := mx_vrs_i hs3
  obtain ⟨b', e', z1, z2, z3⟩ := mx_rel_at hR hb
  obtain ⟨cB, d', t1, rfl, z4, z6, z5⟩ := mx_cr_arr z3
  obtain rfl := mx_dr_i z4
  obtain ⟨r5, rfl, hs5⟩ := mx_vrs_r z2 hR.2.2.1 hs4
  have h8 := mx_sum8 E.1 hs5
  have h7 : nativeFrameWords "java/lang/System" "arraycopy" 5 = 7 := by decide +kernel
  have h9 : (r5.map fun v => v.category).sum + (nativeFrameWords "java/lang/System" "arraycopy" 5 + 11) ≤ R.locals := by rw [h7]; omega
  exact va_copyi F.1 F.2.1 (F.2.2.1.trans hl.1.symm) F.2.2.2.1 (F.2.2.2.2.1 _ (mx_acp_ok hn)) (F.2.2.2.2.1 _ mx_acp_w.1) (F.2.2.2.2.1 _ mx_acp_w.2.1) (F.2.2.2.2.1 _ mx_acp_w.2.2) hK hP hD hS b a t1 t0 z1 y1 z5 y5 rfl h3 h2 h1 h4 h5 (fun i _ => rfl) hR1 h9 hd (fun H1 locs1 g1 g2 g3 => k L tys _ H1 locs1 rl _ cells slots ⟨hK, g1, g2, g3, mx_rel_up hR y1 ⟨y6, rfl, rfl⟩⟩ hl hs5 hc hk)
theorem mw_copyL (F : mx_Cx p s m args meth c M) (E : mx_E sc X A s s.heap) {j a b na nb : Nat} {n dp sp : Int32} {fa fb : Nat → Int64} (hn : mx_acp M.1 j = true) (hr : r.length ≤ 4) (hR1 : 1 ≤ R.frames) (hR2 : 34 ≤ R.locals) (h1 : ¬ n < 0) (h2 : ¬ dp < 0) (h3 : ¬ sp < 0) (hb : g.1 b = some (.inl (.long, nb, .inr (.inl fb)))) (ha : g.1 a = some (.inl (.long, na, .inr (.inl fa)))) (h4 : sp.toNatClampNeg + n.toNatClampNeg ≤ nb) (h5 : dp.toNatClampNeg + n.toNatClampNeg ≤ na) (hd : decode M.2.2.1 pc = .ok (.invokestatic j, 3)) (k : mx_OK p l e R s m args below meth c Q D X A M L0 n0 s0 (pc + 3) ls r (mx_up g a (.inl (.long, na, .inr (.inl (va_cpy fb fa sp.toNatClampNeg dp.toNatClampNeg n.toNatClampNeg)))))) : mx_OK p l e R s m args below meth c Q D X A M L0 n0 s0 pc ls (.int n :: .int dp :: .ref a :: .int sp :: .ref b :: r) g := by
  intro L tys ws H locs rl rst cells slots hw hl hs hc hk
  obtain ⟨hK, hP, hD, hS, hR⟩ := id hw
  obtain ⟨r1, rfl, hs1⟩ := mx_vrs_i hs
  obtain ⟨r2, rfl, hs2⟩ := mx_vrs_i hs1
  obtain ⟨a', e', y1, y2, y3⟩ := mx_rel_at hR ha
  obtain ⟨cA, d', t0, rfl, y4, y6, y5⟩ := mx_cr_arr y3
  obtain rfl := mx_dr_l y4
  obtain ⟨r3, rfl, hs3⟩ := mx_vrs_r y2 hR.2.2.1 hs2
  obtain ⟨r4, rfl, hs4⟩ := mx_vrs_i hs3
  obtain ⟨b', e', z1, z2, z3⟩ := mx_rel_at hR hb
  obtain ⟨cB, d', t1, rfl, z4, z6, z5⟩ := mx_cr_arr z3
  obtain rfl := mx_dr_l z4
  obtain ⟨r5, rfl, hs5⟩ := mx_vrs_r z2 hR.2.2.1 hs4
  have h8 := mx_sum8 E.1 hs5
  have h7 : nativeFrameWords "java/lang/System" "arraycopy" 5 = 7 := by decide +kernel
  have h9 : (r5.map fun v => v.category).sum + (nativeFrameWords "java/lang/System" "arraycopy" 5 + 11) ≤ R.locals := by rw [h7]; omega
  exact va_copyl F.1 F.2.1 (F.2.2.1.trans hl.1.symm) F.2.2.2.1 (F.2.2.2.2.1 _ (mx_acp_ok hn)) (F.2.2.2.2.1 _ mx_acp_w.1) (F.2.2.2.2.1 _ mx_acp_w.2.1) (F.2.2.2.2.1 _ mx_acp_w.2.2) hK hP hD hS b a t1 t0 z1 y1 z5 y5 rfl h3 h2 h1 h4 h5 (fun i _ => rfl) hR1 h9 hd (fun H1 locs1 g1 g2 g3 => k L tys _ H1 locs1 rl _ cells slots ⟨hK, g1, g2, g3, mx_rel_up hR y1 ⟨y6, rfl, rfl⟩⟩ hl hs5 hc hk)
end HeapOps
