/-! WHAT LIES OUTSIDE THE WORLD, AND ONE INSTRUCTION -/
def mx_sln : List Nat := [6, 5, 7, 4, 9, 5, 3, 3, 6, 5, 6]
theorem mx_sln_ok : ∀ i, i < 11 → (mx_byt.getD i []).length = mx_sln.getD i 0 := by decide
def mx_E (sc : mx_X) (X : Nat → Value) (A : Nat → Prop) (U : State) (H : Heap) : Prop :=
  (∀ k, X k = .null ∨ ∃ a, X k = .ref a) ∧
  (∃ kA, X 2000 = .ref kA ∧ va_Z "PocketBorders" "KIND_ABOVE" "[I" (.ref kA) A U H ∧ va_T .int kA 6 (fun j => .int (mx_ka.getD j 0)) A U H) ∧
  (∃ b, X 3000 = .ref b ∧ va_T .int b sc.1 (fun j => .int (sc.2 j)) A U H) ∧
  va_Z "java/lang/String" "COMPACT_STRINGS" "Z" (.int 1) A U H ∧
  va_Z "jdk/internal/util/Preconditions" "SIOOBE_FORMATTER" "Ljava/util/function/BiFunction;" (X 4000) A U H ∧
  (∃ adK adV : Nat → Nat, vk_S 11 mx_sln mx_byt adK adV A U H ∧ ∀ i, i < 11 → X (1000 + i) = .ref (adK i) ∧ X (1100 + i) = .ref (adV i) ∧ vk_R mx_sown (mx_sidx.getD i 0) (mx_stx.getD i "") (adK i) U) ∧
  (∀ w ∈ mx_nws, va_Nw w U)
theorem mx_nw_warm {s U : State} {w : Cond} (hw : w ∈ mx_nws) (hW : s.WarmedH U.vm) (h : va_Nw w s) : va_Nw w U := by
  have h1 := (List.mem_filter.mp hw).2
  unfold mx_nst at h1
  split at h1
  · exact va_Nw.warmF hW h
  · exact va_Nw.warmM hW h
  · exact va_Nw.warmC hW h
  · exact va_AO.moved hW.alike h
  · cases h1
theorem mx_nw_same {u U : State} {w : Cond} (hw : w ∈ mx_nws) (hv : u.vm = U.vm) (h : va_Nw w u) : va_Nw w U := by
  have h1 := (List.mem_filter.mp hw).2
  unfold mx_nst at h1
  split at h1
  · exact va_tabs rfl hv h
  · exact va_tabs rfl hv h
  · exact va_tabs rfl hv h
  · exact va_AO.moved (by rw [hv]; exact Vm.Alike.refl _) h
  · cases h1
section Env
variable {sc : mx_X} {X : Nat → Value} {A B : Nat → Prop} {s U : State} {H H1 : Heap}
theorem mx_E.kept (h : mx_E sc X A U H) (hq : ∀ a : Nat, a < H.size → ¬ A a → H1[a]? = H[a]?) : mx_E sc X A U H1 := by
  obtain ⟨h1, ⟨kA, a1, a2, a3⟩, ⟨b, b1, b2⟩, h4, h5, ⟨adK, adV, c1, c2⟩, h7⟩ := h
  exact ⟨h1, ⟨kA, a1, a2.kept hq, a3.kept hq⟩, ⟨b, b1, b2.kept hq⟩, h4.kept hq, h5.kept hq, ⟨adK, adV, c1.kept hq, c2⟩, h7⟩
theorem mx_E.narrow (h : mx_E sc X A U H) (hAB : ∀ q, B q → A q) : mx_E sc X B U H := by
  obtain ⟨h1, ⟨kA, a1, a2, a3⟩, ⟨b, b1, b2⟩, h4, h5, ⟨adK, adV, c1, c2⟩, h7⟩ := h
  exact ⟨h1, ⟨kA, a1, a2.narrow hAB, a3.narrow hAB⟩, ⟨b, b1, b2.narrow hAB⟩, h4.narrow hAB, h5.narrow hAB, ⟨adK, adV, c1.narrow hAB, c2⟩, h7⟩
theorem mx_E.warm (hW : s.WarmedH U.vm) (h : mx_E sc X A s H) : mx_E sc X A U H := by
  obtain ⟨h1, ⟨kA, a1, a2, a3⟩, ⟨b, b1, b2⟩, h4, h5, ⟨adK, adV, c1, c2⟩, h7⟩ := h
  exact ⟨h1, ⟨kA, a1, va_Z.moved hW.alike a2, va_T.moved hW.alike a3⟩, ⟨b, b1, va_T.moved hW.alike b2⟩, va_Z.moved hW.alike h4, va_Z.moved hW.alike h5, ⟨adK, adV, vk_S.moved hW.alike c1, fun i hi => ⟨(c2 i hi).1, (c2 i hi).2.1, vk_R.warm hW (c2 i hi).2.2⟩⟩, fun w hw => mx_nw_warm hw hW (h7 w hw)⟩
theorem mx_E.same (hv : s.vm = U.vm) (h : mx_E sc X A s H) : mx_E sc X A U H := by
  have hA : s.vm.Alike U.vm := by rw [hv]; exact Vm.Alike.refl _
  obtain ⟨h1, ⟨kA, a1, a2, a3⟩, ⟨b, b1, b2⟩, h4, h5, ⟨adK, adV, c1, c2⟩, h7⟩ := h
  exact ⟨h1, ⟨kA, a1, va_Z.moved hA a2, va_T.moved hA a3⟩, ⟨b, b1, va_T.moved hA b2⟩, va_Z.moved hA h4, va_Z.moved hA h5, ⟨adK, adV, vk_S.moved hA c1, fun i hi => ⟨(c2 i hi).1, (c2 i hi).2.1, vk_R.same hv.symm (c2 i hi).2.2⟩⟩, fun w hw => mx_nw_same hw hv (h7 w hw)⟩
end Env
/-- a method's own circumstances -/
def mx_Cx (p : Program) (s : State) (m : MethodId) (args : Array Value) (meth : Method) (c : Code) (M : mx_M) : Prop :=
  p.tables.exec = Jvm.exec ∧ c.code = M.2.2.1 ∧ c.maxLocals = M.2.2.2.1 ∧ s.vm.findClass (mx_cn M.1) = some m.cls ∧ (∀ w ∈ mx_tbl, w.before args s = true) ∧ meth.sig.returnType = M.2.2.2.2 ∧ meth.locks = false ∧ (M.2.1.name = "<init>" → meth.name = "<init>")
def mx_Wd (D : va_G) (X : Nat → Value) (A : Nat → Prop) (s : State) (L0 : List Nat) (g : mx_G) (L : List Nat) (tys : List (ClassId × FieldType)) (ws : va_W) (H : Heap) (locs : List Loc) : Prop :=
  va_K D vwCl tys s ∧ va_P D vwCl ws H ∧ va_D A ws ∧ va_S A s.heap H locs ∧ mx_rel L0 X L tys g ws
/-- from every real state that is like this one the machine comes to Q -/
def mx_OK (p : Program) (l : Launch) (e : Env) (R : Room) (s : State) (m : MethodId) (args : Array Value) (below : List Frame) (meth : Method) (c : Code) (Q : State → Prop) (D : va_G) (X : Nat → Value) (A : Nat → Prop) (M : mx_M) (L0 : List Nat) (n0 s0 : Nat) (pc : Nat) (ls : mx_L) (st : List Value) (g : mx_G) : Prop :=
  ∀ (L : List Nat) (tys : List (ClassId × FieldType)) (ws : va_W) (H : Heap) (locs : List Loc) (rl : Array Slot) (rst : List Value) (cells slots : Nat), mx_Wd D X A s L0 g L tys ws H locs → mx_lr X L ls rl M.2.2.2.1 → mx_vrs X L st rst → cells + n0 = g.2.1 → slots + s0 = g.2.2 → W p l e R s m args below meth c H locs cells slots Q (F0 m pc rl rst)
section OneOp
variable {p : Program} {l : Launch} {e : Env} {R : Room} {s : State} {m : MethodId} {args : Array Value} {below : List Frame} {meth : Method} {c : Code} {Q : State → Prop} {D : va_G} {X : Nat → Value} {A : Nat → Prop} {M : mx_M} {L0 : List Nat} {n0 s0 : Nat} {sc : mx_X}
variable {pc : Nat} {ls : mx_L} {st r : List Value} {g : mx_G}
theorem mw_iconst (F : mx_Cx p s m args meth c M) {n : Int} (hd : decode M.2.2.1 pc = .ok (.iconst n, 1)) (k : mx_OK p l e R s m args below meth c Q D X A M L0 n0 s0 (pc + 1) ls (.int (Int32.ofInt n) :: st) g) : mx_OK p l e R s m args below meth c Q D X A M L0 n0 s0 pc ls st g := by
  intro L tys ws H locs rl rst cells slots hw hl hs hc hk
  exact lv_iconst F.1 F.2.1 hd rfl (k L tys ws H locs rl _ cells slots hw hl ⟨rfl, hs⟩ hc hk)
theorem mw_bipush (F : mx_Cx p s m args meth c M) {n : Int} (hd : decode M.2.2.1 pc = .ok (.bipush n, 2)) (k : mx_OK p l e R s m args below meth c Q D X A M L0 n0 s0 (pc + 2) ls (.int (Int8.ofInt n).toInt32 :: st) g) : mx_OK p l e R s m args below meth c Q D X A M L0 n0 s0 pc ls st g := by
  intro L tys ws H locs rl rst cells slots hw hl hs hc hk
  exact lv_bipush F.1 F.2.1 hd rfl (k L tys ws H locs rl _ cells slots hw hl ⟨rfl, hs⟩ hc hk)
theorem mw_sipush (F : mx_Cx p s m args meth c M) {n : Int} (hd : decode M.2.2.1 pc = .ok (.sipush n, 3)) (k : mx_OK p l e R s m args below meth c Q D X A M L0 n0 s0 (pc + 3) ls (.int (Int16.ofInt n).toInt32 :: st) g) : mx_OK p l e R s m args below meth c Q D X A M L0 n0 s0 pc ls st g := by
  intro L tys ws H locs rl rst cells slots hw hl hs hc hk
  exact lv_sipush F.1 F.2.1 hd rfl (k L tys ws H locs rl _ cells slots hw hl ⟨rfl, hs⟩ hc hk)
theorem mw_lconst (F : mx_Cx p s m args meth c M) {n : Fin 2} (hd : decode M.2.2.1 pc = .ok (.lconst n, 1)) (k : mx_OK p l e R s m args below meth c Q D X A M L0 n0 s0 (pc + 1) ls (.long (Int64.ofNat (n : Nat)) :: st) g) : mx_OK p l e R s m args below meth c Q D X A M L0 n0 s0 pc ls st g := by
  intro L tys ws H locs rl rst cells slots hw hl hs hc hk
  exact lv_lconst F.1 F.2.1 hd rfl (k L tys ws H locs rl _ cells slots hw hl ⟨rfl, hs⟩ hc hk)
theorem mw_iload_n (F : mx_Cx p s m args meth c M) {n : Fin 4} {x : Int32} (hd : decode M.2.2.1 pc = .ok (.iload_n n, 1)) (hx : mx_ld ls n = some (.int x)) (k : mx_OK p l e R s m args below meth c Q D X A M L0 n0 s0 (pc + 1) ls (.int x :: st) g) : mx_OK p l e R s m args below meth c Q D X A M L0 n0 s0 pc ls st g := by
  intro L tys ws H locs rl rst cells slots hw hl hs hc hk
  obtain ⟨w, hv, hr⟩ := hl.2.2.2 _ _ (mx_ld_inv hx)
  cases hv
  exact lv_iload_n F.1 F.2.1 hd rfl hr (k L tys ws H locs rl _ cells slots hw hl ⟨rfl, hs⟩ hc hk)
theorem mw_lload_n (F : mx_Cx p s m args meth c M) {n : Fin 4} {x : Int64} (hd : decode M.2.2.1 pc = .ok (.lload_n n, 1)) (hx : mx_ld ls n = some (.long x)) (k : mx_OK p l e R s m args below meth c Q D X A M L0 n0 s0 (pc + 1) ls (.long x :: st) g) : mx_OK p l e R s m args below meth c Q D X A M L0 n0 s0 pc ls st g := by
  intro L tys ws H locs rl rst cells slots hw hl hs hc hk
  obtain ⟨w, hv, hr⟩ := hl.2.2.2 _ _ (mx_ld_inv hx)
  cases hv
  exact lv_lload_n F.1 F.2.1 hd rfl hr (k L tys ws H locs rl _ cells slots hw hl ⟨rfl, hs⟩ hc hk)
theorem mw_iload (F : mx_Cx p s m args meth c M) {n : Nat} {x : Int32} (hd : decode M.2.2.1 pc = .ok (.iload n, 2)) (hx : mx_ld ls n = some (.int x)) (k : mx_OK p l e R s m args below meth c Q D X A M L0 n0 s0 (pc + 2) ls (.int x :: st) g) : mx_OK p l e R s m args below meth c Q D X A M L0 n0 s0 pc ls st g := by
  intro L tys ws H locs rl rst cells slots hw hl hs hc hk
  obtain ⟨w, hv, hr⟩ := hl.2.2.2 _ _ (mx_ld_inv hx)
  cases hv
  exact lv_iload F.1 F.2.1 hd hr (k L tys ws H locs rl _ cells slots hw hl ⟨rfl, hs⟩ hc hk)
theorem mw_lload (F : mx_Cx p s m args meth c M) {n : Nat} {x : Int64} (hd : decode M.2.2.1 pc = .ok (.lload n, 2)) (hx : mx_ld ls n = some (.long x)) (k : mx_OK p l e R s m args below meth c Q D X A M L0 n0 s0 (pc + 2) ls (.long x :: st) g) : mx_OK p l e R s m args below meth c Q D X A M L0 n0 s0 pc ls st g := by
  intro L tys ws H locs rl rst cells slots hw hl hs hc hk
  obtain ⟨w, hv, hr⟩ := hl.2.2.2 _ _ (mx_ld_inv hx)
  cases hv
  exact lv_lload F.1 F.2.1 hd hr (k L tys ws H locs rl _ cells slots hw hl ⟨rfl, hs⟩ hc hk)
theorem mw_aload_n (F : mx_Cx p s m args meth c M) (hX : ∀ k, X k = .null ∨ ∃ a, X k = .ref a) {n : Fin 4} {v : Value} (hv : (∃ a, v = .ref a) ∨ v = .null) (hd : decode M.2.2.1 pc = .ok (.aload_n n, 1)) (hx : mx_ld ls n = some v) (k : mx_OK p l e R s m args below meth c Q D X A M L0 n0 s0 (pc + 1) ls (v :: st) g) : mx_OK p l e R s m args below meth c Q D X A M L0 n0 s0 pc ls st g := by
  intro L tys ws H locs rl rst cells slots hw hl hs hc hk
  obtain ⟨w, hw2, hr⟩ := hl.2.2.2 _ _ (mx_ld_inv hx)
  have hw3 : w = .null ∨ ∃ a, w = .ref a := by
    rcases hv with ⟨a, rfl⟩ | rfl
    · exact mx_vr_ref hX hw2
    · exact Or.inl hw2
  have k2 := k L tys ws H locs rl (w :: rst) cells slots hw hl ⟨hw2, hs⟩ hc hk
  rcases hw3 with rfl | ⟨a, rfl⟩
  · exact lv_aload_nN F.1 F.2.1 hd rfl hr k2
  · exact lv_aload_n F.1 F.2.1 hd rfl hr k2
theorem mw_aload (F : mx_Cx p s m args meth c M) (hX : ∀ k, X k = .null ∨ ∃ a, X k = .ref a) {n : Nat} {v : Value} (hv : (∃ a, v = .ref a) ∨ v = .null) (hd : decode M.2.2.1 pc = .ok (.aload n, 2)) (hx : mx_ld ls n = some v) (k : mx_OK p l e R s m args below meth c Q D X A M L0 n0 s0 (pc + 2) ls (v :: st) g) : mx_OK p l e R s m args below meth c Q D X A M L0 n0 s0 pc ls st g := by
  intro L tys ws H locs rl rst cells slots hw hl hs hc hk
  obtain ⟨w, hw2, hr⟩ := hl.2.2.2 _ _ (mx_ld_inv hx)
  have hw3 : w = .null ∨ ∃ a, w = .ref a := by
    rcases hv with ⟨a, rfl⟩ | rfl
    · exact mx_vr_ref hX hw2
    · exact Or.inl hw2
  have k2 := k L tys ws H locs rl (w :: rst) cells slots hw hl ⟨hw2, hs⟩ hc hk
  rcases hw3 with rfl | ⟨a, rfl⟩
  · exact lv_aloadN F.1 F.2.1 hd hr k2
  · exact lv_aload F.1 F.2.1 hd hr k2
theorem mw_istore_n (F : mx_Cx p s m args meth c M) (hX : ∀ k, X k = .null ∨ ∃ a, X k = .ref a) {n : Fin 4} {x : Int32} (hn : (n : Nat) < ls.length) (hd : decode M.2.2.1 pc = .ok (.istore_n n, 1)) (k : mx_OK p l e R s m args below meth c Q D X A M L0 n0 s0 (pc + 1) (mx_st1 ls n (.int x)) r g) : mx_OK p l e R s m args below meth c Q D X A M L0 n0 s0 pc ls (.int x :: r) g := by
  intro L tys ws H locs rl rst cells slots hw hl hs hc hk
  obtain ⟨r', rfl, hs'⟩ := mx_vrs_i hs
  exact lv_istore_n F.1 F.2.1 hd rfl (mx_all_has hl.1 hl.2.1) (by rw [← hl.2.2.1]; exact hn) rfl (fun rl' h' => k L tys ws H locs rl' _ cells slots hw (mx_store1 hX hl (by rw [← hl.2.2.1]; exact hn) rfl h') hs' hc hk)
theorem mw_istore (F : mx_Cx p s m args meth c M) (hX : ∀ k, X k = .null ∨ ∃ a, X k = .ref a) {n : Nat} {x : Int32} (hn : (n : Nat) < ls.length) (hd : decode M.2.2.1 pc = .ok (.istore n, 2)) (k : mx_OK p l e R s m args below meth c Q D X A M L0 n0 s0 (pc + 2) (mx_st1 ls n (.int x)) r g) : mx_OK p l e R s m args below meth c Q D X A M L0 n0 s0 pc ls (.int x :: r) g := by
  intro L tys ws H locs rl rst cells slots hw hl hs hc hk
  obtain ⟨r', rfl, hs'⟩ := mx_vrs_i hs
  exact lv_istore F.1 F.2.1 hd (mx_all_has hl.1 hl.2.1) (by rw [← hl.2.2.1]; exact hn) rfl (fun rl' h' => k L tys ws H locs rl' _ cells slots hw (mx_store1 hX hl (by rw [← hl.2.2.1]; exact hn) rfl h') hs' hc hk)
theorem mw_lstore (F : mx_Cx p s m args meth c M) (hX : ∀ k, X k = .null ∨ ∃ a, X k = .ref a) {n : Nat} {x : Int64} (hn : n + 1 < ls.length) (hd : decode M.2.2.1 pc = .ok (.lstore n, 2)) (k : mx_OK p l e R s m args below meth c Q D X A M L0 n0 s0 (pc + 2) (mx_st2 ls n (.long x)) r g) : mx_OK p l e R s m args below meth c Q D X A M L0 n0 s0 pc ls (.long x :: r) g := by
  intro L tys ws H locs rl rst cells slots hw hl hs hc hk
  obtain ⟨r', rfl, hs'⟩ := mx_vrs_j hs
  exact lv_lstore F.1 F.2.1 hd (mx_all_has hl.1 hl.2.1) (by rw [← hl.2.2.1]; exact hn) rfl (fun rl' h' => k L tys ws H locs rl' _ cells slots hw (mx_store2 hX hl (by rw [← hl.2.2.1]; exact hn) rfl h') hs' hc hk)
theorem mw_astore_n (F : mx_Cx p s m args meth c M) (hX : ∀ k, X k = .null ∨ ∃ a, X k = .ref a) {n : Fin 4} {a : Nat} (hn : (n : Nat) < ls.length) (hd : decode M.2.2.1 pc = .ok (.astore_n n, 1)) (k : mx_OK p l e R s m args below meth c Q D X A M L0 n0 s0 (pc + 1) (mx_st1 ls n (.ref a)) r g) : mx_OK p l e R s m args below meth c Q D X A M L0 n0 s0 pc ls (.ref a :: r) g := by
  intro L tys ws H locs rl rst cells slots hw hl hs hc hk
  obtain ⟨w, r', rfl, hv, hs'⟩ := mx_vrs_cons hs
  have hnl : (n : Nat) < M.2.2.2.1 := by rw [← hl.2.2.1]; exact hn
  rcases mx_vr_ref hX hv with rfl | ⟨b, rfl⟩
  · exact lv_astore_nN F.1 F.2.1 hd rfl (mx_all_has hl.1 hl.2.1) hnl rfl (fun rl' h' => k L tys ws H locs rl' _ cells slots hw (mx_store1 hX hl hnl hv h') hs' hc hk)
  · exact lv_astore_n F.1 F.2.1 hd rfl (mx_all_has hl.1 hl.2.1) hnl rfl (fun rl' h' => k L tys ws H locs rl' _ cells slots hw (mx_store1 hX hl hnl hv h') hs' hc hk)
theorem mw_iinc (F : mx_Cx p s m args meth c M) (hX : ∀ k, X k = .null ∨ ∃ a, X k = .ref a) {n : Nat} {z : Int} {x : Int32} (hx : mx_ld ls n = some (.int x)) (hd : decode M.2.2.1 pc = .ok (.iinc n z, 3)) (k : mx_OK p l e R s m args below meth c Q D X A M L0 n0 s0 (pc + 3) (mx_st1 ls n (.int (x + Int32.ofInt z))) st g) : mx_OK p l e R s m args below meth c Q D X A M L0 n0 s0 pc ls st g := by
  intro L tys ws H locs rl rst cells slots hw hl hs hc hk
  have hx2 := mx_ld_inv hx
  obtain ⟨w, hv, hr⟩ := hl.2.2.2 _ _ hx2
  cases hv
  have hnl : n < M.2.2.2.1 := by rw [← hl.2.2.1]; exact (List.getElem?_eq_some_iff.mp hx2).1
  obtain ⟨j, hj⟩ := List.getElem?_of_mem (mx_all_mem.mpr hr)
  exact lv_iinc F.1 F.2.1 hd (mx_all_has hl.1 hl.2.1) hj rfl hnl rfl (fun rl' h' => k L tys ws H locs rl' _ cells slots hw (mx_store1 hX hl hnl rfl h') hs hc hk)
theorem mw_iadd (F : mx_Cx p s m args meth c M) {x y : Int32}  (hd : decode M.2.2.1 pc = .ok (.iadd, 1)) (k : mx_OK p l e R s m args below meth c Q D X A M L0 n0 s0 (pc + 1) ls (.int (x + y) :: r) g) : mx_OK p l e R s m args below meth c Q D X A M L0 n0 s0 pc ls (.int y :: .int x :: r) g := by
  intro L tys ws H locs rl rst cells slots hw hl hs hc hk
  obtain ⟨r1, rfl, hs1⟩ := mx_vrs_i hs
  obtain ⟨r2, rfl, hs2⟩ := mx_vrs_i hs1
  exact lv_iadd F.1 F.2.1 hd (k L tys ws H locs rl _ cells slots hw hl ⟨rfl, hs2⟩ hc hk)
theorem mw_isub (F : mx_Cx p s m args meth c M) {x y : Int32}  (hd : decode M.2.2.1 pc = .ok (.isub, 1)) (k : mx_OK p l e R s m args below meth c Q D X A M L0 n0 s0 (pc + 1) ls (.int (x - y) :: r) g) : mx_OK p l e R s m args below meth c Q D X A M L0 n0 s0 pc ls (.int y :: .int x :: r) g := by
  intro L tys ws H locs rl rst cells slots hw hl hs hc hk
  obtain ⟨r1, rfl, hs1⟩ := mx_vrs_i hs
  obtain ⟨r2, rfl, hs2⟩ := mx_vrs_i hs1
  exact lv_isub F.1 F.2.1 hd (k L tys ws H locs rl _ cells slots hw hl ⟨rfl, hs2⟩ hc hk)
theorem mw_imul (F : mx_Cx p s m args meth c M) {x y : Int32}  (hd : decode M.2.2.1 pc = .ok (.imul, 1)) (k : mx_OK p l e R s m args below meth c Q D X A M L0 n0 s0 (pc + 1) ls (.int (x * y) :: r) g) : mx_OK p l e R s m args below meth c Q D X A M L0 n0 s0 pc ls (.int y :: .int x :: r) g := by
  intro L tys ws H locs rl rst cells slots hw hl hs hc hk
  obtain ⟨r1, rfl, hs1⟩ := mx_vrs_i hs
  obtain ⟨r2, rfl, hs2⟩ := mx_vrs_i hs1
  exact lv_imul F.1 F.2.1 hd (k L tys ws H locs rl _ cells slots hw hl ⟨rfl, hs2⟩ hc hk)
theorem mw_iand (F : mx_Cx p s m args meth c M) {x y : Int32}  (hd : decode M.2.2.1 pc = .ok (.iand, 1)) (k : mx_OK p l e R s m args below meth c Q D X A M L0 n0 s0 (pc + 1) ls (.int (x &&& y) :: r) g) : mx_OK p l e R s m args below meth c Q D X A M L0 n0 s0 pc ls (.int y :: .int x :: r) g := by
  intro L tys ws H locs rl rst cells slots hw hl hs hc hk
  obtain ⟨r1, rfl, hs1⟩ := mx_vrs_i hs
  obtain ⟨r2, rfl, hs2⟩ := mx_vrs_i hs1
  exact lv_iand F.1 F.2.1 hd (k L tys ws H locs rl _ cells slots hw hl ⟨rfl, hs2⟩ hc hk)
theorem mw_ior (F : mx_Cx p s m args meth c M) {x y : Int32}  (hd : decode M.2.2.1 pc = .ok (.ior, 1)) (k : mx_OK p l e R s m args below meth c Q D X A M L0 n0 s0 (pc + 1) ls (.int (x ||| y) :: r) g) : mx_OK p l e R s m args below meth c Q D X A M L0 n0 s0 pc ls (.int y :: .int x :: r) g := by
  intro L tys ws H locs rl rst cells slots hw hl hs hc hk
  obtain ⟨r1, rfl, hs1⟩ := mx_vrs_i hs
  obtain ⟨r2, rfl, hs2⟩ := mx_vrs_i hs1
  exact lv_ior F.1 F.2.1 hd (k L tys ws H locs rl _ cells slots hw hl ⟨rfl, hs2⟩ hc hk)
theorem mw_ixor (F : mx_Cx p s m args meth c M) {x y : Int32}  (hd : decode M.2.2.1 pc = .ok (.ixor, 1)) (k : mx_OK p l e R s m args below meth c Q D X A M L0 n0 s0 (pc + 1) ls (.int (x ^^^ y) :: r) g) : mx_OK p l e R s m args below meth c Q D X A M L0 n0 s0 pc ls (.int y :: .int x :: r) g := by
  intro L tys ws H locs rl rst cells slots hw hl hs hc hk
  obtain ⟨r1, rfl, hs1⟩ := mx_vrs_i hs
  obtain ⟨r2, rfl, hs2⟩ := mx_vrs_i hs1
  exact lv_ixor F.1 F.2.1 hd (k L tys ws H locs rl _ cells slots hw hl ⟨rfl, hs2⟩ hc hk)
theorem mw_ishl (F : mx_Cx p s m args meth c M) {x y : Int32}  (hd : decode M.2.2.1 pc = .ok (.ishl, 1)) (k : mx_OK p l e R s m args below meth c Q D X A M L0 n0 s0 (pc + 1) ls (.int (x <<< (y &&& 31)) :: r) g) : mx_OK p l e R s m args below meth c Q D X A M L0 n0 s0 pc ls (.int y :: .int x :: r) g := by
  intro L tys ws H locs rl rst cells slots hw hl hs hc hk
  obtain ⟨r1, rfl, hs1⟩ := mx_vrs_i hs
  obtain ⟨r2, rfl, hs2⟩ := mx_vrs_i hs1
  exact lv_ishl F.1 F.2.1 hd (k L tys ws H locs rl _ cells slots hw hl ⟨rfl, hs2⟩ hc hk)
theorem mw_ishr (F : mx_Cx p s m args meth c M) {x y : Int32}  (hd : decode M.2.2.1 pc = .ok (.ishr, 1)) (k : mx_OK p l e R s m args below meth c Q D X A M L0 n0 s0 (pc + 1) ls (.int (x >>> (y &&& 31)) :: r) g) : mx_OK p l e R s m args below meth c Q D X A M L0 n0 s0 pc ls (.int y :: .int x :: r) g := by
  intro L tys ws H locs rl rst cells slots hw hl hs hc hk
  obtain ⟨r1, rfl, hs1⟩ := mx_vrs_i hs
  obtain ⟨r2, rfl, hs2⟩ := mx_vrs_i hs1
  exact lv_ishr F.1 F.2.1 hd (k L tys ws H locs rl _ cells slots hw hl ⟨rfl, hs2⟩ hc hk)
theorem mw_idiv (F : mx_Cx p s m args meth c M) {x y : Int32} (hy : ¬ y = 0) (hd : decode M.2.2.1 pc = .ok (.idiv, 1)) (k : mx_OK p l e R s m args below meth c Q D X A M L0 n0 s0 (pc + 1) ls (.int (x / y) :: r) g) : mx_OK p l e R s m args below meth c Q D X A M L0 n0 s0 pc ls (.int y :: .int x :: r) g := by
  intro L tys ws H locs rl rst cells slots hw hl hs hc hk
  obtain ⟨r1, rfl, hs1⟩ := mx_vrs_i hs
  obtain ⟨r2, rfl, hs2⟩ := mx_vrs_i hs1
  exact lv_idiv F.1 F.2.1 hd hy (k L tys ws H locs rl _ cells slots hw hl ⟨rfl, hs2⟩ hc hk)
theorem mw_irem (F : mx_Cx p s m args meth c M) {x y : Int32} (hy : ¬ y = 0) (hd : decode M.2.2.1 pc = .ok (.irem, 1)) (k : mx_OK p l e R s m args below meth c Q D X A M L0 n0 s0 (pc + 1) ls (.int (x - x / y * y) :: r) g) : mx_OK p l e R s m args below meth c Q D X A M L0 n0 s0 pc ls (.int y :: .int x :: r) g := by
  intro L tys ws H locs rl rst cells slots hw hl hs hc hk
  obtain ⟨r1, rfl, hs1⟩ := mx_vrs_i hs
  obtain ⟨r2, rfl, hs2⟩ := mx_vrs_i hs1
  exact lv_irem F.1 F.2.1 hd hy (k L tys ws H locs rl _ cells slots hw hl ⟨rfl, hs2⟩ hc hk)
theorem mw_iushr (F : mx_Cx p s m args meth c M) {x y : Int32}  (hd : decode M.2.2.1 pc = .ok (.iushr, 1)) (k : mx_OK p l e R s m args below meth c Q D X A M L0 n0 s0 (pc + 1) ls (.int ((x.toUInt32 >>> (y.toUInt32 &&& Int32.toUInt32 31)).toInt32) :: r) g) : mx_OK p l e R s m args below meth c Q D X A M L0 n0 s0 pc ls (.int y :: .int x :: r) g := by
  intro L tys ws H locs rl rst cells slots hw hl hs hc hk
  obtain ⟨r1, rfl, hs1⟩ := mx_vrs_i hs
  obtain ⟨r2, rfl, hs2⟩ := mx_vrs_i hs1
  exact lv_iushr F.1 F.2.1 hd rfl (k L tys ws H locs rl _ cells slots hw hl ⟨rfl, hs2⟩ hc hk)
theorem mw_ladd (F : mx_Cx p s m args meth c M) {x y : Int64}  (hd : decode M.2.2.1 pc = .ok (.ladd, 1)) (k : mx_OK p l e R s m args below meth c Q D X A M L0 n0 s0 (pc + 1) ls (.long (x + y) :: r) g) : mx_OK p l e R s m args below meth c Q D X A M L0 n0 s0 pc ls (.long y :: .long x :: r) g := by
  intro L tys ws H locs rl rst cells slots hw hl hs hc hk
  obtain ⟨r1, rfl, hs1⟩ := mx_vrs_j hs
  obtain ⟨r2, rfl, hs2⟩ := mx_vrs_j hs1
  exact lv_ladd F.1 F.2.1 hd (k L tys ws H locs rl _ cells slots hw hl ⟨rfl, hs2⟩ hc hk)
theorem mw_lsub (F : mx_Cx p s m args meth c M) {x y : Int64}  (hd : decode M.2.2.1 pc = .ok (.lsub, 1)) (k : mx_OK p l e R s m args below meth c Q D X A M L0 n0 s0 (pc + 1) ls (.long (x - y) :: r) g) : mx_OK p l e R s m args below meth c Q D X A M L0 n0 s0 pc ls (.long y :: .long x :: r) g := by
  intro L tys ws H locs rl rst cells slots hw hl hs hc hk
  obtain ⟨r1, rfl, hs1⟩ := mx_vrs_j hs
  obtain ⟨r2, rfl, hs2⟩ := mx_vrs_j hs1
  exact lv_lsub F.1 F.2.1 hd (k L tys ws H locs rl _ cells slots hw hl ⟨rfl, hs2⟩ hc hk)
theorem mw_lmul (F : mx_Cx p s m args meth c M) {x y : Int64}  (hd : decode M.2.2.1 pc = .ok (.lmul, 1)) (k : mx_OK p l e R s m args below meth c Q D X A M L0 n0 s0 (pc + 1) ls (.long (x * y) :: r) g) : mx_OK p l e R s m args below meth c Q D X A M L0 n0 s0 pc ls (.long y :: .long x :: r) g := by
  intro L tys ws H locs rl rst cells slots hw hl hs hc hk
  obtain ⟨r1, rfl, hs1⟩ := mx_vrs_j hs
  obtain ⟨r2, rfl, hs2⟩ := mx_vrs_j hs1
  exact lv_lmul F.1 F.2.1 hd (k L tys ws H locs rl _ cells slots hw hl ⟨rfl, hs2⟩ hc hk)
theorem mw_land (F : mx_Cx p s m args meth c M) {x y : Int64}  (hd : decode M.2.2.1 pc = .ok (.land, 1)) (k : mx_OK p l e R s m args below meth c Q D X A M L0 n0 s0 (pc + 1) ls (.long (x &&& y) :: r) g) : mx_OK p l e R s m args below meth c Q D X A M L0 n0 s0 pc ls (.long y :: .long x :: r) g := by
  intro L tys ws H locs rl rst cells slots hw hl hs hc hk
  obtain ⟨r1, rfl, hs1⟩ := mx_vrs_j hs
  obtain ⟨r2, rfl, hs2⟩ := mx_vrs_j hs1
  exact lv_land F.1 F.2.1 hd (k L tys ws H locs rl _ cells slots hw hl ⟨rfl, hs2⟩ hc hk)
theorem mw_lor (F : mx_Cx p s m args meth c M) {x y : Int64}  (hd : decode M.2.2.1 pc = .ok (.lor, 1)) (k : mx_OK p l e R s m args below meth c Q D X A M L0 n0 s0 (pc + 1) ls (.long (x ||| y) :: r) g) : mx_OK p l e R s m args below meth c Q D X A M L0 n0 s0 pc ls (.long y :: .long x :: r) g := by
  intro L tys ws H locs rl rst cells slots hw hl hs hc hk
  obtain ⟨r1, rfl, hs1⟩ := mx_vrs_j hs
  obtain ⟨r2, rfl, hs2⟩ := mx_vrs_j hs1
  exact lv_lor F.1 F.2.1 hd (k L tys ws H locs rl _ cells slots hw hl ⟨rfl, hs2⟩ hc hk)
theorem mw_lcmp (F : mx_Cx p s m args meth c M) {x y : Int64}  (hd : decode M.2.2.1 pc = .ok (.lcmp, 1)) (k : mx_OK p l e R s m args below meth c Q D X A M L0 n0 s0 (pc + 1) ls (.int (lg_cmp x y) :: r) g) : mx_OK p l e R s m args below meth c Q D X A M L0 n0 s0 pc ls (.long y :: .long x :: r) g := by
  intro L tys ws H locs rl rst cells slots hw hl hs hc hk
  obtain ⟨r1, rfl, hs1⟩ := mx_vrs_j hs
  obtain ⟨r2, rfl, hs2⟩ := mx_vrs_j hs1
  exact W.lcmp F.1 F.2.1 hd (k L tys ws H locs rl _ cells slots hw hl ⟨rfl, hs2⟩ hc hk)
theorem mw_lshl (F : mx_Cx p s m args meth c M) {x : Int64} {y : Int32} (hd : decode M.2.2.1 pc = .ok (.lshl, 1)) (k : mx_OK p l e R s m args below meth c Q D X A M L0 n0 s0 (pc + 1) ls (.long (x <<< (y.toInt64 &&& 63)) :: r) g) : mx_OK p l e R s m args below meth c Q D X A M L0 n0 s0 pc ls (.int y :: .long x :: r) g := by
  intro L tys ws H locs rl rst cells slots hw hl hs hc hk
  obtain ⟨r1, rfl, hs1⟩ := mx_vrs_i hs
  obtain ⟨r2, rfl, hs2⟩ := mx_vrs_j hs1
  exact lv_lshl F.1 F.2.1 hd rfl (k L tys ws H locs rl _ cells slots hw hl ⟨rfl, hs2⟩ hc hk)
theorem mw_lshr (F : mx_Cx p s m args meth c M) {x : Int64} {y : Int32} (hd : decode M.2.2.1 pc = .ok (.lshr, 1)) (k : mx_OK p l e R s m args below meth c Q D X A M L0 n0 s0 (pc + 1) ls (.long (x >>> (y.toInt64 &&& 63)) :: r) g) : mx_OK p l e R s m args below meth c Q D X A M L0 n0 s0 pc ls (.int y :: .long x :: r) g := by
  intro L tys ws H locs rl rst cells slots hw hl hs hc hk
  obtain ⟨r1, rfl, hs1⟩ := mx_vrs_i hs
  obtain ⟨r2, rfl, hs2⟩ := mx_vrs_j hs1
  exact lv_lshr F.1 F.2.1 hd rfl (k L tys ws H locs rl _ cells slots hw hl ⟨rfl, hs2⟩ hc hk)
theorem mw_i2l (F : mx_Cx p s m args meth c M) {x : Int32} (hd : decode M.2.2.1 pc = .ok (.i2l, 1)) (k : mx_OK p l e R s m args below meth c Q D X A M L0 n0 s0 (pc + 1) ls (.long x.toInt64 :: r) g) : mx_OK p l e R s m args below meth c Q D X A M L0 n0 s0 pc ls (.int x :: r) g := by
  intro L tys ws H locs rl rst cells slots hw hl hs hc hk
  obtain ⟨r1, rfl, hs1⟩ := mx_vrs_i hs
  exact lv_i2l F.1 F.2.1 hd rfl (k L tys ws H locs rl _ cells slots hw hl ⟨rfl, hs1⟩ hc hk)
theorem mw_l2i (F : mx_Cx p s m args meth c M) {x : Int64} (hd : decode M.2.2.1 pc = .ok (.l2i, 1)) (k : mx_OK p l e R s m args below meth c Q D X A M L0 n0 s0 (pc + 1) ls (.int x.toInt32 :: r) g) : mx_OK p l e R s m args below meth c Q D X A M L0 n0 s0 pc ls (.long x :: r) g := by
  intro L tys ws H locs rl rst cells slots hw hl hs hc hk
  obtain ⟨r1, rfl, hs1⟩ := mx_vrs_j hs
  exact lv_l2i F.1 F.2.1 hd rfl (k L tys ws H locs rl _ cells slots hw hl ⟨rfl, hs1⟩ hc hk)
theorem mw_i2b (F : mx_Cx p s m args meth c M) {x : Int32} (hd : decode M.2.2.1 pc = .ok (.i2b, 1)) (k : mx_OK p l e R s m args below meth c Q D X A M L0 n0 s0 (pc + 1) ls (.int x.toInt8.toInt32 :: r) g) : mx_OK p l e R s m args below meth c Q D X A M L0 n0 s0 pc ls (.int x :: r) g := by
  intro L tys ws H locs rl rst cells slots hw hl hs hc hk
  obtain ⟨r1, rfl, hs1⟩ := mx_vrs_i hs
  exact lv_i2b F.1 F.2.1 hd rfl (k L tys ws H locs rl _ cells slots hw hl ⟨rfl, hs1⟩ hc hk)
theorem mw_i2s (F : mx_Cx p s m args meth c M) {x : Int32} (hd : decode M.2.2.1 pc = .ok (.i2s, 1)) (k : mx_OK p l e R s m args below meth c Q D X A M L0 n0 s0 (pc + 1) ls (.int x.toInt16.toInt32 :: r) g) : mx_OK p l e R s m args below meth c Q D X A M L0 n0 s0 pc ls (.int x :: r) g := by
  intro L tys ws H locs rl rst cells slots hw hl hs hc hk
  obtain ⟨r1, rfl, hs1⟩ := mx_vrs_i hs
  exact lv_i2s F.1 F.2.1 hd rfl (k L tys ws H locs rl _ cells slots hw hl ⟨rfl, hs1⟩ hc hk)
theorem mw_i2c (F : mx_Cx p s m args meth c M) {x : Int32} (hd : decode M.2.2.1 pc = .ok (.i2c, 1)) (k : mx_OK p l e R s m args below meth c Q D X A M L0 n0 s0 (pc + 1) ls (.int (x.toUInt32 % 65536).toInt32 :: r) g) : mx_OK p l e R s m args below meth c Q D X A M L0 n0 s0 pc ls (.int x :: r) g := by
  intro L tys ws H locs rl rst cells slots hw hl hs hc hk
  obtain ⟨r1, rfl, hs1⟩ := mx_vrs_i hs
  exact lv_i2c F.1 F.2.1 hd rfl (k L tys ws H locs rl _ cells slots hw hl ⟨rfl, hs1⟩ hc hk)
theorem mw_dup (F : mx_Cx p s m args meth c M) (hX : ∀ k, X k = .null ∨ ∃ a, X k = .ref a) {v : Value} (hv : v.category = 1) (hd : decode M.2.2.1 pc = .ok (.dup, 1)) (k : mx_OK p l e R s m args below meth c Q D X A M L0 n0 s0 (pc + 1) ls (v :: v :: r) g) : mx_OK p l e R s m args below meth c Q D X A M L0 n0 s0 pc ls (v :: r) g := by
  intro L tys ws H locs rl rst cells slots hw hl hs hc hk
  obtain ⟨w, r1, rfl, h1, hs1⟩ := mx_vrs_cons hs
  exact lv_dup F.1 F.2.1 hd ((mx_vr_cat hX h1).trans hv) (k L tys ws H locs rl _ cells slots hw hl ⟨h1, h1, hs1⟩ hc hk)
theorem mw_pop (F : mx_Cx p s m args meth c M) (hX : ∀ k, X k = .null ∨ ∃ a, X k = .ref a) {v : Value} (hv : v.category = 1) (hd : decode M.2.2.1 pc = .ok (.pop, 1)) (k : mx_OK p l e R s m args below meth c Q D X A M L0 n0 s0 (pc + 1) ls r g) : mx_OK p l e R s m args below meth c Q D X A M L0 n0 s0 pc ls (v :: r) g := by
  intro L tys ws H locs rl rst cells slots hw hl hs hc hk
  obtain ⟨w, r1, rfl, h1, hs1⟩ := mx_vrs_cons hs
  exact lv_pop F.1 F.2.1 hd ((mx_vr_cat hX h1).trans hv) (k L tys ws H locs rl _ cells slots hw hl hs1 hc hk)
theorem mw_dup2 (F : mx_Cx p s m args meth c M) (hX : ∀ k, X k = .null ∨ ∃ a, X k = .ref a) {u v : Value} (hu : u.category = 1) (hv : v.category = 1) (hd : decode M.2.2.1 pc = .ok (.dup2, 1)) (k : mx_OK p l e R s m args below meth c Q D X A M L0 n0 s0 (pc + 1) ls (u :: v :: u :: v :: r) g) : mx_OK p l e R s m args below meth c Q D X A M L0 n0 s0 pc ls (u :: v :: r) g := by
  intro L tys ws H locs rl rst cells slots hw hl hs hc hk
  obtain ⟨w, r1, rfl, h1, hs1⟩ := mx_vrs_cons hs
  obtain ⟨w2, r2, rfl, h2, hs2⟩ := mx_vrs_cons hs1
  exact lv_dup2_11 F.1 F.2.1 hd ((mx_vr_cat hX h1).trans hu) ((mx_vr_cat hX h2).trans hv) (k L tys ws H locs rl _ cells slots hw hl ⟨h1, h2, h1, h2, hs2⟩ hc hk)
theorem mw_goto (F : mx_Cx p s m args meth c M) {off : Int} {tgt : Nat} (ht : (pc : Int) + off = (tgt : Int)) (hd : decode M.2.2.1 pc = .ok (.goto off, 3)) (k : mx_OK p l e R s m args below meth c Q D X A M L0 n0 s0 tgt ls st g) : mx_OK p l e R s m args below meth c Q D X A M L0 n0 s0 pc ls st g := by
  intro L tys ws H locs rl rst cells slots hw hl hs hc hk
  exact lv_goto F.1 F.2.1 hd ht (k L tys ws H locs rl _ cells slots hw hl hs hc hk)
theorem mw_if (F : mx_Cx p s m args meth c M) {cd : Jvm.ClassFile.Cond} {x : Int32} {off : Int} {tgt : Nat} (ht : (pc : Int) + off = (tgt : Int)) (hd : decode M.2.2.1 pc = .ok (.ifCond cd off, 3)) (kt : mx_cd cd x 0 = true → mx_OK p l e R s m args below meth c Q D X A M L0 n0 s0 tgt ls r g) (kf : mx_cd cd x 0 = false → mx_OK p l e R s m args below meth c Q D X A M L0 n0 s0 (pc + 3) ls r g) : mx_OK p l e R s m args below meth c Q D X A M L0 n0 s0 pc ls (.int x :: r) g := by
  intro L tys ws H locs rl rst cells slots hw hl hs hc hk
  obtain ⟨r1, rfl, hs1⟩ := mx_vrs_i hs
  have kt := fun h => kt h L tys ws H locs rl r1 cells slots hw hl hs1 hc hk
  have kf := fun h => kf h L tys ws H locs rl r1 cells slots hw hl hs1 hc hk
  cases cd
  · exact lv_if_eq F.1 F.2.1 hd ht (fun h => kt (by simp [mx_cd, h])) (fun h => kf (by simp [mx_cd, h]))
  · exact lv_if_ne F.1 F.2.1 hd ht (fun h => kt (by simp [mx_cd, h])) (fun h => kf (by simp [mx_cd, h]))
  · exact lv_if_lt F.1 F.2.1 hd ht (fun h => kt (decide_eq_true h)) (fun h => kf (decide_eq_false h))
  · exact lv_if_ge F.1 F.2.1 hd ht (fun h => kt (decide_eq_true h)) (fun h => kf (decide_eq_false h))
  · exact lv_if_gt F.1 F.2.1 hd ht (fun h => kt (decide_eq_true h)) (fun h => kf (decide_eq_false h))
  · exact lv_if_le F.1 F.2.1 hd ht (fun h => kt (decide_eq_true h)) (fun h => kf (decide_eq_false h))
theorem mw_icmp (F : mx_Cx p s m args meth c M) {cd : Jvm.ClassFile.Cond} {x y : Int32} {off : Int} {tgt : Nat} (ht : (pc : Int) + off = (tgt : Int)) (hd : decode M.2.2.1 pc = .ok (.if_icmp cd off, 3)) (kt : mx_cd cd x y = true → mx_OK p l e R s m args below meth c Q D X A M L0 n0 s0 tgt ls r g) (kf : mx_cd cd x y = false → mx_OK p l e R s m args below meth c Q D X A M L0 n0 s0 (pc + 3) ls r g) : mx_OK p l e R s m args below meth c Q D X A M L0 n0 s0 pc ls (.int y :: .int x :: r) g := by
  intro L tys ws H locs rl rst cells slots hw hl hs hc hk
  obtain ⟨r1, rfl, hs1⟩ := mx_vrs_i hs
  obtain ⟨r2, rfl, hs2⟩ := mx_vrs_i hs1
  have kt := fun h => kt h L tys ws H locs rl r2 cells slots hw hl hs2 hc hk
  have kf := fun h => kf h L tys ws H locs rl r2 cells slots hw hl hs2 hc hk
  cases cd
  · exact lv_icmp_eq F.1 F.2.1 hd ht (fun h => kt (by simp [mx_cd, h])) (fun h => kf (by simp [mx_cd, h]))
  · exact lv_icmp_ne F.1 F.2.1 hd ht (fun h => kt (by simp [mx_cd, h])) (fun h => kf (by simp [mx_cd, h]))
  · exact lv_icmp_lt F.1 F.2.1 hd ht (fun h => kt (decide_eq_true h)) (fun h => kf (decide_eq_false h))
  · exact lv_icmp_ge F.1 F.2.1 hd ht (fun h => kt (decide_eq_true h)) (fun h => kf (decide_eq_false h))
  · exact lv_icmp_gt F.1 F.2.1 hd ht (fun h => kt (decide_eq_true h)) (fun h => kf (decide_eq_false h))
  · exact lv_icmp_le F.1 F.2.1 hd ht (fun h => kt (decide_eq_true h)) (fun h => kf (decide_eq_false h))
theorem mw_tableO (F : mx_Cx p s m args meth c M) {dflt lo hi : Int} {offs : Array Int} {n : Nat} {x : Int32} {tgt : Nat} (hx : x.toInt < lo ∨ hi < x.toInt) (ht : (pc : Int) + dflt = (tgt : Int)) (hd : decode M.2.2.1 pc = .ok (.tableswitch dflt lo hi offs, n)) (k : mx_OK p l e R s m args below meth c Q D X A M L0 n0 s0 tgt ls r g) : mx_OK p l e R s m args below meth c Q D X A M L0 n0 s0 pc ls (.int x :: r) g := by
  intro L tys ws H locs rl rst cells slots hw hl hs hc hk
  obtain ⟨r1, rfl, hs1⟩ := mx_vrs_i hs
  exact lv_tableOut F.1 F.2.1 hd hx ht (k L tys ws H locs rl _ cells slots hw hl hs1 hc hk)
theorem mw_tableI (F : mx_Cx p s m args meth c M) {dflt lo hi : Int} {offs : Array Int} {n : Nat} {x : Int32} {off : Int} {tgt : Nat} (hx : ¬ (x.toInt < lo ∨ hi < x.toInt)) (ho : offs[(x.toInt - lo).toNat]? = some off) (ht : (pc : Int) + off = (tgt : Int)) (hd : decode M.2.2.1 pc = .ok (.tableswitch dflt lo hi offs, n)) (k : mx_OK p l e R s m args below meth c Q D X A M L0 n0 s0 tgt ls r g) : mx_OK p l e R s m args below meth c Q D X A M L0 n0 s0 pc ls (.int x :: r) g := by
  intro L tys ws H locs rl rst cells slots hw hl hs hc hk
  obtain ⟨r1, rfl, hs1⟩ := mx_vrs_i hs
  exact lv_tableIn F.1 F.2.1 hd (fun h => hx (Or.inl h)) (fun h => hx (Or.inr h)) ho ht (k L tys ws H locs rl _ cells slots hw hl hs1 hc hk)
end OneOp
