/-! CALLS, AND THE WHOLE RUN: what the mini machine computes, the real one comes to -/
theorem mx_vr_apps {X : Nat → Value} {v w : Value} : ∀ (L1 : List Nat) {L : List Nat}, mx_vr X L v w → mx_vr X (L ++ L1) v w
  | [], L, h => by rw [List.append_nil]; exact h
  | a :: L1, L, h => by
    rw [show L ++ a :: L1 = (L ++ [a]) ++ L1 by simp]
    exact mx_vr_apps L1 (mx_vr_app a h)
theorem mx_vrs_apps {X : Nat → Value} {vs ws : List Value} : ∀ (L1 : List Nat) {L : List Nat}, mx_vrs X L vs ws → mx_vrs X (L ++ L1) vs ws
  | [], L, h => by rw [List.append_nil]; exact h
  | a :: L1, L, h => by
    rw [show L ++ a :: L1 = (L ++ [a]) ++ L1 by simp]
    exact mx_vrs_apps L1 (mx_vrs_app a h)
theorem mx_lr_apps {X : Nat → Value} {ls : mx_L} {rl : Array Slot} {nL : Nat} : ∀ (L1 : List Nat) {L : List Nat}, mx_lr X L ls rl nL → mx_lr X (L ++ L1) ls rl nL
  | [], L, h => by rw [List.append_nil]; exact h
  | a :: L1, L, h => by
    rw [show L ++ a :: L1 = (L ++ [a]) ++ L1 by simp]
    exact mx_lr_apps L1 (mx_lr_app a h)
def mx_wl (M : mx_M) : List Cond := Cond.code M.2.1 M.2.2.1 M.2.2.2.1 M.2.2.2.2 :: mx_tbl
def mx_rm (d mc ms : Nat) : Room := { frames := d + 1, cells := mc, slots := ms, locals := 34 * (d + 1) }
/-- an answer -/
def mx_ov (X : Nat → Value) (L : List Nat) (v w : Option Value) : Prop := match v, w with
  | none, none => True
  | some v, some w => mx_vr X L v w
  | _, _ => False
def mx_Qc (D : va_G) (X : Nat → Value) (L0 : List Nat) (r : mx_R) (A : Nat → Prop) : Array Value → State → Outcome → State → Prop := fun _ st oc t => (∃ (rv : Option Value) (L : List Nat) (tys : List (ClassId × FieldType)) (ws : va_W), oc = .returned rv ∧ mx_ov X L r.1 rv ∧ va_K D vwCl tys t ∧ va_P D vwCl ws t.heap ∧ va_D A ws ∧ mx_rel L0 X L tys r.2 ws) ∧ va_F A st t
def mx_Pc (sc : mx_X) (D : va_G) (X : Nat → Value) (tys : List (ClassId × FieldType)) (ws : va_W) (ras : List Value) (sz : Nat) : Array Value → State → Prop := va_Pc ras (fun U => U.heap.size = sz ∧ va_P D vwCl ws U.heap ∧ va_K D vwCl tys U ∧ va_D (fun _ => True) ws ∧ mx_E sc X (va_A ws sz) U U.heap)
/-- the method's contract at these arguments and cells -/
def mx_Me (l : Launch) (sc : mx_X) (D : va_G) (X : Nat → Value) (d : Nat) (M : mx_M) (as : List Value) (g : mx_G) (r : mx_R) : Prop := ∀ (L : List Nat) (tys : List (ClassId × FieldType)) (ws : va_W) (ras : List Value) (sz : Nat), mx_rel L X L tys g ws → mx_vrs X L as ras → Met l M.2.1 (mx_wl M) (mx_rm d (r.2.2.1 - g.2.1) (r.2.2.2 - g.2.2)) (mx_Pc sc D X tys ws ras sz) (mx_Qc D X L r (va_A ws sz)) (r.2.2.1 - g.2.1) (r.2.2.2 - g.2.2) (va_A ws sz)
theorem mx_Pc_blind {sc : mx_X} {D : va_G} {X : Nat → Value} {tys : List (ClassId × FieldType)} {ws : va_W} {ras : List Value} {sz : Nat} : FrameBlind (mx_Pc sc D X tys ws ras sz) := by
  intro a U g mk q
  obtain ⟨q0, q1, qP, qK, qD, qE⟩ := q
  exact ⟨q0, q1, qP, va_K.moved (u := U) (U := U.calling g mk a) (Vm.Alike.refl U.vm) qK, qD, mx_E.same (s := U) (U := U.calling g mk a) rfl qE⟩
section Calls
variable {p : Program} {l : Launch} {e : Env} {R : Room} {s : State} {m : MethodId} {args : Array Value} {below : List Frame} {meth : Method} {c : Code} {Q : State → Prop} {D : va_G} {X : Nat → Value} {A : Nat → Prop} {M : mx_M} {L0 : List Nat} {n0 s0 : Nat} {sc : mx_X}
/-- behind a call -/
theorem mx_after {pc : Nat} {rl : Array Slot} {rest st0 : List Value} {H : Heap} {locs : List Loc} {cells slots mc ms : Nat} {a : Array Value} {A1 : Nat → Prop} {H0 : Heap} {free : Addr → Prop} {L : List Nat} {r : mx_R} (hr : va_Run p l e R s m args below meth c H locs cells slots mc ms (F0 m pc rl st0) rest (mx_Qc D X L r A1 a) free) (hS : va_S A H0 H locs) (hA : ∀ q, q < H.size → A1 q → A q) (hf : ∀ q, free q → A q)
    (kk : ∀ (rv : Option Value) (L' : List Nat) (tys' : List (ClassId × FieldType)) (ws' : va_W) (H1 : Heap) (locs1 : List Loc), mx_ov X L' r.1 rv → va_K D vwCl tys' s → va_P D vwCl ws' H1 → va_D A1 ws' → mx_rel L X L' tys' r.2 ws' → va_S A H0 H1 locs1 → W p l e R s m args below meth c H1 locs1 (cells + mc) (slots + ms) Q (F0 m (pc + 3) rl (rv.toList ++ rest))) : W p l e R s m args below meth c H locs cells slots Q (F0 m pc rl st0) := by
  intro T hT Y
  obtain ⟨v, st₀, t, T', L9, h0, X', hL, e1, e2, ⟨⟨rv, L', tys', ws', hv, hov, hK', hP', hD', hR'⟩, hz, hk⟩, st⟩ := hr T hT Y
  cases hv
  rw [h0] at hz hk
  obtain ⟨t2, a1, b1⟩ := kk v L' tys' ws' T'.heap (locs ++ L9) hov (va_K.moved (by rw [← e2]; exact X'.warmed.alike.symm) hK') (by rw [e1]; exact hP') hD' hR'
    ⟨Nat.le_trans hS.1 (by rw [e1]; exact hz), fun q h1 h2 => by rw [e1, hk q (Nat.lt_of_lt_of_le h1 hS.1) (fun z => h2 (hA q (Nat.lt_of_lt_of_le h1 hS.1) z))]; exact hS.2.1 q h1 h2, fun q hq => by
      rcases List.mem_append.mp hq with h | h
      · exact hS.2.2 q h
      · exact hf _ (hL q h)⟩ T' rfl X'
  exact ⟨t2, st t2 a1, b1⟩
theorem mx_gi {ws : List Cond} (h : ∀ w ∈ ws, w ∈ mx_tbl) : GoodIn mx_tbl ws := fun w hw => ⟨h w hw, mx_tbl_good (h w hw)⟩
theorem mx_wl_in {M' : mx_M} (h : mx_good M') : ∀ w ∈ mx_wl M', w ∈ mx_tbl := List.forall_mem_cons.mpr ⟨h.2.2.1, fun _ h => h⟩
/-- super.m(..) where the superclass inherits m -/
theorem mx_callSU {T : State} {locs : List Loc} {cells slots : Nat} (Y : Stand p l e R s m args below meth c T locs cells slots) (hexec : p.tables.exec = Jvm.exec) {own up : String} {index : Nat} {y : MethodName} {bytes : ByteArray} {maxL : Nat} {ret : Option FieldType}
    (hown : s.vm.findClass own = some m.cls) (hlink : (Cond.methodLink own index ⟨up, y.name, y.desc⟩).before args s = true) (hsame : (Cond.sameMethod up y.cls y.name y.desc).before args s = true) (hsup : (Cond.superclass own up).before args s = true) (hsup2 : (Cond.superclass up y.cls).before args s = true)
    (hinst : (Cond.instanceMethod y).before args s = true) (hcode : (Cond.code y bytes maxL ret).before args s = true) (hno : y.name ≠ "<init>")
    {W : Nat} {Pre : Pt → Array Value → Prop} {Post : Pt → Array Value → Option Value → Pt → Prop} (hK : Back l R p e below s args y 3 W Pre Post)
    {b : Addr} {cellB : Cell} {kB : Class} (hcell : T.heap[b]? = some cellB) (hobj : cellB.vm.isStatics = false) (hkB : s.vm.classes[cellB.cls]? = some kB)
    {g : JFrame} (hg : g.method = m) (hsize : g.locals.size = c.maxLocals) {argsL rest : List Value} (hlen : ∀ sig, parseMethodDescriptor y.desc = some sig → argsL.length = sig.parameters.length)
    (hstack : g.stack = argsL.reverse ++ .ref b :: rest) (hW : 2 * g.monitorRoom + (rest.map fun v => v.category).sum ≤ W) (hdg : decode c.code g.pc = .ok (.invokespecial index, 3))
    (hpre : ∀ vm₁, s.WarmedH vm₁ → Pre ⟨T.setVm vm₁, locs, cells, slots⟩ (Value.ref b :: argsL).toArray) :
    ∃ (v : Option Value) (vm₁ : Vm) (B : Pt), s.WarmedH vm₁ ∧ Stand p l e R s m args below meth c B.U B.locs B.cells B.slots ∧ Post ⟨T.setVm vm₁, locs, cells, slots⟩ (Value.ref b :: argsL).toArray v B ∧
      ∀ target, Steps p.tables e below (B.U.setTop { g with pc := g.pc + 3, stack := v.toList ++ rest }) target → Steps p.tables e below (T.setTop g) target := by
  obtain ⟨mk, methM, hnamed, hmethM, hstM, habM⟩ := Cond.instanceMethod_spec hinst
  obtain ⟨methM', cM, hmethM', -, -, -, -, -, -, hsigM⟩ := Cond.code_spec hnamed hcode
  cases hmethM.symm.trans hmethM'
  obtain ⟨ps, dk, kp, hps, hdk, hkp, hsuper, -, -, hnid⟩ := Cond.superclass_spec hown hsup
  obtain ⟨ps2, dk2, kp2, hps2, hdk2, hkp2, hsuper2, -, -, -⟩ := Cond.superclass_spec hps hsup2
  have hn : s.methodNamed? ⟨y.cls, y.name, y.desc⟩ = some mk := hnamed
  have hpm : ps2 = mk.cls := Option.some.inj (hps2.symm.trans (findClass_of_methodNamed hnamed))
  have hsub : s.vm.isSubclass ps mk.cls = true := by
    rw [← hpm]
    have hpos : ∃ n, s.vm.classes.size = n + 1 := by
      have h9 := (Array.getElem?_eq_some_iff.mp hkp2).1
      exact ⟨s.vm.classes.size - 1, by omega⟩
    obtain ⟨n9, h9⟩ := hpos
    simp [Vm.isSubclass, Vm.isSubclassAux, hdk2, hsuper2, h9]
  obtain ⟨vm₁, X₁, hstep₁⟩ := Y.invokespecialUp hexec hown hlink hsame hn hmethM hstM habM hno hdk hnid hps hsuper hsub (a := b) (cell := cellB) hcell
    (fun z h => by rw [h] at hobj; cases hobj) hkB (g := g) hg (argsL := argsL) (rest := rest) (hlen _ hsigM) hstack hdg
  obtain ⟨v, B, X', hpost, hsteps⟩ := hK m meth c ⟨T.setVm vm₁, locs, cells, slots⟩ { g with stack := rest } (.invokespecial index) mk (Value.ref b :: argsL).toArray X₁ hg hsize hdg hW (X₁.named hnamed) (hpre vm₁ X₁.warmed)
  exact ⟨v, vm₁, B, X₁.warmed, X', hpost, fun target h => hstep₁ _ (by rw [doInvoke_state]; exact hsteps.trans h)⟩
end Calls
