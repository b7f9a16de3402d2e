/-! A CALL OF THE MINI MACHINE IS A CALL OF THE REAL ONE -/
theorem mx_inv_inv {n : Nat} {M M' : mx_M} {st as rest : List Value} (h : mx_inv n M st = some (M', as, rest)) : M' = M ∧ as = (st.take n).reverse ∧ rest = st.drop n ∧ n ≤ st.length ∧ (st.drop n).length ≤ 4 := by
  obtain ⟨h1, h2⟩ := mx_if_inv h
  cases h2
  exact ⟨rfl, rfl, rfl, h1.1, h1.2⟩
theorem mx_split {l : List Value} {n : Nat} {v : Value} (h : l[n]? = some v) : l = l.take n ++ v :: l.drop (n + 1) ∧ (l.take (n + 1)).reverse = v :: (l.take n).reverse := by
  obtain ⟨hlt, hv⟩ := List.getElem?_eq_some_iff.mp h
  constructor
  · rw [← hv, ← List.drop_eq_getElem_cons hlt, List.take_append_drop]
  · rw [List.take_succ, h]
    simp
theorem mx_vr_world {X : Nat → Value} {L : List Nat} {a b : Nat} {w : Value} (h : mx_vr X L (.ref a) w) (hb : L[a]? = some b) (hl : L.length ≤ 900) : w = .ref b := by
  have hlt := (List.getElem?_eq_some_iff.mp hb).1
  rcases h with ⟨h3, b', h4, h5⟩ | ⟨h3, -⟩
  · cases hb.symm.trans h4
    exact h5
  · have h6 : 1000 ≤ a := h3
    omega
theorem mx_str (x : Nat) (h1 : 1000 ≤ x) (h2 : x < 1011) : ∃ i : Nat, i < 11 ∧ x = 1000 + i := ⟨x - 1000, by omega, by omega⟩
theorem mx_str9 (i : Nat) : ¬ 1000 + i < 900 := by omega
section Runs
variable {p : Program} {l : Launch} {e : Env} {R : Room} {s : State} {m : MethodId} {args : Array Value} {below : List Frame} {meth : Method} {c : Code} {Q : State → Prop} {D : va_G} {X : Nat → Value} {A : Nat → Prop} {M : mx_M} {L0 : List Nat} {n0 s0 : Nat} {sc : mx_X}
set_option maxHeartbeats 2000000 in
theorem mx_runs (F : mx_Cx p s m args meth c M) (E : mx_E sc X A s s.heap) (hA : ∀ q, s.heap.size ≤ q → A q) {pc : Nat} {ls : mx_L} {st : List Value} {g : mx_G} {L : List Nat} {tys : List (ClassId × FieldType)} {ws : va_W} {H : Heap} {locs : List Loc} {rl : Array Slot} {rst : List Value} {cells slots : Nat} (hw : mx_Wd D X A s L0 g L tys ws H locs) (hl : mx_lr X L ls rl M.2.2.2.1) (hs : mx_vrs X L st rst) {i : Instr} {n : Nat} (hd : decode M.2.2.1 pc = .ok (i, n)) (hn : mx_ln i n = true) {M' : mx_M} {as rest : List Value} (h : mx_cl M i st g = some (M', as, rest)) {d : Nat} (hR1 : d + 2 ≤ R.frames) (hR2 : 34 * (d + 2) ≤ R.locals) {r : mx_R} (hme : mx_Me l sc D X d M' as g r) (hc : cells + (r.2.2.1 - g.2.1) ≤ R.cells ∧ slots + (r.2.2.2 - g.2.2) ≤ R.slots) :
    ∃ (a : Array Value) (rrest : List Value), mx_vrs X L rest rrest ∧ va_Run p l e R s m args below meth c H locs cells slots (r.2.2.1 - g.2.1) (r.2.2.2 - g.2.2) (F0 m pc rl rst) rrest (mx_Qc D X L r (va_A ws H.size) a) (va_A ws H.size) := by
  obtain ⟨hK, hP, hD, hS, hR⟩ := hw
  have hRL : mx_rel L X L tys g ws := ⟨hR.1, hR.2.1, hR.2.2.1, ⟨[], by simp⟩, hR.2.2.2.2⟩
  have hFc : ∀ q, va_A ws H.size q → A q := by
    rintro q (⟨k, e9, hk⟩ | hq)
    · exact hD.2 k _ hk
    · exact hA q (Nat.le_trans hS.1 hq)
  have hE' : mx_E sc X (va_A ws H.size) s H := (E.kept hS.2.1).narrow hFc
  have hpre : ∀ (ras : List Value) (U : State), U.heap = H → s.WarmedH U.vm → mx_Pc sc D X tys ws ras H.size ras.toArray U := fun ras U hU hW => ⟨rfl, by rw [hU], by rw [hU]; exact hP, va_K.moved hW.alike hK, hD.weaken (fun _ _ _ _ => trivial), by rw [hU]; exact mx_E.warm hW hE'⟩
  have hlen := mx_vrs_len hs
  have S : CallFix p m c M.2.2.1 M.2.2.2.1 s args mx_tbl (mx_cn M.1) := ⟨F.1, F.2.1, F.2.2.1, F.2.2.2.1, F.2.2.2.2.1⟩
  have hroom : ∀ n, (st.drop n).length ≤ 4 → ((rst.drop n).map fun v => v.category).sum ≤ 8 := fun n h4 => by
    have := mx_sum8 E.1 (mx_vrs_drop n hs)
    omega
  cases i
  case invokestatic k =>
    obtain rfl : n = 3 := by simpa [mx_ln] using hn
    simp only [mx_cl] at h
    cases hcall : mx_call M.1 k 100 with
    | none => rw [hcall] at h; cases h
    | some q =>
      obtain ⟨kind, na, M1⟩ := q
      rw [hcall] at h
      dsimp only at h
      obtain ⟨hkind, h⟩ := mx_if_inv h
      obtain ⟨rfl, rfl, rfl, h3, h4⟩ := mx_inv_inv h
      obtain ⟨hgood, hpar, hini, hmh, hk⟩ := mx_call_ok hcall
      have hmet := hme L tys ws (rst.take na).reverse H.size hRL (mx_vrs_rev (mx_vrs_take na hs))
      have hRR : (mx_rm d (r.2.2.1 - g.2.1) (r.2.2.2 - g.2.2)).frames + 1 ≤ R.frames ∧ 8 + (M'.2.2.2.1 + 11) + (mx_rm d (r.2.2.1 - g.2.1) (r.2.2.2 - g.2.2)).locals ≤ R.locals := by
        have := hgood.2.2.2
        exact ⟨by show d + 1 + 1 ≤ _; omega, by show 8 + (M'.2.2.2.1 + 11) + 34 * (d + 1) ≤ _; omega⟩
      have hst : (F0 m pc rl rst).stack = ((rst.take na).reverse).reverse ++ rst.drop na := by
        show rst = _
        rw [List.reverse_reverse, List.take_append_drop]
      have hal : ((rst.take na).reverse).length = na := by simp; omega
      refine ⟨((rst.take na).reverse).toArray, rst.drop na, mx_vrs_drop na hs, ?_⟩
      match kind, hkind, hk with
      | 0, _, hk =>
        exact va_runS S hmet ⟨callB_of na F.2.2.2.2.1 (mx_gi (mx_wl_in hgood)) rfl rfl rfl (F.2.2.2.2.1 _ hini) (F.2.2.2.2.1 _ hk.2.1) ⟨hmh.1, hmh.2, hpar⟩ hRR, F.2.2.2.2.1 _ hk.2.2⟩ ⟨mx_Pc_blind, hpre _⟩ rfl hal hl.1 hst (lv_room (hroom na h4)) hd hc
      | 1, _, hk =>
        exact va_runSN S hmet ⟨va_cnB na F.2.2.2.2.1 (mx_gi (mx_wl_in hgood)) rfl rfl rfl (E.2.2.2.2.2.2 _ hk.2.1) (F.2.2.2.2.1 _ hini) ⟨hmh.1, hmh.2, hpar⟩ hRR, F.2.2.2.2.1 _ hk.2.2, trivial⟩ ⟨mx_Pc_blind, hpre _⟩ rfl hal hl.1 hst (lv_room (hroom na h4)) hd hc
  case invokespecial k =>
    obtain rfl : n = 3 := by simpa [mx_ln] using hn
    simp only [mx_cl] at h
    cases hcall : mx_call M.1 k 100 with
    | none => rw [hcall] at h; cases h
    | some q =>
      obtain ⟨kind, na, M1⟩ := q
      rw [hcall] at h
      dsimp only at h
      obtain ⟨hkind, h⟩ := mx_if_inv h
      cases hv : st[na]? with
      | none => rw [hv] at h; cases h
      | some v =>
      rw [hv] at h
      cases v with
      | ref a =>
        obtain ⟨ci, fs, ha, h⟩ := mx_ob_inv h
        obtain ⟨rfl, rfl, rfl, h3, h4⟩ := mx_inv_inv h
        obtain ⟨hgood, hpar, hini, hmh, hk⟩ := mx_call_ok hcall
        obtain ⟨b, e9, y1, y2, y3⟩ := mx_rel_at hR ha
        obtain ⟨fs', rfl, y4⟩ := mx_cr_obj y3
        obtain ⟨w, hw1, hw2⟩ := mx_vrs_get hs hv
        obtain rfl := mx_vr_world hw2 y2 hR.2.2.1
        obtain ⟨sp1, sp2⟩ := mx_split hw1
        obtain ⟨q9, hq9, -⟩ := hP a _ y1
        have hci : ci < 12 := mx_cls_lt hq9
        obtain ⟨c1, -⟩ := mx_CC_ok ci hci
        have hrecv := va_recv hK hP c1 y1
        have hat : ClassAt s (mx_cn ci) (D.1 ci) := (hK.1 ci _ c1).2
        have hvs := mx_vrs_rev (mx_vrs_take (na + 1) hs)
        rw [sp2] at hvs
        have hmet := hme L tys ws (.ref b :: (rst.take na).reverse) H.size hRL hvs
        have hRR : (mx_rm d (r.2.2.1 - g.2.1) (r.2.2.2 - g.2.2)).frames + 1 ≤ R.frames ∧ 8 + (M'.2.2.2.1 + 11) + (mx_rm d (r.2.2.1 - g.2.1) (r.2.2.2 - g.2.2)).locals ≤ R.locals := by
          have := hgood.2.2.2
          exact ⟨by show d + 1 + 1 ≤ _; omega, by show 8 + (M'.2.2.2.1 + 11) + 34 * (d + 1) ≤ _; omega⟩
        have hst : (F0 m pc rl rst).stack = ((rst.take na).reverse).reverse ++ .ref b :: rst.drop (na + 1) := by
          show rst = _
          rw [List.reverse_reverse]
          exact sp1
        have hal : ((rst.take na).reverse).length = na := by simp; omega
        refine ⟨(Value.ref b :: (rst.take na).reverse).toArray, rst.drop (na + 1), mx_vrs_drop (na + 1) hs, ?_⟩
        match kind, hkind, hk with
        | 4, _, hk =>
          have hret : M'.2.2.2.2 = none := hk.2.2.2.2
          have hwl : mx_wl M' = Cond.code M'.2.1 M'.2.2.1 M'.2.2.2.1 none :: mx_tbl := by unfold mx_wl; rw [hret]
          exact va_runI S hmet ⟨callB_of na F.2.2.2.2.1 (mx_gi (mx_wl_in hgood)) hwl rfl rfl (F.2.2.2.2.1 _ hini) (F.2.2.2.2.1 _ hk.2.1) ⟨hmh.1, hmh.2, hpar⟩ hRR, hk.2.2.2.1, F.2.2.2.2.1 _ hk.2.2.1⟩ ⟨mx_Pc_blind, hpre _⟩ rfl hal hl.1 hst (lv_room (hroom (na + 1) h4)) hd hc
        | 5, _, hk =>
          have hret : M'.2.2.2.2 = none := hk.2.2.2.2
          have hwl : mx_wl M' = Cond.code M'.2.1 M'.2.2.1 M'.2.2.2.1 none :: mx_tbl := by unfold mx_wl; rw [hret]
          exact va_runIN S hmet ⟨va_cnB na F.2.2.2.2.1 (mx_gi (mx_wl_in hgood)) hwl rfl rfl (E.2.2.2.2.2.2 _ hk.2.1) (F.2.2.2.2.1 _ hini) ⟨hmh.1, hmh.2, hpar⟩ hRR, hk.2.2.2.1, F.2.2.2.2.1 _ hk.2.2.1⟩ ⟨mx_Pc_blind, hpre _⟩ rfl hal hl.1 hst (lv_room (hroom (na + 1) h4)) hd hc
        | 7, _, hk =>
          refine va_runSU hat S hmet (va_cwSU na F.2.2.2.2.1 (mx_gi ?_) rfl rfl rfl ⟨hk.2.2.2.1, hpar⟩ hRR) ⟨mx_Pc_blind, hrecv, hpre _⟩ rfl hal hl.1 hst (lv_room (hroom (na + 1) h4)) hd hc
          unfold va_wsSU
          exact List.forall_mem_append.mpr ⟨List.forall_mem_cons.mpr ⟨hk.2.1, List.forall_mem_cons.mpr ⟨hk.2.2.2.2.1, List.forall_mem_cons.mpr ⟨hk.2.2.2.2.2, List.forall_mem_cons.mpr ⟨hk.2.2.1, List.forall_mem_cons.mpr ⟨hini, fun _ h => absurd h List.not_mem_nil⟩⟩⟩⟩⟩, mx_wl_in hgood⟩
        | 9, _, hk =>
          obtain ⟨-, k1, k2, k3, k4, k5, k6, k7⟩ := hk
          have hKb : Back l R p e below s args M'.2.1 3 8 (PreOf R (r.2.2.1 - g.2.1) (r.2.2.2 - g.2.2) (mx_Pc sc D X tys ws (.ref b :: (rst.take na).reverse) H.size)) (PostOf (mx_Qc D X L r (va_A ws H.size)) (r.2.2.1 - g.2.1) (r.2.2.2 - g.2.2) (va_A ws H.size)) := back_of (bytes := M'.2.2.1) (maxL := M'.2.2.2.1) (ret := M'.2.2.2.2) hmet mx_Pc_blind rfl rfl hRR.1 hRR.2 (pay_in F.2.2.2.2.1 (mx_gi (mx_wl_in hgood))) List.mem_cons_self (fun a' U hW => word_at hW (mx_tbl_good hini) (F.2.2.2.2.1 _ hini))
          intro T hT Y
          obtain ⟨cellB, hcB, hoB, hclB⟩ := hrecv
          obtain ⟨hfc, kB, hkB, -⟩ := hat
          have hcc : cellB.cls = D.1 ci := Option.some.inj (hclB.symm.trans hfc)
          rw [← hcc] at hkB
          rw [← k4] at k5 k7
          obtain ⟨v, vm₁, ⟨U', l2, c2, s2⟩, hW₁, X', ⟨g', mk, t, L9, e1, e2, hq, h1, hL, h2, h3⟩, st9⟩ := mx_callSU Y F.1 (up := RX4) (bytes := M'.2.2.1) (maxL := M'.2.2.2.1) (ret := M'.2.2.2.2) F.2.2.2.1 (F.2.2.2.2.1 _ k1) (F.2.2.2.2.1 _ k5) (F.2.2.2.2.1 _ k6) (F.2.2.2.2.1 _ k7) (F.2.2.2.2.1 _ k2) (F.2.2.2.2.1 _ hgood.2.2.1) k3 hKb (by rw [hT]; exact hcB) hoB hkB (g := F0 m pc rl rst) rfl (by show rl.size = _; rw [F.2.2.1]; exact hl.1) (argsL := (rst.take na).reverse) (rest := rst.drop (na + 1)) (fun sig h9 => by rw [h9] at hpar; rw [hal]; exact (Option.some.inj hpar).symm) hst (lv_room (hroom (na + 1) h4)) (by rw [F.2.1]; exact hd)
            (fun vm₁ hW₁ => ⟨hc.1, hc.2, hpre _ (T.setVm vm₁) hT hW₁⟩)
          dsimp only [Pt.U, Pt.locs, Pt.cells, Pt.slots] at X' e1 e2 h1 h2 h3 st9
          subst h1; subst h2; subst h3
          exact ⟨v, (T.setVm vm₁).calling g' mk (Value.ref b :: (rst.take na).reverse).toArray, t, U', L9, hT, X', hL, e1, e2, hq, st9⟩
      | _ => cases h
  case invokevirtual k =>
    obtain rfl : n = 3 := by simpa [mx_ln] using hn
    simp only [mx_cl] at h
    cases hv : st[mx_na M.1 k]? with
    | none => rw [hv] at h; cases h
    | some v =>
    rw [hv] at h
    cases v with
    | ref a =>
      dsimp only at h
      cases hrc : mx_rc g a with
      | none => rw [hrc] at h; cases h
      | some rc =>
      rw [hrc] at h
      dsimp only at h
      cases hcall : mx_call M.1 k rc with
      | none => rw [hcall] at h; cases h
      | some q =>
      obtain ⟨kind, na, M1⟩ := q
      rw [hcall] at h
      dsimp only at h
      obtain ⟨⟨hkind, hna⟩, h⟩ := mx_if_inv h
      rw [← hna] at hv
      obtain ⟨rfl, rfl, rfl, h3, h4⟩ := mx_inv_inv h
      obtain ⟨hgood, hpar, hini, hmh, hk⟩ := mx_call_ok hcall
      obtain ⟨w, hw1, hw2⟩ := mx_vrs_get hs hv
      obtain ⟨b, rfl, hrecv⟩ : ∃ b, w = .ref b ∧ ∃ cellB : Cell, H[b]? = some cellB ∧ cellB.vm.isStatics = false ∧ s.vm.findClass (mx_cn rc) = some cellB.cls := by
        unfold mx_rc at hrc
        split at hrc
        · rename_i ci fs ha
          cases hrc
          obtain ⟨b, e9, y1, y2, y3⟩ := mx_rel_at hR ha
          obtain ⟨fs', rfl, y4⟩ := mx_cr_obj y3
          obtain ⟨q9, hq9, -⟩ := hP a _ y1
          obtain ⟨c1, -⟩ := mx_CC_ok rc (mx_cls_lt hq9)
          exact ⟨b, mx_vr_world hw2 y2 hR.2.2.1, va_recv hK hP c1 y1⟩
        · cases hrc
        · split at hrc
          · rename_i ha
            cases hrc
            obtain ⟨adK, adV, hSS, hAA⟩ := E.2.2.2.2.2.1
            obtain ⟨i, hi, hai⟩ := mx_str a ha.1 ha.2
            have hai : a = 1000 + i := hai
            subst hai
            refine ⟨adK i, ?_, vk_recv hSS hi hS⟩
            rcases hw2 with ⟨h5, -⟩ | ⟨-, h5⟩
            · exact absurd (show 1000 + i < 900 from h5) (mx_str9 i)
            · rw [h5]; exact (hAA i hi).1
          · cases hrc
      obtain ⟨sp1, sp2⟩ := mx_split hw1
      have hvs := mx_vrs_rev (mx_vrs_take (na + 1) hs)
      rw [sp2] at hvs
      have hmet := hme L tys ws (.ref b :: (rst.take na).reverse) H.size hRL hvs
      have hRR : (mx_rm d (r.2.2.1 - g.2.1) (r.2.2.2 - g.2.2)).frames + 1 ≤ R.frames ∧ 8 + (M'.2.2.2.1 + 11) + (mx_rm d (r.2.2.1 - g.2.1) (r.2.2.2 - g.2.2)).locals ≤ R.locals := by
        have := hgood.2.2.2
        exact ⟨by show d + 1 + 1 ≤ _; omega, by show 8 + (M'.2.2.2.1 + 11) + 34 * (d + 1) ≤ _; omega⟩
      have hst : (F0 m pc rl rst).stack = ((rst.take na).reverse).reverse ++ .ref b :: rst.drop (na + 1) := by
        show rst = _
        rw [List.reverse_reverse]
        exact sp1
      have hal : ((rst.take na).reverse).length = na := by simp; omega
      refine ⟨(Value.ref b :: (rst.take na).reverse).toArray, rst.drop (na + 1), mx_vrs_drop (na + 1) hs, ?_⟩
      rcases hkind with rfl | rfl
      · exact va_runV S hmet ⟨callB_of na F.2.2.2.2.1 (mx_gi (mx_wl_in hgood)) rfl rfl rfl (F.2.2.2.2.1 _ hini) (F.2.2.2.2.1 _ hk.2.1) ⟨hmh.1, hmh.2, hpar⟩ hRR, F.2.2.2.2.1 _ hk.2.2.1, F.2.2.2.2.1 _ hk.2.2.2⟩ ⟨mx_Pc_blind, hrecv, hpre _⟩ rfl hal hl.1 hst (lv_room (hroom (na + 1) h4)) hd hc
      · obtain ⟨-, k1, k2, k3, k4, k5, b0, m0, r0, k6⟩ := hk
        refine va_runU S hmet (va_cwO (x := ⟨RX3, M'.2.1.name, M'.2.1.desc⟩) (owner := RX3) na F.2.2.2.2.1 (mx_gi ?_) rfl rfl rfl k6 ⟨by decide +kernel, by decide +kernel, hpar⟩ hRR) ⟨mx_Pc_blind, hrecv, hpre _⟩ rfl hal hl.1 hst (lv_room (hroom (na + 1) h4)) hd hc
        unfold va_wsO
        exact List.forall_mem_append.mpr ⟨List.forall_mem_cons.mpr ⟨k1, List.forall_mem_cons.mpr ⟨k2, List.forall_mem_cons.mpr ⟨k3, List.forall_mem_cons.mpr ⟨k4, List.forall_mem_cons.mpr ⟨k5, List.forall_mem_cons.mpr ⟨hini, fun _ h => absurd h List.not_mem_nil⟩⟩⟩⟩⟩⟩, mx_wl_in hgood⟩
    | _ => cases h
  all_goals cases h
end Runs
