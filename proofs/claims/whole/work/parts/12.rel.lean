/-! THE MINI MACHINE'S STATES AND THE REAL ONES -/
/-- a value: a reference is the cell of that number, or one of those outside -/
def mx_vr (X : Nat → Value) (L : List Nat) (v w : Value) : Prop := match v with
  | .ref k => (k < 900 ∧ ∃ a, L[k]? = some a ∧ w = .ref a) ∨ (1000 ≤ k ∧ w = X k)
  | v => w = v
def mx_vrs (X : Nat → Value) (L : List Nat) : List Value → List Value → Prop
  | [], [] => True
  | v :: vs, w :: ws => mx_vr X L v w ∧ mx_vrs X L vs ws
  | _, _ => False
def mx_dr (L : List Nat) (d e : (Nat → Int32) ⊕ (Nat → Int64) ⊕ (Nat → UInt32) ⊕ (Nat → UInt64) ⊕ (Nat → Option Nat)) : Prop := match d, e with
  | .inl f, .inl f' => f' = f
  | .inr (.inl f), .inr (.inl f') => f' = f
  | .inr (.inr (.inr (.inr f))), .inr (.inr (.inr (.inr f'))) => ∀ i, (f i = none ∧ f' i = none) ∨ ∃ k a, f i = some k ∧ f' i = some a ∧ k < 900 ∧ L[k]? = some a
  | _, _ => False
def mx_cr (X : Nat → Value) (L : List Nat) (tys : List (ClassId × FieldType)) (c : mx_C) (e : va_E) : Prop := match c, e with
  | .inl (ty, n, d), .inl (cA, n', d') => (cA, ty) ∈ tys ∧ n' = n ∧ mx_dr L d d'
  | .inr (ci, fs), .inr (ci', fs') => ci' = ci ∧ mx_vrs X L fs fs'
  | _, _ => False
def mx_rel (L0 : List Nat) (X : Nat → Value) (L : List Nat) (tys : List (ClassId × FieldType)) (g : mx_G) (ws : va_W) : Prop :=
  ws.map Prod.fst = L ∧ g.2.1 = L.length ∧ L.length ≤ 900 ∧ (∃ L1, L = L0 ++ L1) ∧ (∀ k, L.length ≤ k → g.1 k = none) ∧ ∀ (k : Nat) (q : Nat × va_E), ws[k]? = some q → ∃ c, g.1 k = some c ∧ mx_cr X L tys c q.2
def mx_lr (X : Nat → Value) (L : List Nat) (ls : mx_L) (rl : Array Slot) (nL : Nat) : Prop := rl.size = nL ∧ lv_wf rl ∧ ls.length = nL ∧ ∀ (i : Nat) (v : Value), ls[i]? = some (some v) → ∃ w, mx_vr X L v w ∧ rl[i]? = some (.val w)
section Basic
variable {X : Nat → Value} {L0 L : List Nat} {tys : List (ClassId × FieldType)} {g : mx_G} {ws : va_W}
theorem mx_vr_app {v w : Value} (a : Nat) (h : mx_vr X L v w) : mx_vr X (L ++ [a]) v w := by
  cases v with
  | ref k =>
    rcases h with ⟨hk, b, h1, h2⟩ | h
    · refine Or.inl ⟨hk, b, ?_, h2⟩
      rw [List.getElem?_append_left (List.getElem?_eq_some_iff.mp h1).1]
      exact h1
    · exact Or.inr h
  | _ => exact h
theorem mx_vrs_app (a : Nat) : ∀ {vs ws : List Value}, mx_vrs X L vs ws → mx_vrs X (L ++ [a]) vs ws
  | [], [], _ => trivial
  | _ :: _, _ :: _, h => ⟨mx_vr_app a h.1, mx_vrs_app a h.2⟩
  | [], _ :: _, h => h
  | _ :: _, [], h => h
theorem mx_cr_app {c : mx_C} {e : va_E} (a : Nat) (z : ClassId × FieldType) (h : mx_cr X L tys c e) : mx_cr X (L ++ [a]) (tys ++ [z]) c e := by
  match c, e, h with
  | .inl (ty, n, d), .inl (cA, n', d'), h =>
    refine ⟨List.mem_append_left _ h.1, h.2.1, ?_⟩
    have h3 := h.2.2
    match d, d', h3 with
    | .inl f, .inl f', h3 => exact h3
    | .inr (.inl f), .inr (.inl f'), h3 => exact h3
    | .inr (.inr (.inr (.inr f))), .inr (.inr (.inr (.inr f'))), h3 =>
      intro i
      rcases h3 i with h | ⟨k, b, h1, h2, h4, h5⟩
      · exact Or.inl h
      · refine Or.inr ⟨k, b, h1, h2, h4, ?_⟩
        rw [List.getElem?_append_left (List.getElem?_eq_some_iff.mp h5).1]
        exact h5
  | .inr (ci, fs), .inr (ci', fs'), h => exact ⟨h.1, mx_vrs_app a h.2⟩
theorem mx_cr_app0 {c : mx_C} {e : va_E} (a : Nat) (h : mx_cr X L tys c e) : mx_cr X (L ++ [a]) tys c e := by
  match c, e, h with
  | .inl (ty, n, d), .inl (cA, n', d'), h =>
    refine ⟨h.1, h.2.1, ?_⟩
    have h3 := h.2.2
    match d, d', h3 with
    | .inl f, .inl f', h3 => exact h3
    | .inr (.inl f), .inr (.inl f'), h3 => exact h3
    | .inr (.inr (.inr (.inr f))), .inr (.inr (.inr (.inr f'))), h3 =>
      intro i
      rcases h3 i with h | ⟨k, b, h1, h2, h4, h5⟩
      · exact Or.inl h
      · refine Or.inr ⟨k, b, h1, h2, h4, ?_⟩
        rw [List.getElem?_append_left (List.getElem?_eq_some_iff.mp h5).1]
        exact h5
  | .inr (ci, fs), .inr (ci', fs'), h => exact ⟨h.1, mx_vrs_app a h.2⟩
theorem mx_lr_app {ls : mx_L} {rl : Array Slot} {nL : Nat} (a : Nat) (h : mx_lr X L ls rl nL) : mx_lr X (L ++ [a]) ls rl nL :=
  ⟨h.1, h.2.1, h.2.2.1, fun i v hv => by obtain ⟨w, h1, h2⟩ := h.2.2.2 i v hv; exact ⟨w, mx_vr_app a h1, h2⟩⟩
theorem mx_vrs_nil {w : List Value} (h : mx_vrs X L [] w) : w = [] := by
  cases w with
  | nil => rfl
  | cons a b => cases h
theorem mx_vrs_cons {v : Value} {r w : List Value} (h : mx_vrs X L (v :: r) w) : ∃ v' r', w = v' :: r' ∧ mx_vr X L v v' ∧ mx_vrs X L r r' := by
  cases w with
  | nil => cases h
  | cons a b => exact ⟨a, b, rfl, h⟩
theorem mx_vrs_i {x : Int32} {r w : List Value} (h : mx_vrs X L (.int x :: r) w) : ∃ r', w = .int x :: r' ∧ mx_vrs X L r r' := by
  obtain ⟨v', r', rfl, h1, h2⟩ := mx_vrs_cons h
  cases h1
  exact ⟨r', rfl, h2⟩
theorem mx_vrs_j {x : Int64} {r w : List Value} (h : mx_vrs X L (.long x :: r) w) : ∃ r', w = .long x :: r' ∧ mx_vrs X L r r' := by
  obtain ⟨v', r', rfl, h1, h2⟩ := mx_vrs_cons h
  cases h1
  exact ⟨r', rfl, h2⟩
theorem mx_vrs_n {r w : List Value} (h : mx_vrs X L (.null :: r) w) : ∃ r', w = .null :: r' ∧ mx_vrs X L r r' := by
  obtain ⟨v', r', rfl, h1, h2⟩ := mx_vrs_cons h
  cases h1
  exact ⟨r', rfl, h2⟩
/-- a reference into the world -/
theorem mx_vrs_r {k a : Nat} {r w : List Value} (hk : L[k]? = some a) (hl : L.length ≤ 900) (h : mx_vrs X L (.ref k :: r) w) : ∃ r', w = .ref a :: r' ∧ mx_vrs X L r r' := by
  obtain ⟨v', r', rfl, h1, h2⟩ := mx_vrs_cons h
  have hlt := (List.getElem?_eq_some_iff.mp hk).1
  rcases h1 with ⟨h3, b, h4, h5⟩ | ⟨h3, -⟩
  · cases hk.symm.trans h4
    exact ⟨r', by rw [h5], h2⟩
  · have h6 : 1000 ≤ k := h3
    omega
theorem mx_vr_ref {k : Nat} {w : Value} (hX : ∀ k, X k = .null ∨ ∃ a, X k = .ref a) (h : mx_vr X L (.ref k) w) : w = .null ∨ ∃ a, w = .ref a := by
  rcases h with ⟨-, a, -, h⟩ | ⟨-, h⟩
  · exact Or.inr ⟨a, h⟩
  · rw [h]; exact hX k
theorem mx_vr_cat {v w : Value} (hX : ∀ k, X k = .null ∨ ∃ a, X k = .ref a) (h : mx_vr X L v w) : w.category = v.category := by
  cases v with
  | ref k => rcases mx_vr_ref hX h with rfl | ⟨a, rfl⟩ <;> rfl
  | _ => cases h; rfl
theorem mx_vrs_len : ∀ {vs ws : List Value}, mx_vrs X L vs ws → ws.length = vs.length
  | [], [], _ => rfl
  | _ :: _, _ :: _, h => by simp [mx_vrs_len h.2]
  | [], _ :: _, h => by cases h
  | _ :: _, [], h => by cases h
theorem mx_vrs_get : ∀ {vs ws : List Value} {k : Nat} {v : Value}, mx_vrs X L vs ws → vs[k]? = some v → ∃ w, ws[k]? = some w ∧ mx_vr X L v w
  | v :: _, w :: _, 0, _, h, hk => by cases hk; exact ⟨w, rfl, h.1⟩
  | _ :: vs, _ :: ws, k + 1, v, h, hk => mx_vrs_get (vs := vs) (ws := ws) (k := k) (v := v) h.2 hk
  | [], _, _, _, _, hk => by cases hk
  | _ :: _, [], _, _, h, _ => by cases h
theorem mx_vrs_set : ∀ {vs ws : List Value} {k : Nat} {v w : Value}, mx_vrs X L vs ws → mx_vr X L v w → mx_vrs X L (vs.set k v) (ws.set k w)
  | _ :: _, _ :: _, 0, _, _, h, hv => ⟨hv, h.2⟩
  | _ :: _, _ :: _, k + 1, _, _, h, hv => ⟨h.1, mx_vrs_set h.2 hv⟩
  | [], [], _, _, _, _, _ => trivial
  | [], _ :: _, _, _, _, h, _ => by cases h
  | _ :: _, [], _, _, _, h, _ => by cases h
theorem mx_vrs_take : ∀ {vs ws : List Value} (n : Nat), mx_vrs X L vs ws → mx_vrs X L (vs.take n) (ws.take n)
  | _, _, 0, _ => trivial
  | [], [], _ + 1, _ => trivial
  | _ :: _, _ :: _, n + 1, h => ⟨h.1, mx_vrs_take n h.2⟩
  | [], _ :: _, _ + 1, h => by cases h
  | _ :: _, [], _ + 1, h => by cases h
theorem mx_vrs_drop : ∀ {vs ws : List Value} (n : Nat), mx_vrs X L vs ws → mx_vrs X L (vs.drop n) (ws.drop n)
  | _, _, 0, h => h
  | [], [], _ + 1, _ => trivial
  | _ :: _, _ :: _, n + 1, h => mx_vrs_drop n h.2
  | [], _ :: _, _ + 1, h => by cases h
  | _ :: _, [], _ + 1, h => by cases h
theorem mx_vrs_append : ∀ {vs ws vs2 ws2 : List Value}, mx_vrs X L vs ws → mx_vrs X L vs2 ws2 → mx_vrs X L (vs ++ vs2) (ws ++ ws2)
  | [], [], _, _, _, h2 => h2
  | _ :: _, _ :: _, _, _, h, h2 => ⟨h.1, mx_vrs_append h.2 h2⟩
  | [], _ :: _, _, _, h, _ => by cases h
  | _ :: _, [], _, _, h, _ => by cases h
theorem mx_vrs_rev : ∀ {vs ws : List Value}, mx_vrs X L vs ws → mx_vrs X L vs.reverse ws.reverse
  | [], [], _ => trivial
  | _ :: _, _ :: _, h => by
    rw [List.reverse_cons, List.reverse_cons]
    exact mx_vrs_append (mx_vrs_rev h.2) ⟨h.1, trivial⟩
  | [], _ :: _, h => by cases h
  | _ :: _, [], h => by cases h
/-- a cell of the world -/
theorem mx_rel_at {k : Nat} {c : mx_C} (h : mx_rel L0 X L tys g ws) (hk : g.1 k = some c) : ∃ a e, ws[k]? = some (a, e) ∧ L[k]? = some a ∧ mx_cr X L tys c e := by
  obtain ⟨h1, h2, h3, h0, h4, h5⟩ := h
  have hlt : k < L.length := by
    rcases Nat.lt_or_ge k L.length with q | q
    · exact q
    · rw [h4 k q] at hk; cases hk
  have hw : ws.length = L.length := by rw [← h1, List.length_map]
  obtain ⟨⟨a, e⟩, hq⟩ : ∃ q, ws[k]? = some q := ⟨ws[k]'(by omega), List.getElem?_eq_getElem (by omega)⟩
  obtain ⟨c', hc, hcr⟩ := h5 k _ hq
  cases hk.symm.trans hc
  refine ⟨a, e, hq, ?_, hcr⟩
  rw [← h1, List.getElem?_map, hq]
  rfl
theorem mx_rel_up {k a : Nat} {e e' : va_E} {c' : mx_C} (h : mx_rel L0 X L tys g ws) (hk : ws[k]? = some (a, e)) (hc : mx_cr X L tys c' e') : mx_rel L0 X L tys (mx_up g k c') (ws.set k (a, e')) := by
  obtain ⟨h1, h2, h3, h0, h4, h5⟩ := h
  have hw : ws.length = L.length := by rw [← h1, List.length_map]
  have hlt := (List.getElem?_eq_some_iff.mp hk).1
  refine ⟨?_, h2, h3, h0, fun j hj => ?_, fun j q hq => ?_⟩
  · rw [List.map_set, h1]
    apply List.ext_getElem?
    intro j
    rw [List.getElem?_set]
    split
    · rename_i hj
      subst hj
      rw [if_pos (by omega), ← h1, List.getElem?_map, hk]
      rfl
    · rfl
  · show va_up g.1 k (some c') j = none
    unfold va_up
    rw [if_neg (by omega)]
    exact h4 j hj
  · rw [List.getElem?_set] at hq
    by_cases hj : k = j
    · subst hj
      simp only [if_true, hlt] at hq
      cases hq
      exact ⟨c', by show va_up g.1 k (some c') k = _; unfold va_up; rw [if_pos rfl], hc⟩
    · rw [if_neg hj] at hq
      obtain ⟨c, hc1, hc2⟩ := h5 j q hq
      exact ⟨c, by show va_up g.1 k (some c') j = _; unfold va_up; rw [if_neg (Ne.symm hj)]; exact hc1, hc2⟩
theorem mx_rel_nw {a n : Nat} {e : va_E} {c : mx_C} {tys' : List (ClassId × FieldType)} (h : mx_rel L0 X L tys g ws) (hg : g.2.1 < 900) (hm : ∀ c e, mx_cr X L tys c e → mx_cr X (L ++ [a]) tys' c e) (hc : mx_cr X (L ++ [a]) tys' c e) : mx_rel L0 X (L ++ [a]) tys' (mx_nw g c n) (ws ++ [(a, e)]) := by
  obtain ⟨h1, h2, h3, h0, h4, h5⟩ := h
  have hw : ws.length = L.length := by rw [← h1, List.length_map]
  refine ⟨by rw [List.map_append, h1]; rfl, by simp [mx_nw, h2], by rw [List.length_append]; simp; omega, by obtain ⟨L1, e⟩ := h0; exact ⟨L1 ++ [a], by rw [e, List.append_assoc]⟩, fun j hj => ?_, fun j q hq => ?_⟩
  · rw [List.length_append] at hj
    simp at hj
    show va_up g.1 g.2.1 (some c) j = none
    unfold va_up
    rw [if_neg (by omega)]
    exact h4 j (by omega)
  · by_cases hj : j < ws.length
    · rw [List.getElem?_append_left hj] at hq
      obtain ⟨c0, hc1, hc2⟩ := h5 j q hq
      exact ⟨c0, by show va_up g.1 g.2.1 (some c) j = _; unfold va_up; rw [if_neg (by omega)]; exact hc1, hm _ _ hc2⟩
    · rw [List.getElem?_append_right (by omega)] at hq
      have hz : j - ws.length = 0 := by
        rcases Nat.eq_zero_or_pos (j - ws.length) with z | z
        · exact z
        · rw [List.getElem?_eq_none (by simp; omega)] at hq; cases hq
      rw [hz] at hq
      cases hq
      exact ⟨c, by show va_up g.1 g.2.1 (some c) j = _; unfold va_up; rw [if_pos (by omega)], hc⟩
/-- all that real locals hold -/
def mx_all (rl : Array Slot) : List (Nat × Value) := (List.range rl.size).filterMap fun i => match (rl[i]? : Option Slot) with
  | some (Slot.val v) => some (i, v)
  | _ => none
theorem mx_all_mem {rl : Array Slot} {i : Nat} {v : Value} : (i, v) ∈ mx_all rl ↔ rl[i]? = some (.val v) := by
  unfold mx_all
  rw [List.mem_filterMap]
  constructor
  · rintro ⟨j, hj, h⟩
    split at h
    · rename_i w hw
      cases h
      exact hw
    · cases h
  · intro h
    refine ⟨i, List.mem_range.mpr (Array.getElem?_eq_some_iff.mp h).1, ?_⟩
    rw [h]
theorem mx_all_has {rl : Array Slot} {nL : Nat} (h1 : rl.size = nL) (h2 : lv_wf rl) : lv_has rl nL (mx_all rl) := ⟨h1, h2, fun q hq => mx_all_mem.mp hq⟩
theorem mx_ld_inv {ls : mx_L} {k : Nat} {v : Value} (h : mx_ld ls k = some v) : ls[k]? = some (some v) := by
  unfold mx_ld at h
  split at h
  · rename_i w hw
    cases h
    exact hw
  · cases h
theorem mx_setnone {l : mx_L} {n : Nat} {u : Value} (h : (l.set n none)[n]? = some (some u)) : False := by
  rw [List.getElem?_set, if_pos rfl] at h
  split at h <;> cases h
theorem mx_store1 {ls : mx_L} {rl rl' : Array Slot} {nL i : Nat} {v w : Value} (hX : ∀ k, X k = .null ∨ ∃ a, X k = .ref a) (h : mx_lr X L ls rl nL) (hi : i < nL) (hv : mx_vr X L v w)
    (h' : lv_has rl' nL ((i, w) :: (mx_all rl).filter (fun q => !(q.1 == i) && !(q.1 + 1 == i && q.2.category == 2)))) : mx_lr X L (mx_st1 ls i v) rl' nL := by
  obtain ⟨h1, h2, h3, h4⟩ := h
  obtain ⟨g1, g2, g3⟩ := h'
  have hlen : (mx_st1 ls i v).length = nL := by unfold mx_st1; split <;> simp [h3]
  refine ⟨g1, g2, hlen, fun j u hu => ?_⟩
  by_cases hj : j = i
  · subst hj
    have : u = v := by
      unfold mx_st1 at hu
      split at hu
      · rw [List.getElem?_set_self (by simp; omega)] at hu; cases hu; rfl
      · rw [List.getElem?_set_self (by omega)] at hu; cases hu; rfl
    subst this
    exact ⟨w, hv, g3 (j, w) List.mem_cons_self⟩
  · have hu2 : ls[j]? = some (some u) ∧ ¬ (mx_two ls[i - 1]? = true ∧ j = i - 1) := by
      unfold mx_st1 at hu
      split at hu
      · rename_i ht
        rw [List.getElem?_set_ne (fun e => hj e.symm)] at hu
        by_cases hjj : i - 1 = j
        · subst hjj
          exact (mx_setnone hu).elim
        · rw [List.getElem?_set_ne hjj] at hu
          exact ⟨hu, fun z => hjj z.2.symm⟩
      · rename_i ht
        rw [List.getElem?_set_ne (fun e => hj e.symm)] at hu
        exact ⟨hu, fun z => ht z.1⟩
    obtain ⟨z, hz1, hz2⟩ := h4 j u hu2.1
    refine ⟨z, hz1, g3 (j, z) (List.mem_cons_of_mem _ (List.mem_filter.mpr ⟨mx_all_mem.mpr hz2, ?_⟩))⟩
    simp only [Bool.and_eq_true, Bool.not_eq_true', beq_eq_false_iff_ne, ne_eq, Bool.and_eq_false_iff]
    refine ⟨hj, ?_⟩
    by_cases hc : j + 1 = i
    · right
      intro hc2
      apply hu2.2
      have hji : j = i - 1 := by omega
      refine ⟨?_, hji⟩
      rw [← hji, hu2.1]
      have hc3 : u.category = 2 := (mx_vr_cat hX hz1).symm.trans hc2
      cases u <;> first | rfl | (simp [Value.category] at hc3)
    · left
      exact hc
theorem mx_store2 {ls : mx_L} {rl rl' : Array Slot} {nL i : Nat} {v w : Value} (hX : ∀ k, X k = .null ∨ ∃ a, X k = .ref a) (h : mx_lr X L ls rl nL) (hi : i + 1 < nL) (hv : mx_vr X L v w)
    (h' : lv_has rl' nL ((i, w) :: (mx_all rl).filter (fun q => !(q.1 == i) && (!(q.1 == i + 1) && !(q.1 + 1 == i && q.2.category == 2))))) : mx_lr X L (mx_st2 ls i v) rl' nL := by
  obtain ⟨h1, h2, h3, h4⟩ := h
  obtain ⟨g1, g2, g3⟩ := h'
  have hlen : (mx_st2 ls i v).length = nL := by unfold mx_st2; split <;> simp [h3]
  refine ⟨g1, g2, hlen, fun j u hu => ?_⟩
  have hj1 : j ≠ i + 1 := by
    intro e
    subst e
    unfold mx_st2 at hu
    exact mx_setnone hu
  have hu1 : ((if mx_two ls[i - 1]? then ls.set (i - 1) none else ls).set i (some v))[j]? = some (some u) := by
    unfold mx_st2 at hu
    rwa [List.getElem?_set_ne (fun e => hj1 e.symm)] at hu
  by_cases hj : j = i
  · subst hj
    have : u = v := by
      rw [List.getElem?_set_self (by split <;> (try simp) <;> omega)] at hu1; cases hu1; rfl
    subst this
    exact ⟨w, hv, g3 (j, w) List.mem_cons_self⟩
  · rw [List.getElem?_set_ne (fun e => hj e.symm)] at hu1
    have hu2 : ls[j]? = some (some u) ∧ ¬ (mx_two ls[i - 1]? = true ∧ j = i - 1) := by
      split at hu1
      · rename_i ht
        by_cases hjj : i - 1 = j
        · subst hjj
          exact (mx_setnone hu1).elim
        · rw [List.getElem?_set_ne hjj] at hu1
          exact ⟨hu1, fun z => hjj z.2.symm⟩
      · rename_i ht
        exact ⟨hu1, fun z => ht z.1⟩
    obtain ⟨z, hz1, hz2⟩ := h4 j u hu2.1
    refine ⟨z, hz1, g3 (j, z) (List.mem_cons_of_mem _ (List.mem_filter.mpr ⟨mx_all_mem.mpr hz2, ?_⟩))⟩
    simp only [Bool.and_eq_true, Bool.not_eq_true', beq_eq_false_iff_ne, ne_eq, Bool.and_eq_false_iff]
    refine ⟨hj, hj1, ?_⟩
    by_cases hc : j + 1 = i
    · right
      intro hc2
      apply hu2.2
      have hji : j = i - 1 := by omega
      refine ⟨?_, hji⟩
      rw [← hji, hu2.1]
      have hc3 : u.category = 2 := (mx_vr_cat hX hz1).symm.trans hc2
      cases u <;> first | rfl | (simp [Value.category] at hc3)
    · left
      exact hc
end Basic
