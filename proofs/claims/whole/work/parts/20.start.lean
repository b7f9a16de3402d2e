/-! THE START: what lies outside, and the law's run -/
theorem mx_nw_start {s : State} {args : Array Value} (hts : ∀ w ∈ lw_tbl, w.before args s = true) : ∀ w ∈ mx_nws, va_Nw w s := by
  intro w hw
  have h0 := hts w (List.mem_filter.mp hw).1
  have h1 := (List.mem_filter.mp hw).2
  unfold mx_nst at h1
  split at h1
  · exact va_Nw.of rfl h0
  · exact va_Nw.of rfl h0
  · exact va_Nw.of rfl h0
  · exact va_AO.of h0
  · cases h1
abbrev mx_fl : List Cond := flatC (Jvm.Cond.and given_1 narrow_1)
def mx_tm (i : Nat) : Term := Term.string mx_sown (mx_sidx.getD i 0)
theorem fs_ex : ∀ i, i < 11 → Cond.exactly (mx_tm i) "java/lang/String" ∈ mx_fl := by decide +kernel
theorem fs_co : ∀ i, i < 11 → Cond.eq (.field (mx_tm i) "java/lang/String" "coder" "B") (.int 0) ∈ mx_fl := by decide +kernel
theorem fs_ar : ∀ i, i < 11 → Cond.arrayOf (.field (mx_tm i) "java/lang/String" "value" "[B") .byte ∈ mx_fl := by decide +kernel
theorem fs_le : ∀ i, i < 11 → Cond.eq (.length (.field (mx_tm i) "java/lang/String" "value" "[B")) (.int (Int32.ofNat (mx_sln.getD i 0))) ∈ mx_fl := by decide +kernel
theorem fs_el : ∀ i, i < 11 → ∀ j, j < mx_sln.getD i 0 → Cond.eq (.elem (.field (mx_tm i) "java/lang/String" "value" "[B") (.int (Int32.ofNat j))) (.int ((mx_byt.getD i []).getD j 0)) ∈ mx_fl := by decide +kernel
theorem fs_ne : ∀ i, i < 11 → ∀ j, j < 11 → i ≠ j → Cond.not (Cond.eq (mx_tm i) (mx_tm j)) ∈ mx_fl ∨ Cond.not (Cond.eq (mx_tm j) (mx_tm i)) ∈ mx_fl := by decide +kernel
theorem fs_rf : ∀ i, i < 11 → Cond.stringRef mx_sown (mx_sidx.getD i 0) (mx_stx.getD i "") ∈ lw_tbl := by decide +kernel
theorem fs_ka : ∀ j, j < 6 → Cond.eq (.elem (.static "PocketBorders" "KIND_ABOVE" "[I") (.int (Int32.ofNat j))) (.int (mx_ka.getD j 0)) ∈ mx_fl := by decide +kernel
theorem mx_E_start {s : State} {b L : Nat} {xs : Nat → Int32} (hts : ∀ w ∈ lw_tbl, w.before #[Value.ref b] s = true) (hX : va_X b L xs s s.heap) (hbl : b < s.heap.size) (hgv : (Jvm.Cond.and given_1 narrow_1).before #[Value.ref b] s = true) : ∃ X : Nat → Value, X 3000 = .ref b ∧ mx_E (L, xs) X (fun q => s.heap.size ≤ q) s s.heap := by
  have hs : ∀ c ∈ mx_fl, c.before #[Value.ref b] s = true := flat_of_before _ hgv
  have hA : ∀ a : Nat, a < s.heap.size → ¬ (fun q : Nat => s.heap.size ≤ q) a := fun a h => Nat.not_le.mpr h
  obtain ⟨kA, hkA, hTA⟩ := va_Tof (tm := .static "PocketBorders" "KIND_ABOVE" "[I") (ty := .int) (N := 6) (f := fun j => .int (mx_ka.getD j 0)) (A := fun q : Nat => s.heap.size ≤ q) (by decide) (hs _ (by decide +kernel)) (va_eqt (hs (Cond.eq (.length (.static "PocketBorders" "KIND_ABOVE" "[I")) (.int (Int32.ofNat 6))) (by decide +kernel))) (fun j hj => va_eqt (hs _ (fs_ka j hj))) hA
  have hZA := va_Zref (A := fun q : Nat => s.heap.size ≤ q) (hts (Cond.laysStatic "PocketBorders" "KIND_ABOVE" "[I") (by decide +kernel)) (hts (Cond.initialized "PocketBorders") (by decide +kernel)) hkA hA
  have hCS := va_Zof (A := fun q : Nat => s.heap.size ≤ q) (hts (Cond.laysStatic "java/lang/String" "COMPACT_STRINGS" "Z") (by decide +kernel)) (hts (Cond.initialized "java/lang/String") (by decide +kernel)) (va_eqi (hs (Cond.eq (.static "java/lang/String" "COMPACT_STRINGS" "Z") (.int 1)) (by decide +kernel))) hA
  have hSF := va_Zqof (A := fun q : Nat => s.heap.size ≤ q) (hts (Cond.laysStatic "jdk/internal/util/Preconditions" "SIOOBE_FORMATTER" "Ljava/util/function/BiFunction;") (by decide +kernel)) (hts (Cond.initialized "jdk/internal/util/Preconditions") (by decide +kernel)) (hs (Cond.isRef (.static "jdk/internal/util/Preconditions" "SIOOBE_FORMATTER" "Ljava/util/function/BiFunction;")) (by decide +kernel)) hA
  obtain ⟨v4, hv4, hZ4⟩ : ∃ v4 : Value, (v4 = .null ∨ ∃ a, v4 = .ref a) ∧ va_Z "jdk/internal/util/Preconditions" "SIOOBE_FORMATTER" "Ljava/util/function/BiFunction;" v4 (fun q : Nat => s.heap.size ≤ q) s s.heap := by
    rcases hSF with h | ⟨t, h⟩
    · exact ⟨.null, Or.inl rfl, h⟩
    · exact ⟨.ref t, Or.inr ⟨t, rfl⟩, h⟩
  obtain ⟨adK, adV, hSS, hev⟩ := vk_Sof (N := 11) (tm := mx_tm) (len := mx_sln) (byt := mx_byt) (A := fun q : Nat => s.heap.size ≤ q) (by decide) (fun i hi => hs _ (fs_ex i hi)) (fun i hi => hs _ (fs_co i hi)) (fun i hi => hs _ (fs_ar i hi)) (fun i hi => hs _ (fs_le i hi)) (fun i hi j hj => hs _ (fs_el i hi j hj)) (fun i j hi hj hij => (fs_ne i hi j hj hij).imp (hs _) (hs _)) hA
  have hTB : va_T .int b L (fun j => .int (xs j)) (fun q : Nat => s.heap.size ≤ q) s s.heap := by
    obtain ⟨scr, x1, x2, x3, x4, x5⟩ := hX
    exact ⟨scr, x1, x2, x3, by omega, by rw [x4], x5, Nat.not_le.mpr hbl⟩
  refine ⟨fun k => if k = 2000 then .ref kA else if k = 3000 then .ref b else if k = 4000 then v4 else if k < 1100 then .ref (adK (k - 1000)) else .ref (adV (k - 1100)), by simp, ?_, ?_, ?_, hCS, ?_, ?_, mx_nw_start hts⟩
  · intro k
    dsimp only
    split
    · exact Or.inr ⟨_, rfl⟩
    · split
      · exact Or.inr ⟨_, rfl⟩
      · split
        · exact hv4
        · split
          · exact Or.inr ⟨_, rfl⟩
          · exact Or.inr ⟨_, rfl⟩
  · exact ⟨kA, by simp, hZA, hTA⟩
  · exact ⟨b, by simp, hTB⟩
  · simpa using hZ4
  · refine ⟨adK, adV, hSS, fun i hi => ⟨?_, ?_, vk_R.of (hts _ (fs_rf i hi)) (hev i hi)⟩⟩
    · dsimp only
      rw [if_neg (by omega), if_neg (by omega), if_neg (by omega), if_pos (by omega), Nat.add_sub_cancel_left]
    · dsimp only
      rw [if_neg (by omega), if_neg (by omega), if_neg (by omega), if_neg (by omega), Nat.add_sub_cancel_left]
theorem mx_K_start {s : State} {args : Array Value} (hts : ∀ w ∈ lw_tbl, w.before args s = true) : ∃ D : va_G, va_K D vwCl [] s := by
  have h0 : ∀ ci : Nat, ∃ q : ClassId × (Nat → Nat), ci < 12 → u_Kn s (mx_cn ci) (mx_TT ci) (mx_NN ci) q.1 q.2 := by
    intro ci
    by_cases hc : ci < 12
    · obtain ⟨c1, c2, c3, c4, c5, c6, c7, c8, c9, c10⟩ := mx_CC_ok ci hc
      obtain ⟨cC, iS, h⟩ := u_known (C := mx_cn ci) (T := mx_TT ci) (N := mx_NN ci) hts (fun w hw => mx_tbl_in (c2 w hw)) (hts _ (mx_tbl_in c9))
      exact ⟨(cC, iS), fun _ => h⟩
    · exact ⟨(0, fun _ => 0), fun h => absurd h hc⟩
  obtain ⟨f, hf⟩ := Classical.axiomOfChoice h0
  refine ⟨(fun c => (f c).1, fun c => (f c).2), fun c q hq => ?_, fun k q h => by simp at h⟩
  have hc := mx_cls_lt hq
  obtain ⟨c1, -⟩ := mx_CC_ok c hc
  cases hq.symm.trans c1
  exact hf c hc
/-- the law, out of what the mini machine says of it -/
theorem mx_start {p : Program} {e : Env} {s : State} {m : MethodId} {below : List Frame} {meth : Method} {c : Code} (l : Launch) {b L : Nat} {xs : Nat → Int32} (C0 : lw_At p s m meth c b L xs) {g' : mx_G} (hden : den (L, xs) 11 ML_law 0 [some (.ref 3000), none, none, none] [] (fun _ => none, 0, 0) = some (some (.int 1), g')) (h1 : g'.2.1 ≤ 600000) (h2 : g'.2.2 ≤ 7302250) : W p l e room_1 s m #[Value.ref b] below meth c s.heap [] 0 0 (lw_Z below #[Value.ref b] s) (entryFrame m ([Value.ref b] : List Value).toArray 4) := by
  obtain ⟨hx, hb, hr, hml, hown, hts, hX, hbl, hlocks, hgv⟩ := C0
  obtain ⟨n, hrun⟩ := den_some.mp hden
  obtain ⟨X, hX3, E⟩ := mx_E_start hts hX hbl hgv
  obtain ⟨D, hK⟩ := mx_K_start hts
  have F : mx_Cx p s m #[Value.ref b] meth c ML_law := ⟨hx, hb, hml, hown, fun w hw => hts w (mx_tbl_in hw), hr, hlocks, fun h => absurd h (by decide)⟩
  have hend : mx_End p l e room_1 s m #[Value.ref b] below meth c (lw_Z below #[Value.ref b] s) D X (fun q => s.heap.size ≤ q) ML_law [] 0 0 (some (.int 1), g') := by
    intro pc i k ls st g v hd hln hrt heq L' tys' ws' H locs rl rst cells slots hw hl hs hc hk
    cases heq
    obtain ⟨hK', hP', hD', hS', hR'⟩ := hw
    cases i
    case ireturn =>
      obtain rfl : k = 1 := by simpa [mx_ln] using hln
      simp only [mx_rt] at hrt
      split at hrt
      · rename_i x
        split at hrt
        · rename_i ty hty
          obtain ⟨hnar, hrt⟩ := mx_if_inv hrt
          cases hrt
          obtain ⟨r1, rfl, hs1⟩ := mx_vrs_i hs
          obtain rfl := mx_vrs_nil hs1
          refine va_forget (fun q hq => hS'.2.2 q hq) ?_
          refine W.widen (k := 600000) (n := 7302250) (by omega) (by omega) ?_
          exact lw_ret hx hb hr hlocks hd
        · cases hrt
      · cases hrt
    case lreturn =>
      simp only [mx_rt] at hrt
      split at hrt
      · obtain ⟨hty, hrt⟩ := mx_if_inv hrt
        cases hrt
      · cases hrt
    case areturn =>
      simp only [mx_rt] at hrt
      split at hrt
      · obtain ⟨hty, hrt⟩ := mx_if_inv hrt
        cases hrt
      · cases hrt
    case return_ =>
      simp only [mx_rt] at hrt
      split at hrt
      · obtain ⟨hty, hrt⟩ := mx_if_inv hrt
        cases hrt
      · cases hrt
    all_goals cases hrt
  have key := mx_sound (l := l) (D := D) E.1 n 11 ML_law 0 _ [] _ _ hrun p e room_1 s m #[Value.ref b] below meth c (lw_Z below #[Value.ref b] s) (fun q => s.heap.size ≤ q) [] 0 0 F E (fun _ h => h) (Nat.le_of_ble_eq_true rfl) (Nat.le_of_ble_eq_true rfl) (by show g'.2.1 ≤ 600000 + 0; omega) (by show g'.2.2 ≤ 7302250 + 0; omega) hend
  rw [lg_entry_eq]
  exact key [] [] [] s.heap [] _ [] 0 0 ⟨hK, fun k q h => by simp at h, ⟨fun i j p q h => by simp at h, fun k q h => by simp at h⟩, va_S.rf, rfl, rfl, by simp, ⟨[], rfl⟩, fun _ _ => rfl, fun k q h => by simp at h⟩ (mx_entry (M := ML_law) (as := [.ref 3000]) (ras := [.ref b]) E.1 ⟨mx_vr_x (by omega) hX3.symm, trivial⟩ rfl) trivial rfl rfl
