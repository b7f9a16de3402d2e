/-! EQUATIONS OF den, one kind of instruction each -/
noncomputable def call (sc : mx_X) (d : Nat) (M : mx_M) (as : List Value) (g : mx_G) : Option mx_R := den sc d M 0 (mx_en M as) [] g
/-- a call's end, if what is left of the stack is small -/
def mx_ck (r : List Value) (c : Option mx_R) (K : Option Value → mx_G → Option mx_R) : Option mx_R := if r.length ≤ 4 then (match c with
  | none => none
  | some q => K q.1 q.2) else none
theorem ck0 {c : Option Value} {h : mx_G} {K : Option Value → mx_G → Option mx_R} : mx_ck [] (some (c, h)) K = K c h := rfl
theorem ck1 {a : Value} {c : Option Value} {h : mx_G} {K : Option Value → mx_G → Option mx_R} : mx_ck [a] (some (c, h)) K = K c h := rfl
theorem ck2 {a b : Value} {c : Option Value} {h : mx_G} {K : Option Value → mx_G → Option mx_R} : mx_ck [a, b] (some (c, h)) K = K c h := rfl
theorem ck3 {a b e : Value} {c : Option Value} {h : mx_G} {K : Option Value → mx_G → Option mx_R} : mx_ck [a, b, e] (some (c, h)) K = K c h := rfl
theorem ck4 {a b e f : Value} {c : Option Value} {h : mx_G} {K : Option Value → mx_G → Option mx_R} : mx_ck [a, b, e, f] (some (c, h)) K = K c h := rfl
section Den
variable {sc : mx_X} {d : Nat} {M : mx_M} {pc : Nat} {ls : mx_L} {st : List Value} {g : mx_G}
theorem dn_T {i : Instr} {n : Nat} (hd : decode M.2.2.1 pc = .ok (i, n)) (hln : mx_ln i n = true) (hrt : mx_rt M i st = none) (hcl : mx_cl M i st g = none) : den sc d M pc ls st g = mx_F (den sc) d M g (mx_op sc M i pc ls st g) := by
  rw [den_eq]
  unfold mx_T
  rw [hd]
  simp only [hln, if_true, hrt, hcl]
theorem mx_F_nx {f : Nat → mx_M → Nat → mx_L → List Value → mx_G → Option mx_R} {pc' : Nat} {ls' : mx_L} {st' : List Value} {g' : mx_G} (h : g'.2 = g.2) : mx_F f d M g (mx_nx pc' ls' st' g') = f d M pc' ls' st' g' := by
  unfold mx_F mx_nx
  dsimp only
  rw [h, if_pos ⟨Nat.le_refl _, Nat.le_refl _⟩]
theorem dn_next {i : Instr} {n : Nat} (hd : decode M.2.2.1 pc = .ok (i, n)) {pc' : Nat} {ls' : mx_L} {st' : List Value} {g' : mx_G} (hln : mx_ln i n = true) (hrt : mx_rt M i st = none) (hcl : mx_cl M i st g = none) (hop : mx_op sc M i pc ls st g = mx_nx pc' ls' st' g') (h : g'.2 = g.2) : den sc d M pc ls st g = den sc d M pc' ls' st' g' := by
  rw [dn_T hd hln hrt hcl, hop, mx_F_nx h]
theorem dn_ret {i : Instr} {n : Nat} (hd : decode M.2.2.1 pc = .ok (i, n)) {v : Option Value} (hln : mx_ln i n = true) (hrt : mx_rt M i st = some v) : den sc d M pc ls st g = some (v, g) := by
  rw [den_eq]
  unfold mx_T
  rw [hd]
  simp only [hln, if_true, hrt]
theorem dn_callx {i : Instr} {n : Nat} (hd : decode M.2.2.1 pc = .ok (i, n)) {M' : mx_M} {as rest : List Value} (hln : mx_ln i n = true) (hrt : mx_rt M i st = none) (hok : mx_ok M' as = true) (hcl : mx_cl M i st g = if rest.length ≤ 4 then some (M', as, rest) else none) (hop : mx_op sc M i pc ls st g = none) : den sc (d + 1) M pc ls st g = mx_ck rest (call sc d M' as g) (fun v g' => den sc (d + 1) M (pc + 3) ls (v.toList ++ rest) g') := by
  rw [den_eq]
  unfold mx_T
  rw [hd]
  simp only [hln, if_true, hrt, hcl]
  unfold mx_ck
  by_cases h : rest.length ≤ 4
  · simp only [h, if_true, mx_K, hok]
    unfold call
    cases den sc d M' 0 (mx_en M' as) [] g <;> rfl
  · simp only [h, if_false, hop, mx_F]
theorem mx_inv_eq {n : Nat} {M' : mx_M} {as rest : List Value} (h1 : (st.take n).reverse = as) (h2 : st.drop n = rest) (h3 : n ≤ st.length) : mx_inv n M' st = if rest.length ≤ 4 then some (M', as, rest) else none := by
  unfold mx_inv
  rw [h1, h2]
  simp only [h3, true_and]
theorem dn_static {k : Nat} (hd : decode M.2.2.1 pc = .ok (.invokestatic k, 3)) {kind n : Nat} {M' : mx_M} {as rest : List Value} (hc : mx_call M.1 k 100 = some (kind, n, M')) (hk : kind ≤ 1) (hm : mx_mmn M.1 k = false) (ha : mx_acp M.1 k = false) (h1 : (st.take n).reverse = as) (h2 : st.drop n = rest) (h3 : n ≤ st.length) (hok : mx_ok M' as = true) : den sc (d + 1) M pc ls st g = mx_ck rest (call sc d M' as g) (fun v g' => den sc (d + 1) M (pc + 3) ls (v.toList ++ rest) g') := by
  refine dn_callx hd rfl rfl hok ?_ ?_
  · simp only [mx_cl, hc, hk, if_true]
    exact mx_inv_eq h1 h2 h3
  · simp [mx_op, hm, ha]
theorem dn_special {k : Nat} (hd : decode M.2.2.1 pc = .ok (.invokespecial k, 3)) {kind n a : Nat} {M' : mx_M} {as rest : List Value} (hc : mx_call M.1 k 100 = some (kind, n, M')) (hk : 4 ≤ kind ∧ kind ≠ 8) (ho : mx_oin M.1 k = false) (hs : st[n]? = some (.ref a)) (h1 : (st.take (n + 1)).reverse = as) (h2 : st.drop (n + 1) = rest) (hok : mx_ok M' as = true) : den sc (d + 1) M pc ls st g = mx_ob (g.1 a) (fun _ => mx_ck rest (call sc d M' as g) (fun v g' => den sc (d + 1) M (pc + 3) ls (v.toList ++ rest) g')) := by
  have h3 : n + 1 ≤ st.length := (List.getElem?_eq_some_iff.mp hs).1
  cases hg : g.1 a with
  | none =>
    rw [den_eq]
    unfold mx_T
    rw [hd]
    have hcl : mx_cl M (.invokespecial k) st g = none := by simp [mx_cl, hc, hk, hs, hg, mx_ob]
    simp [mx_ln, mx_rt, hcl, mx_op, ho, mx_F, mx_ob]
  | some cc =>
    cases cc with
    | inl x =>
      rw [den_eq]
      unfold mx_T
      rw [hd]
      have hcl : mx_cl M (.invokespecial k) st g = none := by simp [mx_cl, hc, hk, hs, hg, mx_ob]
      simp [mx_ln, mx_rt, hcl, mx_op, ho, mx_F, mx_ob]
    | inr x =>
      obtain ⟨ci, fs⟩ := x
      show _ = mx_ck rest (call sc d M' as g) (fun v g' => den sc (d + 1) M (pc + 3) ls (v.toList ++ rest) g')
      refine dn_callx hd rfl rfl hok ?_ (by simp [mx_op, ho])
      have : mx_cl M (.invokespecial k) st g = mx_inv (n + 1) M' st := by simp [mx_cl, hc, hk, hs, hg, mx_ob]
      rw [this]
      exact mx_inv_eq h1 h2 h3
theorem dn_virtual {k : Nat} (hd : decode M.2.2.1 pc = .ok (.invokevirtual k, 3)) {kind n a rc : Nat} {M' : mx_M} {as rest : List Value} (hrc : mx_rc g a = some rc) (hc : mx_call M.1 k rc = some (kind, n, M')) (hk : kind = 2 ∨ kind = 8) (hn : n = mx_na M.1 k) (hs : st[n]? = some (.ref a)) (h1 : (st.take (n + 1)).reverse = as) (h2 : st.drop (n + 1) = rest) (hok : mx_ok M' as = true) : den sc (d + 1) M pc ls st g = mx_ck rest (call sc d M' as g) (fun v g' => den sc (d + 1) M (pc + 3) ls (v.toList ++ rest) g') := by
  have h3 : n + 1 ≤ st.length := (List.getElem?_eq_some_iff.mp hs).1
  refine dn_callx hd rfl rfl hok ?_ rfl
  have : mx_cl M (.invokevirtual k) st g = mx_inv (n + 1) M' st := by
    simp only [mx_cl, ← hn, hs, hrc, hc, hk, true_and, if_true]
  rw [this]
  exact mx_inv_eq h1 h2 h3
-- branches
theorem dn_br {b : Bool} {i : Instr} {off : Int} {tgt : Nat} {r : List Value} (hd : decode M.2.2.1 pc = .ok (i, 3)) (hln : mx_ln i 3 = true) (hrt : mx_rt M i st = none) (hcl : mx_cl M i st g = none) (hop : mx_op sc M i pc ls st g = mx_br b pc off ls r g) (ht : (pc : Int) + off = (tgt : Int)) : den sc d M pc ls st g = if b = true then den sc d M tgt ls r g else den sc d M (pc + 3) ls r g := by
  have h0 : mx_tg pc off = tgt := by unfold mx_tg; rw [ht]; rfl
  have h1 : 0 ≤ (pc : Int) + off := by rw [ht]; exact Int.natCast_nonneg _
  rw [dn_T hd hln hrt hcl, hop]
  unfold mx_br
  rw [if_pos h1, h0]
  cases b
  · exact mx_F_nx rfl
  · exact mx_F_nx rfl
variable {x y : Int32} {off : Int} {tgt : Nat} {r : List Value}
theorem dn_if_eq (hd : decode M.2.2.1 pc = .ok (.ifCond .eq off, 3)) (ht : (pc : Int) + off = (tgt : Int)) : den sc d M pc ls (.int x :: r) g = if x = 0 then den sc d M tgt ls r g else den sc d M (pc + 3) ls r g := by
  rw [dn_br (b := decide (x = 0)) hd rfl rfl rfl rfl ht]; simp
theorem dn_if_ne (hd : decode M.2.2.1 pc = .ok (.ifCond .ne off, 3)) (ht : (pc : Int) + off = (tgt : Int)) : den sc d M pc ls (.int x :: r) g = if x = 0 then den sc d M (pc + 3) ls r g else den sc d M tgt ls r g := by
  rw [dn_br (b := !decide (x = 0)) hd rfl rfl rfl rfl ht]; by_cases h : x = 0 <;> simp [h]
theorem dn_if_lt (hd : decode M.2.2.1 pc = .ok (.ifCond .lt off, 3)) (ht : (pc : Int) + off = (tgt : Int)) : den sc d M pc ls (.int x :: r) g = if x < 0 then den sc d M tgt ls r g else den sc d M (pc + 3) ls r g := by
  rw [dn_br (b := decide (x < 0)) hd rfl rfl rfl rfl ht]; simp
theorem dn_if_ge (hd : decode M.2.2.1 pc = .ok (.ifCond .ge off, 3)) (ht : (pc : Int) + off = (tgt : Int)) : den sc d M pc ls (.int x :: r) g = if 0 ≤ x then den sc d M tgt ls r g else den sc d M (pc + 3) ls r g := by
  rw [dn_br (b := decide (0 ≤ x)) hd rfl rfl rfl rfl ht]; simp
theorem dn_if_gt (hd : decode M.2.2.1 pc = .ok (.ifCond .gt off, 3)) (ht : (pc : Int) + off = (tgt : Int)) : den sc d M pc ls (.int x :: r) g = if 0 < x then den sc d M tgt ls r g else den sc d M (pc + 3) ls r g := by
  rw [dn_br (b := decide (0 < x)) hd rfl rfl rfl rfl ht]; simp
theorem dn_if_le (hd : decode M.2.2.1 pc = .ok (.ifCond .le off, 3)) (ht : (pc : Int) + off = (tgt : Int)) : den sc d M pc ls (.int x :: r) g = if x ≤ 0 then den sc d M tgt ls r g else den sc d M (pc + 3) ls r g := by
  rw [dn_br (b := decide (x ≤ 0)) hd rfl rfl rfl rfl ht]; simp
theorem dn_icmp_eq (hd : decode M.2.2.1 pc = .ok (.if_icmp .eq off, 3)) (ht : (pc : Int) + off = (tgt : Int)) : den sc d M pc ls (.int y :: .int x :: r) g = if x = y then den sc d M tgt ls r g else den sc d M (pc + 3) ls r g := by
  rw [dn_br (b := decide (x = y)) hd rfl rfl rfl rfl ht]; simp
theorem dn_icmp_ne (hd : decode M.2.2.1 pc = .ok (.if_icmp .ne off, 3)) (ht : (pc : Int) + off = (tgt : Int)) : den sc d M pc ls (.int y :: .int x :: r) g = if x = y then den sc d M (pc + 3) ls r g else den sc d M tgt ls r g := by
  rw [dn_br (b := !decide (x = y)) hd rfl rfl rfl rfl ht]; by_cases h : x = y <;> simp [h]
theorem dn_icmp_lt (hd : decode M.2.2.1 pc = .ok (.if_icmp .lt off, 3)) (ht : (pc : Int) + off = (tgt : Int)) : den sc d M pc ls (.int y :: .int x :: r) g = if x < y then den sc d M tgt ls r g else den sc d M (pc + 3) ls r g := by
  rw [dn_br (b := decide (x < y)) hd rfl rfl rfl rfl ht]; simp
theorem dn_icmp_ge (hd : decode M.2.2.1 pc = .ok (.if_icmp .ge off, 3)) (ht : (pc : Int) + off = (tgt : Int)) : den sc d M pc ls (.int y :: .int x :: r) g = if y ≤ x then den sc d M tgt ls r g else den sc d M (pc + 3) ls r g := by
  rw [dn_br (b := decide (y ≤ x)) hd rfl rfl rfl rfl ht]; simp
theorem dn_icmp_gt (hd : decode M.2.2.1 pc = .ok (.if_icmp .gt off, 3)) (ht : (pc : Int) + off = (tgt : Int)) : den sc d M pc ls (.int y :: .int x :: r) g = if y < x then den sc d M tgt ls r g else den sc d M (pc + 3) ls r g := by
  rw [dn_br (b := decide (y < x)) hd rfl rfl rfl rfl ht]; simp
theorem dn_icmp_le (hd : decode M.2.2.1 pc = .ok (.if_icmp .le off, 3)) (ht : (pc : Int) + off = (tgt : Int)) : den sc d M pc ls (.int y :: .int x :: r) g = if x ≤ y then den sc d M tgt ls r g else den sc d M (pc + 3) ls r g := by
  rw [dn_br (b := decide (x ≤ y)) hd rfl rfl rfl rfl ht]; simp
theorem dn_goto (hd : decode M.2.2.1 pc = .ok (.goto off, 3)) (ht : (pc : Int) + off = (tgt : Int)) : den sc d M pc ls st g = den sc d M tgt ls st g := by
  have h0 : mx_tg pc off = tgt := by unfold mx_tg; rw [ht]; rfl
  have h1 : 0 ≤ (pc : Int) + off := by rw [ht]; exact Int.natCast_nonneg _
  refine dn_next hd rfl rfl rfl ?_ rfl
  show mx_go pc off ls st g = _
  unfold mx_go
  rw [if_pos h1, h0]
theorem dn_table {dflt lo hi : Int} {offs : Array Int} {n : Nat} (hd : decode M.2.2.1 pc = .ok (.tableswitch dflt lo hi offs, n)) (ho : (if x.toInt < lo ∨ hi < x.toInt then some dflt else offs[(x.toInt - lo).toNat]?) = some off) (ht : (pc : Int) + off = (tgt : Int)) : den sc d M pc ls (.int x :: r) g = den sc d M tgt ls r g := by
  have h0 : mx_tg pc off = tgt := by unfold mx_tg; rw [ht]; rfl
  have h1 : 0 ≤ (pc : Int) + off := by rw [ht]; exact Int.natCast_nonneg _
  refine dn_next hd rfl rfl rfl ?_ rfl
  show (if x.toInt < lo ∨ hi < x.toInt then mx_go pc dflt ls r g else (match offs[(x.toInt - lo).toNat]? with
    | some off => mx_go pc off ls r g
    | none => none)) = _
  split at ho
  · rename_i hx
    cases ho
    rw [if_pos hx]
    unfold mx_go
    rw [if_pos h1, h0]
  · rename_i hx
    rw [if_neg hx, ho]
    dsimp only
    unfold mx_go
    rw [if_pos h1, h0]
-- the heap
theorem dn_gf {n a ci j : Nat} {nest : Bool} (hd : decode M.2.2.1 pc = .ok (.getfield n, 3)) (hf : mx_fld M.1 n = some (ci, j, nest)) : den sc d M pc ls (.ref a :: r) g = mx_gf (g.1 a) ci j (fun v => den sc d M (pc + 3) ls (v :: r) g) := by
  rw [dn_T hd rfl rfl rfl]
  have : mx_op sc M (.getfield n) pc ls (.ref a :: r) g = mx_gf (g.1 a) ci j fun v => mx_nx (pc + 3) ls (v :: r) g := by simp only [mx_op, mx_sr, hf]
  rw [this]
  unfold mx_gf
  split
  · split
    · split
      · exact mx_F_nx rfl
      · rfl
    · rfl
  · rfl
theorem dn_gx {n a : Nat} {v : Value} (hd : decode M.2.2.1 pc = .ok (.getfield n, 3)) (hf : mx_fld M.1 n = none) (hv : mx_xf M.1 n a = some v) : den sc d M pc ls (.ref a :: r) g = den sc d M (pc + 3) ls (v :: r) g := by
  refine dn_next hd rfl rfl rfl ?_ rfl
  simp only [mx_op, mx_sr, hf, hv]
theorem dn_pf {n a ci j : Nat} {nest : Bool} {v : Value} (hd : decode M.2.2.1 pc = .ok (.putfield n, 3)) (hf : mx_fld M.1 n = some (ci, j, nest)) (hfit : (mx_fit M ci j v && !(nest && mx_ffin ci j)) = true) : den sc d M pc ls (v :: .ref a :: r) g = mx_pf (g.1 a) ci j (fun fs => den sc d M (pc + 3) ls r (mx_up g a (.inr (ci, fs.set j v)))) := by
  rw [dn_T hd rfl rfl rfl]
  have : mx_op sc M (.putfield n) pc ls (v :: .ref a :: r) g = mx_pf (g.1 a) ci j fun fs => mx_nx (pc + 3) ls r (mx_up g a (.inr (ci, fs.set j v))) := by simp only [mx_op, mx_svr, hf, hfit, if_true]
  rw [this]
  unfold mx_pf
  split
  · split
    · exact mx_F_nx rfl
    · rfl
  · rfl
theorem dn_iald {a : Nat} {i : Int32} (hd : decode M.2.2.1 pc = .ok (.iaload, 1)) : den sc d M pc ls (.int i :: .ref a :: r) g = mx_ai (mx_av sc g a) i (fun _ f => den sc d M (pc + 1) ls (.int (f i.toNatClampNeg) :: r) g) := by
  rw [dn_T hd rfl rfl rfl]
  show mx_F (den sc) d M g (mx_ai (mx_av sc g a) i fun _ f => mx_nx (pc + 1) ls (.int (f i.toNatClampNeg) :: r) g) = _
  unfold mx_ai
  split
  · split
    · exact mx_F_nx rfl
    · rfl
  · rfl
theorem dn_bald {a : Nat} {i : Int32} (hd : decode M.2.2.1 pc = .ok (.baload, 1)) : den sc d M pc ls (.int i :: .ref a :: r) g = mx_ab (mx_av sc g a) i (fun _ f => den sc d M (pc + 1) ls (.int (f i.toNatClampNeg) :: r) g) := by
  rw [dn_T hd rfl rfl rfl]
  show mx_F (den sc) d M g (mx_ab (mx_av sc g a) i fun _ f => mx_nx (pc + 1) ls (.int (f i.toNatClampNeg) :: r) g) = _
  unfold mx_ab
  split
  · split
    · exact mx_F_nx rfl
    · rfl
  · rfl
theorem dn_lald {a : Nat} {i : Int32} (hd : decode M.2.2.1 pc = .ok (.laload, 1)) : den sc d M pc ls (.int i :: .ref a :: r) g = mx_al (g.1 a) i (fun _ f => den sc d M (pc + 1) ls (.long (f i.toNatClampNeg) :: r) g) := by
  rw [dn_T hd rfl rfl rfl]
  show mx_F (den sc) d M g (mx_al (g.1 a) i fun _ f => mx_nx (pc + 1) ls (.long (f i.toNatClampNeg) :: r) g) = _
  unfold mx_al
  split
  · split
    · exact mx_F_nx rfl
    · rfl
  · rfl
theorem dn_aald {a : Nat} {i : Int32} (hd : decode M.2.2.1 pc = .ok (.aaload, 1)) : den sc d M pc ls (.int i :: .ref a :: r) g = mx_ar (g.1 a) i (fun _ _ f => den sc d M (pc + 1) ls (va_rf (f i.toNatClampNeg) :: r) g) := by
  rw [dn_T hd rfl rfl rfl]
  show mx_F (den sc) d M g (mx_ar (g.1 a) i fun _ _ f => mx_nx (pc + 1) ls (va_rf (f i.toNatClampNeg) :: r) g) = _
  unfold mx_ar
  split
  · split
    · exact mx_F_nx rfl
    · rfl
  · rfl
theorem dn_iast {a : Nat} {i : Int32} (hd : decode M.2.2.1 pc = .ok (.iastore, 1)) : den sc d M pc ls (.int x :: .int i :: .ref a :: r) g = mx_ai (g.1 a) i (fun n f => den sc d M (pc + 1) ls r (mx_up g a (.inl (.int, n, .inl (upd f i.toNatClampNeg x))))) := by
  rw [dn_T hd rfl rfl rfl]
  show mx_F (den sc) d M g (mx_ai (g.1 a) i fun n f => mx_nx (pc + 1) ls r (mx_up g a (.inl (.int, n, .inl (upd f i.toNatClampNeg x))))) = _
  unfold mx_ai
  split
  · split
    · exact mx_F_nx rfl
    · rfl
  · rfl
theorem dn_last {a : Nat} {i : Int32} {z : Int64} (hd : decode M.2.2.1 pc = .ok (.lastore, 1)) : den sc d M pc ls (.long z :: .int i :: .ref a :: r) g = mx_al (g.1 a) i (fun n f => den sc d M (pc + 1) ls r (mx_up g a (.inl (.long, n, .inr (.inl (vp_updL f i.toNatClampNeg z)))))) := by
  rw [dn_T hd rfl rfl rfl]
  show mx_F (den sc) d M g (mx_al (g.1 a) i fun n f => mx_nx (pc + 1) ls r (mx_up g a (.inl (.long, n, .inr (.inl (vp_updL f i.toNatClampNeg z)))))) = _
  unfold mx_al
  split
  · split
    · exact mx_F_nx rfl
    · rfl
  · rfl
theorem dn_aast {a b : Nat} {i : Int32} (hd : decode M.2.2.1 pc = .ok (.aastore, 1)) : den sc d M pc ls (.ref b :: .int i :: .ref a :: r) g = mx_ar (g.1 a) i (fun C n f => mx_ob (g.1 b) (fun ci => if mx_cast ci C then den sc d M (pc + 1) ls r (mx_up g a (.inl (.object C, n, .inr (.inr (.inr (.inr (va_up f i.toNatClampNeg (some b)))))))) else none)) := by
  rw [dn_T hd rfl rfl rfl]
  show mx_F (den sc) d M g (mx_ar (g.1 a) i fun C n f => mx_ob (g.1 b) fun ci => if mx_cast ci C then mx_nx (pc + 1) ls r (mx_up g a (.inl (.object C, n, .inr (.inr (.inr (.inr (va_up f i.toNatClampNeg (some b)))))))) else none) = _
  unfold mx_ar
  split
  · split
    · unfold mx_ob
      split
      · dsimp only
        split
        · exact mx_F_nx rfl
        · rfl
      · rfl
    · rfl
  · rfl
theorem dn_alen {a : Nat} (hd : decode M.2.2.1 pc = .ok (.arraylength, 1)) : den sc d M pc ls (.ref a :: r) g = mx_le (mx_av sc g a) (fun n => den sc d M (pc + 1) ls (.int (Int32.ofNat n) :: r) g) := by
  rw [dn_T hd rfl rfl rfl]
  show mx_F (den sc) d M g (mx_le (mx_av sc g a) fun n => mx_nx (pc + 1) ls (.int (Int32.ofNat n) :: r) g) = _
  unfold mx_le
  split
  · exact mx_F_nx rfl
  · rfl
theorem dn_irem (hd : decode M.2.2.1 pc = .ok (.irem, 1)) : den sc d M pc ls (.int y :: .int x :: r) g = if y = 0 then none else den sc d M (pc + 1) ls (.int (x - x / y * y) :: r) g := by
  rw [dn_T hd rfl rfl rfl]
  show mx_F (den sc) d M g (if y = 0 then none else mx_nx (pc + 1) ls (.int (x - x / y * y) :: r) g) = _
  split
  · rfl
  · exact mx_F_nx rfl
theorem dn_idiv (hd : decode M.2.2.1 pc = .ok (.idiv, 1)) : den sc d M pc ls (.int y :: .int x :: r) g = if y = 0 then none else den sc d M (pc + 1) ls (.int (x / y) :: r) g := by
  rw [dn_T hd rfl rfl rfl]
  show mx_F (den sc) d M g (if y = 0 then none else mx_nx (pc + 1) ls (.int (x / y) :: r) g) = _
  split
  · rfl
  · exact mx_F_nx rfl
theorem dn_min {n : Nat} (hd : decode M.2.2.1 pc = .ok (.invokestatic n, 3)) (hm : mx_mmn M.1 n = true) (hc : mx_call M.1 n 100 = none) : den sc d M pc ls (.int y :: .int x :: r) g = if r.length ≤ 4 then den sc d M (pc + 3) ls (.int (if y < x then y else x) :: r) g else none := by
  rw [dn_T hd rfl rfl (by simp only [mx_cl, hc])]
  have : mx_op sc M (.invokestatic n) pc ls (.int y :: .int x :: r) g = if r.length ≤ 4 then mx_nx (pc + 3) ls (.int (if y < x then y else x) :: r) g else none := by simp only [mx_op, hm, if_true, mx_sii]
  rw [this]
  split
  · exact mx_F_nx rfl
  · rfl
theorem dn_cpyi {k a b n0 n1 : Nat} {n dp sp : Int32} {f0 f1 : Nat → Int32} (hd : decode M.2.2.1 pc = .ok (.invokestatic k, 3)) (hm : mx_mmn M.1 k = false) (ha : mx_acp M.1 k = true) (hc : mx_call M.1 k 100 = none) (hr : r.length ≤ 4) (h1 : ¬ n < 0) (h2 : ¬ dp < 0) (h3 : ¬ sp < 0) (hb : g.1 b = some (.inl (.int, n0, .inl f0))) (hg : g.1 a = some (.inl (.int, n1, .inl f1))) (h4 : sp.toNatClampNeg + n.toNatClampNeg ≤ n0) (h5 : dp.toNatClampNeg + n.toNatClampNeg ≤ n1) : den sc d M pc ls (.int n :: .int dp :: .ref a :: .int sp :: .ref b :: r) g = den sc d M (pc + 3) ls r (mx_up g a (.inl (.int, n1, .inl (va_cpy f0 f1 sp.toNatClampNeg dp.toNatClampNeg n.toNatClampNeg)))) := by
  refine dn_next hd rfl rfl (by simp only [mx_cl, hc]) ?_ rfl
  simp only [mx_op, hm, ha, mx_s5, hr, h1, h2, h3, hb, hg, mx_cpi, h4, h5, not_false_eq_true, and_self, if_true]
  rfl
theorem dn_cpyl {k a b n0 n1 : Nat} {n dp sp : Int32} {f0 f1 : Nat → Int64} (hd : decode M.2.2.1 pc = .ok (.invokestatic k, 3)) (hm : mx_mmn M.1 k = false) (ha : mx_acp M.1 k = true) (hc : mx_call M.1 k 100 = none) (hr : r.length ≤ 4) (h1 : ¬ n < 0) (h2 : ¬ dp < 0) (h3 : ¬ sp < 0) (hb : g.1 b = some (.inl (.long, n0, .inr (.inl f0)))) (hg : g.1 a = some (.inl (.long, n1, .inr (.inl f1)))) (h4 : sp.toNatClampNeg + n.toNatClampNeg ≤ n0) (h5 : dp.toNatClampNeg + n.toNatClampNeg ≤ n1) : den sc d M pc ls (.int n :: .int dp :: .ref a :: .int sp :: .ref b :: r) g = den sc d M (pc + 3) ls r (mx_up g a (.inl (.long, n1, .inr (.inl (va_cpy f0 f1 sp.toNatClampNeg dp.toNatClampNeg n.toNatClampNeg))))) := by
  refine dn_next hd rfl rfl (by simp only [mx_cl, hc]) ?_ rfl
  simp only [mx_op, hm, ha, mx_s5, hr, h1, h2, h3, hb, hg, mx_cpi, h4, h5, not_false_eq_true, and_self, if_true]
  rfl
theorem dn_obj {k a : Nat} (hd : decode M.2.2.1 pc = .ok (.invokespecial k, 3)) (ho : mx_oin M.1 k = true) (hc : mx_call M.1 k 100 = none) : den sc d M pc ls (.ref a :: r) g = if r.length ≤ 4 ∧ a < 1000 then den sc d M (pc + 3) ls r g else none := by
  rw [dn_T hd rfl rfl (by simp only [mx_cl, hc])]
  have : mx_op sc M (.invokespecial k) pc ls (.ref a :: r) g = if r.length ≤ 4 ∧ a < 1000 then mx_nx (pc + 3) ls r g else none := by simp only [mx_op, ho, if_true, mx_sr]
  rw [this]
  split
  · exact mx_F_nx rfl
  · rfl
theorem mx_F_nw {f : Nat → mx_M → Nat → mx_L → List Value → mx_G → Option mx_R} {pc' : Nat} {ls' : mx_L} {st' : List Value} {c : mx_C} {n : Nat} : mx_F f d M g (mx_nx pc' ls' st' (mx_nw g c n)) = f d M pc' ls' st' (mx_nw g c n) := by
  unfold mx_F mx_nx
  dsimp only
  rw [if_pos ⟨Nat.le_succ _, Nat.le_add_right _ _⟩]
theorem dn_new {k ci : Nat} (hd : decode M.2.2.1 pc = .ok (.new k, 3)) (hc : mx_ncl M.1 k = some ci) : den sc d M pc ls st g = if g.2.1 < 900 then den sc d M (pc + 3) ls (.ref g.2.1 :: st) (mx_nw g (.inr (ci, mx_dfl ci)) (mx_dfl ci).length) else none := by
  rw [dn_T hd rfl rfl rfl]
  have : mx_op sc M (.new k) pc ls st g = if g.2.1 < 900 then mx_nx (pc + 3) ls (.ref g.2.1 :: st) (mx_nw g (.inr (ci, mx_dfl ci)) (mx_dfl ci).length) else none := by simp only [mx_op, hc]
  rw [this]
  split
  · exact mx_F_nw
  · rfl
theorem dn_newi (hd : decode M.2.2.1 pc = .ok (.newarray .int, 2)) : den sc d M pc ls (.int x :: r) g = if ¬ x < 0 ∧ x.toNatClampNeg ≤ 1000 ∧ g.2.1 < 900 then den sc d M (pc + 2) ls (.ref g.2.1 :: r) (mx_nw g (.inl (.int, x.toNatClampNeg, .inl (fun _ => 0))) x.toNatClampNeg) else none := by
  rw [dn_T hd rfl rfl rfl]
  show mx_F (den sc) d M g (if ¬ x < 0 ∧ x.toNatClampNeg ≤ 1000 ∧ g.2.1 < 900 then mx_nx (pc + 2) ls (.ref g.2.1 :: r) (mx_nw g (.inl (.int, x.toNatClampNeg, .inl (fun _ => 0))) x.toNatClampNeg) else none) = _
  split
  · exact mx_F_nw
  · rfl
theorem dn_newl (hd : decode M.2.2.1 pc = .ok (.newarray .long, 2)) : den sc d M pc ls (.int x :: r) g = if ¬ x < 0 ∧ x.toNatClampNeg ≤ 1000 ∧ g.2.1 < 900 then den sc d M (pc + 2) ls (.ref g.2.1 :: r) (mx_nw g (.inl (.long, x.toNatClampNeg, .inr (.inl (fun _ => 0)))) x.toNatClampNeg) else none := by
  rw [dn_T hd rfl rfl rfl]
  show mx_F (den sc) d M g (if ¬ x < 0 ∧ x.toNatClampNeg ≤ 1000 ∧ g.2.1 < 900 then mx_nx (pc + 2) ls (.ref g.2.1 :: r) (mx_nw g (.inl (.long, x.toNatClampNeg, .inr (.inl (fun _ => 0)))) x.toNatClampNeg) else none) = _
  split
  · exact mx_F_nw
  · rfl
theorem dn_newq {k : Nat} {C : String} (hd : decode M.2.2.1 pc = .ok (.anewarray k, 3)) (hc : mx_acl M.1 k = some C) : den sc d M pc ls (.int x :: r) g = if ¬ x < 0 ∧ x.toNatClampNeg ≤ 1000 ∧ g.2.1 < 900 then den sc d M (pc + 3) ls (.ref g.2.1 :: r) (mx_nw g (.inl (.object C, x.toNatClampNeg, .inr (.inr (.inr (.inr (fun _ => none)))))) x.toNatClampNeg) else none := by
  rw [dn_T hd rfl rfl rfl]
  have : mx_op sc M (.anewarray k) pc ls (.int x :: r) g = if ¬ x < 0 ∧ x.toNatClampNeg ≤ 1000 ∧ g.2.1 < 900 then mx_nx (pc + 3) ls (.ref g.2.1 :: r) (mx_nw g (.inl (.object C, x.toNatClampNeg, .inr (.inr (.inr (.inr (fun _ => none)))))) x.toNatClampNeg) else none := by simp only [mx_op, mx_si, hc]
  rw [this]
  split
  · exact mx_F_nw
  · rfl
end Den
