/-! THE MINI MACHINE: a function over a heap of numbered cells that does what the bytecode does; a later part shows that what it computes is what the real machine comes to. -/
def mx_up (g : mx_G) (k : Nat) (c : mx_C) : mx_G := (va_up g.1 k (some c), g.2)
def mx_nw (g : mx_G) (c : mx_C) (n : Nat) : mx_G := (va_up g.1 g.2.1 (some c), g.2.1 + 1, g.2.2 + n)
def mx_nx (pc : Nat) (ls : mx_L) (st : List Value) (g : mx_G) : mx_S := some (pc, ls, st, g)
def mx_ld (ls : mx_L) (k : Nat) : Option Value := match ls[k]? with
  | some (some v) => some v
  | _ => none
def mx_two : Option (Option Value) → Bool
  | some (some (.long _)) => true
  | some (some (.double _)) => true
  | _ => false
def mx_st1 (ls : mx_L) (k : Nat) (v : Value) : mx_L := if mx_two ls[k - 1]? then (ls.set (k - 1) none).set k (some v) else ls.set k (some v)
def mx_st2 (ls : mx_L) (k : Nat) (v : Value) : mx_L := ((if mx_two ls[k - 1]? then ls.set (k - 1) none else ls).set k (some v)).set (k + 1) none
def mx_in (i : Int32) (n : Nat) : Bool := !(decide (i < 0) || decide (n ≤ i.toNatClampNeg))
theorem mx_in_iff {i : Int32} {n : Nat} : mx_in i n = true ↔ vp_in i n := by
  unfold mx_in vp_in
  simp
section Ops
variable {α : Type}
def mx_i (v : Option Value) (K : Int32 → Option α) : Option α := match v with
  | some (.int x) => K x
  | _ => none
def mx_j (v : Option Value) (K : Int64 → Option α) : Option α := match v with
  | some (.long x) => K x
  | _ => none
/-- a reference or null -/
def mx_a (v : Option Value) (K : Value → Option α) : Option α := match v with
  | some (.ref a) => K (.ref a)
  | some .null => K .null
  | _ => none
def mx_s1 (st : List Value) (K : Value → List Value → Option α) : Option α := match st with
  | .int x :: r => K (.int x) r
  | .ref x :: r => K (.ref x) r
  | .null :: r => K .null r
  | _ => none
def mx_s2 (st : List Value) (K : Int32 → Nat → List Value → Option α) : Option α := match st with
  | .int x :: .ref a :: r => K x a r
  | _ => none
def mx_si (st : List Value) (K : Int32 → List Value → Option α) : Option α := match st with
  | .int x :: r => K x r
  | _ => none
def mx_sii (st : List Value) (K : Int32 → Int32 → List Value → Option α) : Option α := match st with
  | .int y :: .int x :: r => K x y r
  | _ => none
def mx_sj (st : List Value) (K : Int64 → List Value → Option α) : Option α := match st with
  | .long x :: r => K x r
  | _ => none
def mx_sjj (st : List Value) (K : Int64 → Int64 → List Value → Option α) : Option α := match st with
  | .long y :: .long x :: r => K x y r
  | _ => none
def mx_sij (st : List Value) (K : Int32 → Int64 → List Value → Option α) : Option α := match st with
  | .int y :: .long x :: r => K y x r
  | _ => none
def mx_sr (st : List Value) (K : Nat → List Value → Option α) : Option α := match st with
  | .ref a :: r => K a r
  | _ => none
def mx_siir (st : List Value) (K : Int32 → Int32 → Nat → List Value → Option α) : Option α := match st with
  | .int x :: .int i :: .ref a :: r => K x i a r
  | _ => none
def mx_sjir (st : List Value) (K : Int64 → Int32 → Nat → List Value → Option α) : Option α := match st with
  | .long x :: .int i :: .ref a :: r => K x i a r
  | _ => none
def mx_srir (st : List Value) (K : Nat → Int32 → Nat → List Value → Option α) : Option α := match st with
  | .ref x :: .int i :: .ref a :: r => K x i a r
  | _ => none
/-- a value over a reference -/
def mx_svr (st : List Value) (K : Value → Nat → List Value → Option α) : Option α := match st with
  | v :: .ref a :: r => K v a r
  | _ => none
/-- the five arguments of arraycopy -/
def mx_s5 (st : List Value) (K : Int32 → Int32 → Nat → Int32 → Nat → List Value → Option α) : Option α := match st with
  | .int n :: .int dp :: .ref a :: .int sp :: .ref b :: r => K n dp a sp b r
  | _ => none
/-- an object's field -/
def mx_gf (c : Option mx_C) (ci k : Nat) (K : Value → Option α) : Option α := match c with
  | some (.inr (cj, fs)) => if cj = ci then (match fs[k]? with
    | some v => K v
    | none => none) else none
  | _ => none
def mx_pf (c : Option mx_C) (ci k : Nat) (K : List Value → Option α) : Option α := match c with
  | some (.inr (cj, fs)) => if cj = ci ∧ k < fs.length then K fs else none
  | _ => none
/-- arrays: of ints, of bytes, of longs, of references -/
def mx_ai (c : Option mx_C) (i : Int32) (K : Nat → (Nat → Int32) → Option α) : Option α := match c with
  | some (.inl (.int, n, .inl f)) => if mx_in i n then K n f else none
  | _ => none
def mx_ab (c : Option mx_C) (i : Int32) (K : Nat → (Nat → Int32) → Option α) : Option α := match c with
  | some (.inl (.byte, n, .inl f)) => if mx_in i n then K n f else none
  | _ => none
def mx_al (c : Option mx_C) (i : Int32) (K : Nat → (Nat → Int64) → Option α) : Option α := match c with
  | some (.inl (.long, n, .inr (.inl f))) => if mx_in i n then K n f else none
  | _ => none
def mx_ar (c : Option mx_C) (i : Int32) (K : String → Nat → (Nat → Option Nat) → Option α) : Option α := match c with
  | some (.inl (.object C, n, .inr (.inr (.inr (.inr f))))) => if mx_in i n then K C n f else none
  | _ => none
def mx_le (c : Option mx_C) (K : Nat → Option α) : Option α := match c with
  | some (.inl (_, n, _)) => K n
  | _ => none
/-- an object of which class -/
def mx_ob (c : Option mx_C) (K : Nat → Option α) : Option α := match c with
  | some (.inr (ci, _)) => K ci
  | _ => none
def mx_cpi (c0 c1 : Option mx_C) (K : Nat → (Nat → Int32) → Nat → (Nat → Int32) → Option α) (J : Nat → (Nat → Int64) → Nat → (Nat → Int64) → Option α) : Option α := match c0, c1 with
  | some (.inl (.int, n, .inl f)), some (.inl (.int, n1, .inl f1)) => K n f n1 f1
  | some (.inl (.long, n, .inr (.inl f))), some (.inl (.long, n1, .inr (.inl f1))) => J n f n1 f1
  | _, _ => none
end Ops
/-- an array: of the world, or one outside that nobody writes -/
def mx_av (sc : mx_X) (g : mx_G) (a : Nat) : Option mx_C := match g.1 a with
  | some c => some c
  | none => mx_xa sc a
def mx_tg (pc : Nat) (off : Int) : Nat := ((pc : Int) + off).toNat
/-- the target is a place -/
def mx_go (pc : Nat) (off : Int) (ls : mx_L) (st : List Value) (g : mx_G) : mx_S := if 0 ≤ (pc : Int) + off then mx_nx (mx_tg pc off) ls st g else none
def mx_cd (c : Jvm.ClassFile.Cond) (x y : Int32) : Bool := match c with
  | .eq => decide (x = y)
  | .ne => !decide (x = y)
  | .lt => decide (x < y)
  | .ge => decide (y ≤ x)
  | .gt => decide (y < x)
  | .le => decide (x ≤ y)
def mx_br (b : Bool) (pc : Nat) (off : Int) (ls : mx_L) (st : List Value) (g : mx_G) : mx_S := if 0 ≤ (pc : Int) + off then (if b then mx_nx (mx_tg pc off) ls st g else mx_nx (pc + 3) ls st g) else none
/-- a call: method, arguments, what is left of the stack -/
def mx_inv (n : Nat) (M : mx_M) (st : List Value) : Option (mx_M × List Value × List Value) := if n ≤ st.length ∧ (st.drop n).length ≤ 4 then some (M, (st.take n).reverse, st.drop n) else none
def mx_op (sc : mx_X) (M : mx_M) (i : Instr) (pc : Nat) (ls : mx_L) (st : List Value) (g : mx_G) : mx_S := match i with
  | .iconst n => mx_nx (pc + 1) ls (.int (Int32.ofInt n) :: st) g
  | .bipush n => mx_nx (pc + 2) ls (.int (Int8.ofInt n).toInt32 :: st) g
  | .sipush n => mx_nx (pc + 3) ls (.int (Int16.ofInt n).toInt32 :: st) g
  | .lconst n => mx_nx (pc + 1) ls (.long (Int64.ofNat (n : Nat)) :: st) g
  | .ldc k => match mx_ldc M.1 k with
    | some (.int v) => mx_nx (pc + 2) ls (.int v :: st) g
    | some (.ref v) => mx_nx (pc + 2) ls (.ref v :: st) g
    | _ => none
  | .ldc_w k => match mx_ldc M.1 k with
    | some (.int v) => mx_nx (pc + 3) ls (.int v :: st) g
    | _ => none
  | .ldc2_w k => match mx_ldc M.1 k with
    | some (.long v) => mx_nx (pc + 3) ls (.long v :: st) g
    | _ => none
  | .iload_n k => mx_i (mx_ld ls k) fun x => mx_nx (pc + 1) ls (.int x :: st) g
  | .iload k => mx_i (mx_ld ls k) fun x => mx_nx (pc + 2) ls (.int x :: st) g
  | .lload_n k => mx_j (mx_ld ls k) fun x => mx_nx (pc + 1) ls (.long x :: st) g
  | .lload k => mx_j (mx_ld ls k) fun x => mx_nx (pc + 2) ls (.long x :: st) g
  | .aload_n k => mx_a (mx_ld ls k) fun v => mx_nx (pc + 1) ls (v :: st) g
  | .aload k => mx_a (mx_ld ls k) fun v => mx_nx (pc + 2) ls (v :: st) g
  | .istore_n k => mx_si st fun x r => if (k : Nat) < ls.length then mx_nx (pc + 1) (mx_st1 ls k (.int x)) r g else none
  | .istore k => mx_si st fun x r => if k < ls.length then mx_nx (pc + 2) (mx_st1 ls k (.int x)) r g else none
  | .lstore k => mx_sj st fun x r => if k + 1 < ls.length then mx_nx (pc + 2) (mx_st2 ls k (.long x)) r g else none
  | .astore_n k => mx_sr st fun a r => if (k : Nat) < ls.length then mx_nx (pc + 1) (mx_st1 ls k (.ref a)) r g else none
  | .iinc k n => mx_i (mx_ld ls k) fun x => mx_nx (pc + 3) (mx_st1 ls k (.int (x + Int32.ofInt n))) st g
  | .iadd => mx_sii st fun x y r => mx_nx (pc + 1) ls (.int (x + y) :: r) g
  | .isub => mx_sii st fun x y r => mx_nx (pc + 1) ls (.int (x - y) :: r) g
  | .imul => mx_sii st fun x y r => mx_nx (pc + 1) ls (.int (x * y) :: r) g
  | .idiv => mx_sii st fun x y r => if y = 0 then none else mx_nx (pc + 1) ls (.int (x / y) :: r) g
  | .irem => mx_sii st fun x y r => if y = 0 then none else mx_nx (pc + 1) ls (.int (x - x / y * y) :: r) g
  | .iand => mx_sii st fun x y r => mx_nx (pc + 1) ls (.int (x &&& y) :: r) g
  | .ior => mx_sii st fun x y r => mx_nx (pc + 1) ls (.int (x ||| y) :: r) g
  | .ixor => mx_sii st fun x y r => mx_nx (pc + 1) ls (.int (x ^^^ y) :: r) g
  | .ishl => mx_sii st fun x y r => mx_nx (pc + 1) ls (.int (x <<< (y &&& 31)) :: r) g
  | .ishr => mx_sii st fun x y r => mx_nx (pc + 1) ls (.int (x >>> (y &&& 31)) :: r) g
  | .iushr => mx_sii st fun x y r => mx_nx (pc + 1) ls (.int (x.toUInt32 >>> (y.toUInt32 &&& Int32.toUInt32 31)).toInt32 :: r) g
  | .ladd => mx_sjj st fun x y r => mx_nx (pc + 1) ls (.long (x + y) :: r) g
  | .lsub => mx_sjj st fun x y r => mx_nx (pc + 1) ls (.long (x - y) :: r) g
  | .lmul => mx_sjj st fun x y r => mx_nx (pc + 1) ls (.long (x * y) :: r) g
  | .land => mx_sjj st fun x y r => mx_nx (pc + 1) ls (.long (x &&& y) :: r) g
  | .lor => mx_sjj st fun x y r => mx_nx (pc + 1) ls (.long (x ||| y) :: r) g
  | .lshl => mx_sij st fun y x r => mx_nx (pc + 1) ls (.long (x <<< (y.toInt64 &&& 63)) :: r) g
  | .lshr => mx_sij st fun y x r => mx_nx (pc + 1) ls (.long (x >>> (y.toInt64 &&& 63)) :: r) g
  | .lcmp => mx_sjj st fun x y r => mx_nx (pc + 1) ls (.int (lg_cmp x y) :: r) g
  | .i2l => mx_si st fun x r => mx_nx (pc + 1) ls (.long x.toInt64 :: r) g
  | .l2i => mx_sj st fun x r => mx_nx (pc + 1) ls (.int x.toInt32 :: r) g
  | .i2b => mx_si st fun x r => mx_nx (pc + 1) ls (.int x.toInt8.toInt32 :: r) g
  | .i2s => mx_si st fun x r => mx_nx (pc + 1) ls (.int x.toInt16.toInt32 :: r) g
  | .i2c => mx_si st fun x r => mx_nx (pc + 1) ls (.int (x.toUInt32 % 65536).toInt32 :: r) g
  | .dup => mx_s1 st fun v r => mx_nx (pc + 1) ls (v :: v :: r) g
  | .dup2 => mx_s2 st fun x a r => mx_nx (pc + 1) ls (.int x :: .ref a :: .int x :: .ref a :: r) g
  | .pop => mx_s1 st fun _ r => mx_nx (pc + 1) ls r g
  | .goto off => mx_go pc off ls st g
  | .ifCond c off => mx_si st fun x r => mx_br (mx_cd c x 0) pc off ls r g
  | .if_icmp c off => mx_sii st fun x y r => mx_br (mx_cd c x y) pc off ls r g
  | .tableswitch d lo hi offs => mx_si st fun x r => if x.toInt < lo ∨ hi < x.toInt then mx_go pc d ls r g else (match offs[(x.toInt - lo).toNat]? with
    | some off => mx_go pc off ls r g
    | none => none)
  | .getfield k => mx_sr st fun a r => match mx_fld M.1 k with
    | some (ci, j, _) => mx_gf (g.1 a) ci j fun v => mx_nx (pc + 3) ls (v :: r) g
    | none => (match mx_xf M.1 k a with
      | some v => mx_nx (pc + 3) ls (v :: r) g
      | none => none)
  | .putfield k => mx_svr st fun v a r => match mx_fld M.1 k with
    | some (ci, j, nest) => mx_pf (g.1 a) ci j fun fs => if mx_fit M ci j v && !(nest && mx_ffin ci j) then mx_nx (pc + 3) ls r (mx_up g a (.inr (ci, fs.set j v))) else none
    | none => none
  | .getstatic k => match mx_gs M.1 k with
    | some v => mx_nx (pc + 3) ls (v :: st) g
    | none => none
  | .iaload => mx_s2 st fun i a r => mx_ai (mx_av sc g a) i fun _ f => mx_nx (pc + 1) ls (.int (f i.toNatClampNeg) :: r) g
  | .baload => mx_s2 st fun i a r => mx_ab (mx_av sc g a) i fun _ f => mx_nx (pc + 1) ls (.int (f i.toNatClampNeg) :: r) g
  | .laload => mx_s2 st fun i a r => mx_al (g.1 a) i fun _ f => mx_nx (pc + 1) ls (.long (f i.toNatClampNeg) :: r) g
  | .aaload => mx_s2 st fun i a r => mx_ar (g.1 a) i fun _ _ f => mx_nx (pc + 1) ls (va_rf (f i.toNatClampNeg) :: r) g
  | .iastore => mx_siir st fun x i a r => mx_ai (g.1 a) i fun n f => mx_nx (pc + 1) ls r (mx_up g a (.inl (.int, n, .inl (upd f i.toNatClampNeg x))))
  | .lastore => mx_sjir st fun x i a r => mx_al (g.1 a) i fun n f => mx_nx (pc + 1) ls r (mx_up g a (.inl (.long, n, .inr (.inl (vp_updL f i.toNatClampNeg x)))))
  | .aastore => mx_srir st fun x i a r => mx_ar (g.1 a) i fun C n f => mx_ob (g.1 x) fun ci => if mx_cast ci C then mx_nx (pc + 1) ls r (mx_up g a (.inl (.object C, n, .inr (.inr (.inr (.inr (va_up f i.toNatClampNeg (some x)))))))) else none
  | .arraylength => mx_sr st fun a r => mx_le (mx_av sc g a) fun n => mx_nx (pc + 1) ls (.int (Int32.ofNat n) :: r) g
  | .newarray .int => mx_si st fun n r => if ¬ n < 0 ∧ n.toNatClampNeg ≤ 1000 ∧ g.2.1 < 900 then mx_nx (pc + 2) ls (.ref g.2.1 :: r) (mx_nw g (.inl (.int, n.toNatClampNeg, .inl (fun _ => 0))) n.toNatClampNeg) else none
  | .newarray .long => mx_si st fun n r => if ¬ n < 0 ∧ n.toNatClampNeg ≤ 1000 ∧ g.2.1 < 900 then mx_nx (pc + 2) ls (.ref g.2.1 :: r) (mx_nw g (.inl (.long, n.toNatClampNeg, .inr (.inl (fun _ => 0)))) n.toNatClampNeg) else none
  | .anewarray k => mx_si st fun n r => match mx_acl M.1 k with
    | some C => if ¬ n < 0 ∧ n.toNatClampNeg ≤ 1000 ∧ g.2.1 < 900 then mx_nx (pc + 3) ls (.ref g.2.1 :: r) (mx_nw g (.inl (.object C, n.toNatClampNeg, .inr (.inr (.inr (.inr (fun _ => none)))))) n.toNatClampNeg) else none
    | none => none
  | .new k => match mx_ncl M.1 k with
    | some ci => if g.2.1 < 900 then mx_nx (pc + 3) ls (.ref g.2.1 :: st) (mx_nw g (.inr (ci, mx_dfl ci)) (mx_dfl ci).length) else none
    | none => none
  | .invokestatic k => if mx_mmn M.1 k then mx_sii st (fun x y r => if r.length ≤ 4 then mx_nx (pc + 3) ls (.int (if y < x then y else x) :: r) g else none) else if mx_acp M.1 k then mx_s5 st (fun n dp a sp b r => if r.length ≤ 4 ∧ ¬ n < 0 ∧ ¬ dp < 0 ∧ ¬ sp < 0 then mx_cpi (g.1 b) (g.1 a)
      (fun n0 f0 n1 f1 => if sp.toNatClampNeg + n.toNatClampNeg ≤ n0 ∧ dp.toNatClampNeg + n.toNatClampNeg ≤ n1 then mx_nx (pc + 3) ls r (mx_up g a (.inl (.int, n1, .inl (va_cpy f0 f1 sp.toNatClampNeg dp.toNatClampNeg n.toNatClampNeg)))) else none)
      (fun n0 f0 n1 f1 => if sp.toNatClampNeg + n.toNatClampNeg ≤ n0 ∧ dp.toNatClampNeg + n.toNatClampNeg ≤ n1 then mx_nx (pc + 3) ls r (mx_up g a (.inl (.long, n1, .inr (.inl (va_cpy f0 f1 sp.toNatClampNeg dp.toNatClampNeg n.toNatClampNeg))))) else none) else none)
    else none
  | .invokespecial k => if mx_oin M.1 k then mx_sr st (fun a r => if r.length ≤ 4 ∧ a < 1000 then mx_nx (pc + 3) ls r g else none) else none
  | _ => none
/-- an instruction that calls -/
def mx_cl (M : mx_M) (i : Instr) (st : List Value) (g : mx_G) : Option (mx_M × List Value × List Value) := match i with
  | .invokestatic k => (match mx_call M.1 k 100 with
    | some (kind, n, M') => if kind ≤ 1 then mx_inv n M' st else none
    | none => none)
  | .invokespecial k => (match mx_call M.1 k 100 with
    | some (kind, n, M') => if 4 ≤ kind ∧ kind ≠ 8 then (match st[n]? with
      | some (.ref a) => mx_ob (g.1 a) fun _ => mx_inv (n + 1) M' st
      | _ => none) else none
    | none => none)
  | .invokevirtual k => (match st[mx_na M.1 k]? with
    | some (.ref a) => (match mx_rc g a with
      | some rc => (match mx_call M.1 k rc with
        | some (kind, n, M') => if (kind = 2 ∨ kind = 8) ∧ n = mx_na M.1 k then mx_inv (n + 1) M' st else none
        | none => none)
      | none => none)
    | _ => none)
  | _ => none
/-- an instruction that ends the method: with which answer -/
def mx_rt (M : mx_M) (i : Instr) (st : List Value) : Option (Option Value) := match i with
  | .ireturn => (match st with
    | [.int x] => (match M.2.2.2.2 with
      | some ty => if narrow ty (.int x) = .int x then some (some (.int x)) else none
      | none => none)
    | _ => none)
  | .lreturn => (match st with
    | [.long x] => if M.2.2.2.2 = some .long then some (some (.long x)) else none
    | _ => none)
  | .areturn => (match st with
    | [.ref x] => if M.2.2.2.2 = some (.object "java/lang/String") then some (some (.ref x)) else none
    | _ => none)
  | .return_ => (match st with
    | [] => if M.2.2.2.2 = none then some none else none
    | _ => none)
  | _ => none
def mx_ln (i : Instr) (n : Nat) : Bool := match i with
  | .bipush _ => n == 2
  | .sipush _ => n == 3
  | .ldc _ => n == 2
  | .ldc_w _ => n == 3
  | .ldc2_w _ => n == 3
  | .iload _ => n == 2
  | .lload _ => n == 2
  | .aload _ => n == 2
  | .istore _ => n == 2
  | .lstore _ => n == 2
  | .iinc _ _ => n == 3
  | .goto _ => n == 3
  | .ifCond _ _ => n == 3
  | .if_icmp _ _ => n == 3
  | .tableswitch _ _ _ _ => true
  | .getfield _ => n == 3
  | .putfield _ => n == 3
  | .getstatic _ => n == 3
  | .newarray _ => n == 2
  | .anewarray _ => n == 3
  | .new _ => n == 3
  | .invokestatic _ => n == 3
  | .invokespecial _ => n == 3
  | .invokevirtual _ => n == 3
  | _ => n == 1
/-- a method's first locals -/
def mx_slots : List Value → mx_L
  | [] => []
  | .long x :: r => some (.long x) :: none :: mx_slots r
  | .double x :: r => some (.double x) :: none :: mx_slots r
  | v :: r => some v :: mx_slots r
def mx_en (M : mx_M) (as : List Value) : mx_L := mx_slots as ++ List.replicate (M.2.2.2.1 - (mx_slots as).length) none
def mx_ok (M : mx_M) (as : List Value) : Bool := (mx_slots as).length ≤ M.2.2.2.1
/-- what comes of an instruction, by what comes of the rest -/
def mx_F (f : Nat → mx_M → Nat → mx_L → List Value → mx_G → Option mx_R) (d : Nat) (M : mx_M) (g : mx_G) (x : mx_S) : Option mx_R := match x with
  | none => none
  | some (pc', ls', st', g') => if g.2.1 ≤ g'.2.1 ∧ g.2.2 ≤ g'.2.2 then f d M pc' ls' st' g' else none
def mx_K (f : Nat → mx_M → Nat → mx_L → List Value → mx_G → Option mx_R) (d : Nat) (M : mx_M) (pc : Nat) (ls : mx_L) (g : mx_G) (x : mx_M × List Value × List Value) : Option mx_R := match d with
  | 0 => none
  | d' + 1 => if mx_ok x.1 x.2.1 then (match f d' x.1 0 (mx_en x.1 x.2.1) [] g with
    | none => none
    | some r => f (d' + 1) M (pc + 3) ls (r.1.toList ++ x.2.2) r.2) else none
def mx_T (sc : mx_X) (f : Nat → mx_M → Nat → mx_L → List Value → mx_G → Option mx_R) (d : Nat) (M : mx_M) (pc : Nat) (ls : mx_L) (st : List Value) (g : mx_G) : Option mx_R := match decode M.2.2.1 pc with
  | .ok (i, n) => if mx_ln i n then (match mx_rt M i st with
    | some v => some (v, g)
    | none => (match mx_cl M i st g with
      | some x => mx_K f d M pc ls g x
      | none => mx_F f d M g (mx_op sc M i pc ls st g))) else none
  | .error _ => none
def mx_run (sc : mx_X) : Nat → Nat → mx_M → Nat → mx_L → List Value → mx_G → Option mx_R
  | 0 => fun _ _ _ _ _ _ => none
  | n + 1 => fun d M pc ls st g => mx_T sc (mx_run sc n) d M pc ls st g
