/-! EQUATIONS OF den, the method's code and class by equations (so that no code is compared) -/
def mx_fv (ty : FieldType) (v : Value) : Bool := match ty, v with
  | .int, .int _ => true
  | .long, .long _ => true
  | .boolean, .int x => x == 0 || x == 1
  | .array _, .ref _ => true
  | .object _, .ref _ => true
  | _, _ => false
theorem mx_fit_eq {M : mx_M} {ci j : Nat} {v : Value} : mx_fit M ci j v = (mx_fv (mx_fty ci j) v && (!mx_ffin ci j || (M.2.1.name == "<init>" && M.1 == ci))) := by
  unfold mx_fit mx_fv
  cases mx_fty ci j <;> cases v <;> rfl
section DenB
variable {sc : mx_X} {d : Nat} {M : mx_M} {cc : ByteArray} {cn : Nat} {pc : Nat} {ls : mx_L} {st r : List Value} {g : mx_G} {x y : Int32} {z x2 y2 : Int64} {a b : Nat} {i : Int32}
theorem eb_iconst (hM : M.2.2.1 = cc) {n : Int} {v : Int32} (hx : Int32.ofInt n = v) (hd : decode cc pc = .ok (.iconst n, 1)) : den sc d M pc ls (r) g = den sc d M (pc + 1) ls (.int v :: r) g := by
  subst hM
  exact dn_next hd rfl rfl rfl (by simp only [mx_op, hx, mx_i, mx_j, mx_a, mx_si, mx_sj, mx_sr, if_true]) rfl
theorem eb_bipush (hM : M.2.2.1 = cc) {n : Int} {v : Int32} (hx : (Int8.ofInt n).toInt32 = v) (hd : decode cc pc = .ok (.bipush n, 2)) : den sc d M pc ls (r) g = den sc d M (pc + 2) ls (.int v :: r) g := by
  subst hM
  exact dn_next hd rfl rfl rfl (by simp only [mx_op, hx, mx_i, mx_j, mx_a, mx_si, mx_sj, mx_sr, if_true]) rfl
theorem eb_sipush (hM : M.2.2.1 = cc) {n : Int} {v : Int32} (hx : (Int16.ofInt n).toInt32 = v) (hd : decode cc pc = .ok (.sipush n, 3)) : den sc d M pc ls (r) g = den sc d M (pc + 3) ls (.int v :: r) g := by
  subst hM
  exact dn_next hd rfl rfl rfl (by simp only [mx_op, hx, mx_i, mx_j, mx_a, mx_si, mx_sj, mx_sr, if_true]) rfl
theorem eb_lconst (hM : M.2.2.1 = cc) {n : Fin 2} {v : Int64} (hx : Int64.ofNat (n : Nat) = v) (hd : decode cc pc = .ok (.lconst n, 1)) : den sc d M pc ls (r) g = den sc d M (pc + 1) ls (.long v :: r) g := by
  subst hM
  exact dn_next hd rfl rfl rfl (by simp only [mx_op, hx, mx_i, mx_j, mx_a, mx_si, mx_sj, mx_sr, if_true]) rfl
theorem eb_iload_n (hM : M.2.2.1 = cc) {n : Fin 4} (hx : mx_ld ls n = some (.int x)) (hd : decode cc pc = .ok (.iload_n n, 1)) : den sc d M pc ls (r) g = den sc d M (pc + 1) ls (.int x :: r) g := by
  subst hM
  exact dn_next hd rfl rfl rfl (by simp only [mx_op, hx, mx_i, mx_j, mx_a, mx_si, mx_sj, mx_sr, if_true]) rfl
theorem eb_iload (hM : M.2.2.1 = cc) {n : Nat} (hx : mx_ld ls n = some (.int x)) (hd : decode cc pc = .ok (.iload n, 2)) : den sc d M pc ls (r) g = den sc d M (pc + 2) ls (.int x :: r) g := by
  subst hM
  exact dn_next hd rfl rfl rfl (by simp only [mx_op, hx, mx_i, mx_j, mx_a, mx_si, mx_sj, mx_sr, if_true]) rfl
theorem eb_lload_n (hM : M.2.2.1 = cc) {n : Fin 4} (hx : mx_ld ls n = some (.long z)) (hd : decode cc pc = .ok (.lload_n n, 1)) : den sc d M pc ls (r) g = den sc d M (pc + 1) ls (.long z :: r) g := by
  subst hM
  exact dn_next hd rfl rfl rfl (by simp only [mx_op, hx, mx_i, mx_j, mx_a, mx_si, mx_sj, mx_sr, if_true]) rfl
theorem eb_lload (hM : M.2.2.1 = cc) {n : Nat} (hx : mx_ld ls n = some (.long z)) (hd : decode cc pc = .ok (.lload n, 2)) : den sc d M pc ls (r) g = den sc d M (pc + 2) ls (.long z :: r) g := by
  subst hM
  exact dn_next hd rfl rfl rfl (by simp only [mx_op, hx, mx_i, mx_j, mx_a, mx_si, mx_sj, mx_sr, if_true]) rfl
theorem eb_aload_n (hM : M.2.2.1 = cc) {n : Fin 4} (hx : mx_ld ls n = some (.ref a)) (hd : decode cc pc = .ok (.aload_n n, 1)) : den sc d M pc ls (r) g = den sc d M (pc + 1) ls (.ref a :: r) g := by
  subst hM
  exact dn_next hd rfl rfl rfl (by simp only [mx_op, hx, mx_i, mx_j, mx_a, mx_si, mx_sj, mx_sr, if_true]) rfl
theorem eb_aload (hM : M.2.2.1 = cc) {n : Nat} (hx : mx_ld ls n = some (.ref a)) (hd : decode cc pc = .ok (.aload n, 2)) : den sc d M pc ls (r) g = den sc d M (pc + 2) ls (.ref a :: r) g := by
  subst hM
  exact dn_next hd rfl rfl rfl (by simp only [mx_op, hx, mx_i, mx_j, mx_a, mx_si, mx_sj, mx_sr, if_true]) rfl
theorem eb_istore_n (hM : M.2.2.1 = cc) {n : Fin 4} {ls2 : mx_L} (hx : (n : Nat) < ls.length) (h2 : mx_st1 ls n (.int x) = ls2) (hd : decode cc pc = .ok (.istore_n n, 1)) : den sc d M pc ls (.int x :: r) g = den sc d M (pc + 1) ls2 r g := by
  subst hM; subst h2
  exact dn_next hd rfl rfl rfl (by simp only [mx_op, hx, mx_si, mx_sj, mx_sr, if_true]) rfl
theorem eb_istore (hM : M.2.2.1 = cc) {n : Nat} {ls2 : mx_L} (hx : (n : Nat) < ls.length) (h2 : mx_st1 ls n (.int x) = ls2) (hd : decode cc pc = .ok (.istore n, 2)) : den sc d M pc ls (.int x :: r) g = den sc d M (pc + 2) ls2 r g := by
  subst hM; subst h2
  exact dn_next hd rfl rfl rfl (by simp only [mx_op, hx, mx_si, mx_sj, mx_sr, if_true]) rfl
theorem eb_astore_n (hM : M.2.2.1 = cc) {n : Fin 4} {ls2 : mx_L} (hx : (n : Nat) < ls.length) (h2 : mx_st1 ls n (.ref a) = ls2) (hd : decode cc pc = .ok (.astore_n n, 1)) : den sc d M pc ls (.ref a :: r) g = den sc d M (pc + 1) ls2 r g := by
  subst hM; subst h2
  exact dn_next hd rfl rfl rfl (by simp only [mx_op, hx, mx_si, mx_sj, mx_sr, if_true]) rfl
theorem eb_lstore (hM : M.2.2.1 = cc) {n : Nat} {ls2 : mx_L} (hx : (n : Nat) + 1 < ls.length) (h2 : mx_st2 ls n (.long z) = ls2) (hd : decode cc pc = .ok (.lstore n, 2)) : den sc d M pc ls (.long z :: r) g = den sc d M (pc + 2) ls2 r g := by
  subst hM; subst h2
  exact dn_next hd rfl rfl rfl (by simp only [mx_op, hx, mx_si, mx_sj, mx_sr, if_true]) rfl
theorem eb_iinc (hM : M.2.2.1 = cc) {n : Nat} {k : Int} {v : Int32} {ls2 : mx_L} (hx : mx_ld ls n = some (.int x)) (hv : Int32.ofInt k = v) (h2 : mx_st1 ls n (.int (x + v)) = ls2) (hd : decode cc pc = .ok (.iinc n k, 3)) : den sc d M pc ls r g = den sc d M (pc + 3) ls2 r g := by
  subst hM; subst hv; subst h2
  exact dn_next hd rfl rfl rfl (by simp only [mx_op, hx, mx_i]) rfl
theorem eb_iadd (hM : M.2.2.1 = cc) (hd : decode cc pc = .ok (.iadd, 1)) : den sc d M pc ls (.int y :: .int x :: r) g = den sc d M (pc + 1) ls (.int (x + y) :: r) g := by
  subst hM
  exact dn_next hd rfl rfl rfl rfl rfl
theorem eb_isub (hM : M.2.2.1 = cc) (hd : decode cc pc = .ok (.isub, 1)) : den sc d M pc ls (.int y :: .int x :: r) g = den sc d M (pc + 1) ls (.int (x - y) :: r) g := by
  subst hM
  exact dn_next hd rfl rfl rfl rfl rfl
theorem eb_imul (hM : M.2.2.1 = cc) (hd : decode cc pc = .ok (.imul, 1)) : den sc d M pc ls (.int y :: .int x :: r) g = den sc d M (pc + 1) ls (.int (x * y) :: r) g := by
  subst hM
  exact dn_next hd rfl rfl rfl rfl rfl
theorem eb_iand (hM : M.2.2.1 = cc) (hd : decode cc pc = .ok (.iand, 1)) : den sc d M pc ls (.int y :: .int x :: r) g = den sc d M (pc + 1) ls (.int (x &&& y) :: r) g := by
  subst hM
  exact dn_next hd rfl rfl rfl rfl rfl
theorem eb_ior (hM : M.2.2.1 = cc) (hd : decode cc pc = .ok (.ior, 1)) : den sc d M pc ls (.int y :: .int x :: r) g = den sc d M (pc + 1) ls (.int (x ||| y) :: r) g := by
  subst hM
  exact dn_next hd rfl rfl rfl rfl rfl
theorem eb_ixor (hM : M.2.2.1 = cc) (hd : decode cc pc = .ok (.ixor, 1)) : den sc d M pc ls (.int y :: .int x :: r) g = den sc d M (pc + 1) ls (.int (x ^^^ y) :: r) g := by
  subst hM
  exact dn_next hd rfl rfl rfl rfl rfl
theorem eb_ishl (hM : M.2.2.1 = cc) (hd : decode cc pc = .ok (.ishl, 1)) : den sc d M pc ls (.int y :: .int x :: r) g = den sc d M (pc + 1) ls (.int (x <<< (y &&& 31)) :: r) g := by
  subst hM
  exact dn_next hd rfl rfl rfl rfl rfl
theorem eb_ishr (hM : M.2.2.1 = cc) (hd : decode cc pc = .ok (.ishr, 1)) : den sc d M pc ls (.int y :: .int x :: r) g = den sc d M (pc + 1) ls (.int (x >>> (y &&& 31)) :: r) g := by
  subst hM
  exact dn_next hd rfl rfl rfl rfl rfl
theorem eb_iushr (hM : M.2.2.1 = cc) (hd : decode cc pc = .ok (.iushr, 1)) : den sc d M pc ls (.int y :: .int x :: r) g = den sc d M (pc + 1) ls (.int ((x.toUInt32 >>> (y.toUInt32 &&& Int32.toUInt32 31)).toInt32) :: r) g := by
  subst hM
  exact dn_next hd rfl rfl rfl rfl rfl
theorem eb_ladd (hM : M.2.2.1 = cc) (hd : decode cc pc = .ok (.ladd, 1)) : den sc d M pc ls (.long y2 :: .long x2 :: r) g = den sc d M (pc + 1) ls (.long (x2 + y2) :: r) g := by
  subst hM
  exact dn_next hd rfl rfl rfl rfl rfl
theorem eb_lsub (hM : M.2.2.1 = cc) (hd : decode cc pc = .ok (.lsub, 1)) : den sc d M pc ls (.long y2 :: .long x2 :: r) g = den sc d M (pc + 1) ls (.long (x2 - y2) :: r) g := by
  subst hM
  exact dn_next hd rfl rfl rfl rfl rfl
theorem eb_lmul (hM : M.2.2.1 = cc) (hd : decode cc pc = .ok (.lmul, 1)) : den sc d M pc ls (.long y2 :: .long x2 :: r) g = den sc d M (pc + 1) ls (.long (x2 * y2) :: r) g := by
  subst hM
  exact dn_next hd rfl rfl rfl rfl rfl
theorem eb_land (hM : M.2.2.1 = cc) (hd : decode cc pc = .ok (.land, 1)) : den sc d M pc ls (.long y2 :: .long x2 :: r) g = den sc d M (pc + 1) ls (.long (x2 &&& y2) :: r) g := by
  subst hM
  exact dn_next hd rfl rfl rfl rfl rfl
theorem eb_lor (hM : M.2.2.1 = cc) (hd : decode cc pc = .ok (.lor, 1)) : den sc d M pc ls (.long y2 :: .long x2 :: r) g = den sc d M (pc + 1) ls (.long (x2 ||| y2) :: r) g := by
  subst hM
  exact dn_next hd rfl rfl rfl rfl rfl
theorem eb_lcmp (hM : M.2.2.1 = cc) (hd : decode cc pc = .ok (.lcmp, 1)) : den sc d M pc ls (.long y2 :: .long x2 :: r) g = den sc d M (pc + 1) ls (.int (lg_cmp x2 y2) :: r) g := by
  subst hM
  exact dn_next hd rfl rfl rfl rfl rfl
theorem eb_lshl (hM : M.2.2.1 = cc) (hd : decode cc pc = .ok (.lshl, 1)) : den sc d M pc ls (.int y :: .long z :: r) g = den sc d M (pc + 1) ls (.long (z <<< (y.toInt64 &&& 63)) :: r) g := by
  subst hM
  exact dn_next hd rfl rfl rfl rfl rfl
theorem eb_lshr (hM : M.2.2.1 = cc) (hd : decode cc pc = .ok (.lshr, 1)) : den sc d M pc ls (.int y :: .long z :: r) g = den sc d M (pc + 1) ls (.long (z >>> (y.toInt64 &&& 63)) :: r) g := by
  subst hM
  exact dn_next hd rfl rfl rfl rfl rfl
theorem eb_i2l (hM : M.2.2.1 = cc) (hd : decode cc pc = .ok (.i2l, 1)) : den sc d M pc ls (.int x :: r) g = den sc d M (pc + 1) ls (.long x.toInt64 :: r) g := by
  subst hM
  exact dn_next hd rfl rfl rfl rfl rfl
theorem eb_l2i (hM : M.2.2.1 = cc) (hd : decode cc pc = .ok (.l2i, 1)) : den sc d M pc ls (.long z :: r) g = den sc d M (pc + 1) ls (.int z.toInt32 :: r) g := by
  subst hM
  exact dn_next hd rfl rfl rfl rfl rfl
theorem eb_i2b (hM : M.2.2.1 = cc) (hd : decode cc pc = .ok (.i2b, 1)) : den sc d M pc ls (.int x :: r) g = den sc d M (pc + 1) ls (.int x.toInt8.toInt32 :: r) g := by
  subst hM
  exact dn_next hd rfl rfl rfl rfl rfl
theorem eb_i2s (hM : M.2.2.1 = cc) (hd : decode cc pc = .ok (.i2s, 1)) : den sc d M pc ls (.int x :: r) g = den sc d M (pc + 1) ls (.int x.toInt16.toInt32 :: r) g := by
  subst hM
  exact dn_next hd rfl rfl rfl rfl rfl
theorem eb_i2c (hM : M.2.2.1 = cc) (hd : decode cc pc = .ok (.i2c, 1)) : den sc d M pc ls (.int x :: r) g = den sc d M (pc + 1) ls (.int (x.toUInt32 % 65536).toInt32 :: r) g := by
  subst hM
  exact dn_next hd rfl rfl rfl rfl rfl
theorem eb_dupa (hM : M.2.2.1 = cc) (hd : decode cc pc = .ok (.dup, 1)) : den sc d M pc ls (.ref a :: r) g = den sc d M (pc + 1) ls (.ref a :: .ref a :: r) g := by
  subst hM
  exact dn_next hd rfl rfl rfl rfl rfl
theorem eb_dupi (hM : M.2.2.1 = cc) (hd : decode cc pc = .ok (.dup, 1)) : den sc d M pc ls (.int x :: r) g = den sc d M (pc + 1) ls (.int x :: .int x :: r) g := by
  subst hM
  exact dn_next hd rfl rfl rfl rfl rfl
theorem eb_dup2 (hM : M.2.2.1 = cc) (hd : decode cc pc = .ok (.dup2, 1)) : den sc d M pc ls (.int x :: .ref a :: r) g = den sc d M (pc + 1) ls (.int x :: .ref a :: .int x :: .ref a :: r) g := by
  subst hM
  exact dn_next hd rfl rfl rfl rfl rfl
theorem eb_popi (hM : M.2.2.1 = cc) (hd : decode cc pc = .ok (.pop, 1)) : den sc d M pc ls (.int x :: r) g = den sc d M (pc + 1) ls (r) g := by
  subst hM
  exact dn_next hd rfl rfl rfl rfl rfl
theorem eb_ldci (hM : M.2.2.1 = cc) (hC : M.1 = cn) {n : Nat} (hx : mx_ldc cn n = some (.int x)) (hd : decode cc pc = .ok (.ldc n, 2)) : den sc d M pc ls r g = den sc d M (pc + 2) ls (.int x :: r) g := by
  subst hM; subst hC
  exact dn_next hd rfl rfl rfl (by simp only [mx_op, hx]) rfl
theorem eb_ldca (hM : M.2.2.1 = cc) (hC : M.1 = cn) {n : Nat} (hx : mx_ldc cn n = some (.ref a)) (hd : decode cc pc = .ok (.ldc n, 2)) : den sc d M pc ls r g = den sc d M (pc + 2) ls (.ref a :: r) g := by
  subst hM; subst hC
  exact dn_next hd rfl rfl rfl (by simp only [mx_op, hx]) rfl
theorem eb_ldcw (hM : M.2.2.1 = cc) (hC : M.1 = cn) {n : Nat} (hx : mx_ldc cn n = some (.int x)) (hd : decode cc pc = .ok (.ldc_w n, 3)) : den sc d M pc ls r g = den sc d M (pc + 3) ls (.int x :: r) g := by
  subst hM; subst hC
  exact dn_next hd rfl rfl rfl (by simp only [mx_op, hx]) rfl
theorem eb_ldc2 (hM : M.2.2.1 = cc) (hC : M.1 = cn) {n : Nat} (hx : mx_ldc cn n = some (.long z)) (hd : decode cc pc = .ok (.ldc2_w n, 3)) : den sc d M pc ls r g = den sc d M (pc + 3) ls (.long z :: r) g := by
  subst hM; subst hC
  exact dn_next hd rfl rfl rfl (by simp only [mx_op, hx]) rfl
theorem eb_gs (hM : M.2.2.1 = cc) (hC : M.1 = cn) {n : Nat} {v : Value} (hx : mx_gs cn n = some v) (hd : decode cc pc = .ok (.getstatic n, 3)) : den sc d M pc ls r g = den sc d M (pc + 3) ls (v :: r) g := by
  subst hM; subst hC
  exact dn_next hd rfl rfl rfl (by simp only [mx_op, hx]) rfl
theorem eb_irem (hM : M.2.2.1 = cc) (hd : decode cc pc = .ok (.irem, 1)) : den sc d M pc ls (.int y :: .int x :: r) g = if y = 0 then none else den sc d M (pc + 1) ls (.int (x - x / y * y) :: r) g := by
  subst hM; exact dn_irem hd
theorem eb_idiv (hM : M.2.2.1 = cc) (hd : decode cc pc = .ok (.idiv, 1)) : den sc d M pc ls (.int y :: .int x :: r) g = if y = 0 then none else den sc d M (pc + 1) ls (.int (x / y) :: r) g := by
  subst hM; exact dn_idiv hd
theorem eb_goto (hM : M.2.2.1 = cc) {off : Int} {tgt : Nat} (ht : (pc : Int) + off = (tgt : Int)) (hd : decode cc pc = .ok (.goto off, 3)) : den sc d M pc ls r g = den sc d M tgt ls r g := by
  subst hM; exact dn_goto hd ht
theorem eb_table (hM : M.2.2.1 = cc) {dflt lo hi off : Int} {offs : Array Int} {n tgt : Nat} (hd : decode cc pc = .ok (.tableswitch dflt lo hi offs, n)) (ho : (if x.toInt < lo ∨ hi < x.toInt then some dflt else offs[(x.toInt - lo).toNat]?) = some off) (ht : (pc : Int) + off = (tgt : Int)) : den sc d M pc ls (.int x :: r) g = den sc d M tgt ls r g := by
  subst hM; exact dn_table hd ho ht
theorem eb_if_eq (hM : M.2.2.1 = cc) {off : Int} {tgt : Nat} (ht : (pc : Int) + off = (tgt : Int)) (hd : decode cc pc = .ok (.ifCond .eq off, 3)) : den sc d M pc ls (.int x :: r) g = if x = 0 then den sc d M tgt ls r g else den sc d M (pc + 3) ls r g := by
  subst hM; exact dn_if_eq hd ht
theorem eb_if_ne (hM : M.2.2.1 = cc) {off : Int} {tgt : Nat} (ht : (pc : Int) + off = (tgt : Int)) (hd : decode cc pc = .ok (.ifCond .ne off, 3)) : den sc d M pc ls (.int x :: r) g = if x = 0 then den sc d M (pc + 3) ls r g else den sc d M tgt ls r g := by
  subst hM; exact dn_if_ne hd ht
theorem eb_if_lt (hM : M.2.2.1 = cc) {off : Int} {tgt : Nat} (ht : (pc : Int) + off = (tgt : Int)) (hd : decode cc pc = .ok (.ifCond .lt off, 3)) : den sc d M pc ls (.int x :: r) g = if x < 0 then den sc d M tgt ls r g else den sc d M (pc + 3) ls r g := by
  subst hM; exact dn_if_lt hd ht
theorem eb_if_ge (hM : M.2.2.1 = cc) {off : Int} {tgt : Nat} (ht : (pc : Int) + off = (tgt : Int)) (hd : decode cc pc = .ok (.ifCond .ge off, 3)) : den sc d M pc ls (.int x :: r) g = if 0 ≤ x then den sc d M tgt ls r g else den sc d M (pc + 3) ls r g := by
  subst hM; exact dn_if_ge hd ht
theorem eb_if_gt (hM : M.2.2.1 = cc) {off : Int} {tgt : Nat} (ht : (pc : Int) + off = (tgt : Int)) (hd : decode cc pc = .ok (.ifCond .gt off, 3)) : den sc d M pc ls (.int x :: r) g = if 0 < x then den sc d M tgt ls r g else den sc d M (pc + 3) ls r g := by
  subst hM; exact dn_if_gt hd ht
theorem eb_if_le (hM : M.2.2.1 = cc) {off : Int} {tgt : Nat} (ht : (pc : Int) + off = (tgt : Int)) (hd : decode cc pc = .ok (.ifCond .le off, 3)) : den sc d M pc ls (.int x :: r) g = if x ≤ 0 then den sc d M tgt ls r g else den sc d M (pc + 3) ls r g := by
  subst hM; exact dn_if_le hd ht
theorem eb_icmp_eq (hM : M.2.2.1 = cc) {off : Int} {tgt : Nat} (ht : (pc : Int) + off = (tgt : Int)) (hd : decode cc pc = .ok (.if_icmp .eq off, 3)) : den sc d M pc ls (.int y :: .int x :: r) g = if x = y then den sc d M tgt ls r g else den sc d M (pc + 3) ls r g := by
  subst hM; exact dn_icmp_eq hd ht
theorem eb_icmp_ne (hM : M.2.2.1 = cc) {off : Int} {tgt : Nat} (ht : (pc : Int) + off = (tgt : Int)) (hd : decode cc pc = .ok (.if_icmp .ne off, 3)) : den sc d M pc ls (.int y :: .int x :: r) g = if x = y then den sc d M (pc + 3) ls r g else den sc d M tgt ls r g := by
  subst hM; exact dn_icmp_ne hd ht
theorem eb_icmp_lt (hM : M.2.2.1 = cc) {off : Int} {tgt : Nat} (ht : (pc : Int) + off = (tgt : Int)) (hd : decode cc pc = .ok (.if_icmp .lt off, 3)) : den sc d M pc ls (.int y :: .int x :: r) g = if x < y then den sc d M tgt ls r g else den sc d M (pc + 3) ls r g := by
  subst hM; exact dn_icmp_lt hd ht
theorem eb_icmp_ge (hM : M.2.2.1 = cc) {off : Int} {tgt : Nat} (ht : (pc : Int) + off = (tgt : Int)) (hd : decode cc pc = .ok (.if_icmp .ge off, 3)) : den sc d M pc ls (.int y :: .int x :: r) g = if y ≤ x then den sc d M tgt ls r g else den sc d M (pc + 3) ls r g := by
  subst hM; exact dn_icmp_ge hd ht
theorem eb_icmp_gt (hM : M.2.2.1 = cc) {off : Int} {tgt : Nat} (ht : (pc : Int) + off = (tgt : Int)) (hd : decode cc pc = .ok (.if_icmp .gt off, 3)) : den sc d M pc ls (.int y :: .int x :: r) g = if y < x then den sc d M tgt ls r g else den sc d M (pc + 3) ls r g := by
  subst hM; exact dn_icmp_gt hd ht
theorem eb_icmp_le (hM : M.2.2.1 = cc) {off : Int} {tgt : Nat} (ht : (pc : Int) + off = (tgt : Int)) (hd : decode cc pc = .ok (.if_icmp .le off, 3)) : den sc d M pc ls (.int y :: .int x :: r) g = if x ≤ y then den sc d M tgt ls r g else den sc d M (pc + 3) ls r g := by
  subst hM; exact dn_icmp_le hd ht
theorem eb_gf (hM : M.2.2.1 = cc) (hC : M.1 = cn) {n ci j : Nat} {nest : Bool} (hf : mx_fld cn n = some (ci, j, nest)) (hd : decode cc pc = .ok (.getfield n, 3)) : den sc d M pc ls (.ref a :: r) g = mx_gf (g.1 a) ci j (fun v => den sc d M (pc + 3) ls (v :: r) g) := by
  subst hM; subst hC; exact dn_gf hd hf
theorem eb_gx (hM : M.2.2.1 = cc) (hC : M.1 = cn) {n : Nat} {v : Value} (hf : mx_fld cn n = none) (hv : mx_xf cn n a = some v) (hd : decode cc pc = .ok (.getfield n, 3)) : den sc d M pc ls (.ref a :: r) g = den sc d M (pc + 3) ls (v :: r) g := by
  subst hM; subst hC; exact dn_gx hd hf hv
theorem eb_fit {ci j : Nat} {nest : Bool} {v : Value} (h1 : mx_fv (mx_fty ci j) v = true) (h2 : mx_ffin ci j = false) : (mx_fit M ci j v && !(nest && mx_ffin ci j)) = true := by
  rw [mx_fit_eq, h1, h2]
  cases nest <;> rfl
theorem eb_pf (hM : M.2.2.1 = cc) (hC : M.1 = cn) {n ci j : Nat} {nest : Bool} {v : Value} (hf : mx_fld cn n = some (ci, j, nest)) (h1 : mx_fv (mx_fty ci j) v = true) (h2 : mx_ffin ci j = false) (hd : decode cc pc = .ok (.putfield n, 3)) : den sc d M pc ls (v :: .ref a :: r) g = mx_pf (g.1 a) ci j (fun fs => den sc d M (pc + 3) ls r (mx_up g a (.inr (ci, fs.set j v)))) := by
  subst hM; subst hC; exact dn_pf hd hf (eb_fit h1 h2)
theorem eb_pfF (hM : M.2.2.1 = cc) (hC : M.1 = cn) (hN : M.2.1.name = "<init>") {n j : Nat} {v : Value} (hf : mx_fld cn n = some (cn, j, false)) (h1 : mx_fv (mx_fty cn j) v = true) (hd : decode cc pc = .ok (.putfield n, 3)) : den sc d M pc ls (v :: .ref a :: r) g = mx_pf (g.1 a) cn j (fun fs => den sc d M (pc + 3) ls r (mx_up g a (.inr (cn, fs.set j v)))) := by
  subst hM; subst hC
  refine dn_pf hd hf ?_
  rw [mx_fit_eq, h1, hN]
  simp
theorem eb_iald (hM : M.2.2.1 = cc) (hd : decode cc pc = .ok (.iaload, 1)) : den sc d M pc ls (.int i :: .ref a :: r) g = mx_ai (mx_av sc g a) i (fun _ f => den sc d M (pc + 1) ls (.int (f i.toNatClampNeg) :: r) g) := by
  subst hM; exact dn_iald hd
theorem eb_bald (hM : M.2.2.1 = cc) (hd : decode cc pc = .ok (.baload, 1)) : den sc d M pc ls (.int i :: .ref a :: r) g = mx_ab (mx_av sc g a) i (fun _ f => den sc d M (pc + 1) ls (.int (f i.toNatClampNeg) :: r) g) := by
  subst hM; exact dn_bald hd
theorem eb_lald (hM : M.2.2.1 = cc) (hd : decode cc pc = .ok (.laload, 1)) : den sc d M pc ls (.int i :: .ref a :: r) g = mx_al (g.1 a) i (fun _ f => den sc d M (pc + 1) ls (.long (f i.toNatClampNeg) :: r) g) := by
  subst hM; exact dn_lald hd
theorem eb_aald (hM : M.2.2.1 = cc) (hd : decode cc pc = .ok (.aaload, 1)) : den sc d M pc ls (.int i :: .ref a :: r) g = mx_ar (g.1 a) i (fun _ _ f => den sc d M (pc + 1) ls (va_rf (f i.toNatClampNeg) :: r) g) := by
  subst hM; exact dn_aald hd
theorem eb_iast (hM : M.2.2.1 = cc) (hd : decode cc pc = .ok (.iastore, 1)) : den sc d M pc ls (.int x :: .int i :: .ref a :: r) g = mx_ai (g.1 a) i (fun n f => den sc d M (pc + 1) ls r (mx_up g a (.inl (.int, n, .inl (upd f i.toNatClampNeg x))))) := by
  subst hM; exact dn_iast hd
theorem eb_last (hM : M.2.2.1 = cc) (hd : decode cc pc = .ok (.lastore, 1)) : den sc d M pc ls (.long z :: .int i :: .ref a :: r) g = mx_al (g.1 a) i (fun n f => den sc d M (pc + 1) ls r (mx_up g a (.inl (.long, n, .inr (.inl (vp_updL f i.toNatClampNeg z)))))) := by
  subst hM; exact dn_last hd
theorem eb_aast (hM : M.2.2.1 = cc) (hd : decode cc pc = .ok (.aastore, 1)) : den sc d M pc ls (.ref b :: .int i :: .ref a :: r) g = mx_ar (g.1 a) i (fun C n f => mx_ob (g.1 b) (fun ci => if mx_cast ci C then den sc d M (pc + 1) ls r (mx_up g a (.inl (.object C, n, .inr (.inr (.inr (.inr (va_up f i.toNatClampNeg (some b)))))))) else none)) := by
  subst hM; exact dn_aast hd
theorem eb_alen (hM : M.2.2.1 = cc) (hd : decode cc pc = .ok (.arraylength, 1)) : den sc d M pc ls (.ref a :: r) g = mx_le (mx_av sc g a) (fun n => den sc d M (pc + 1) ls (.int (Int32.ofNat n) :: r) g) := by
  subst hM; exact dn_alen hd
theorem eb_new (hM : M.2.2.1 = cc) (hC : M.1 = cn) {k ci : Nat} (hc : mx_ncl cn k = some ci) (hd : decode cc pc = .ok (.new k, 3)) : den sc d M pc ls r g = if g.2.1 < 900 then den sc d M (pc + 3) ls (.ref g.2.1 :: r) (mx_nw g (.inr (ci, mx_dfl ci)) (mx_dfl ci).length) else none := by
  subst hM; subst hC; exact dn_new hd hc
theorem eb_newi (hM : M.2.2.1 = cc) (hd : decode cc pc = .ok (.newarray .int, 2)) : den sc d M pc ls (.int x :: r) g = if ¬ x < 0 ∧ x.toNatClampNeg ≤ 1000 ∧ g.2.1 < 900 then den sc d M (pc + 2) ls (.ref g.2.1 :: r) (mx_nw g (.inl (.int, x.toNatClampNeg, .inl (fun _ => 0))) x.toNatClampNeg) else none := by
  subst hM; exact dn_newi hd
theorem eb_newl (hM : M.2.2.1 = cc) (hd : decode cc pc = .ok (.newarray .long, 2)) : den sc d M pc ls (.int x :: r) g = if ¬ x < 0 ∧ x.toNatClampNeg ≤ 1000 ∧ g.2.1 < 900 then den sc d M (pc + 2) ls (.ref g.2.1 :: r) (mx_nw g (.inl (.long, x.toNatClampNeg, .inr (.inl (fun _ => 0)))) x.toNatClampNeg) else none := by
  subst hM; exact dn_newl hd
theorem eb_newq (hM : M.2.2.1 = cc) (hC : M.1 = cn) {k : Nat} {C : String} (hc : mx_acl cn k = some C) (hd : decode cc pc = .ok (.anewarray k, 3)) : den sc d M pc ls (.int x :: r) g = if ¬ x < 0 ∧ x.toNatClampNeg ≤ 1000 ∧ g.2.1 < 900 then den sc d M (pc + 3) ls (.ref g.2.1 :: r) (mx_nw g (.inl (.object C, x.toNatClampNeg, .inr (.inr (.inr (.inr (fun _ => none)))))) x.toNatClampNeg) else none := by
  subst hM; subst hC; exact dn_newq hd hc
theorem eb_min (hM : M.2.2.1 = cc) (hC : M.1 = cn) {n : Nat} (hm : mx_mmn cn n = true) (hc : mx_call cn n 100 = none) (hd : decode cc pc = .ok (.invokestatic n, 3)) : den sc d M pc ls (.int y :: .int x :: r) g = if r.length ≤ 4 then den sc d M (pc + 3) ls (.int (if y < x then y else x) :: r) g else none := by
  subst hM; subst hC; exact dn_min hd hm hc
theorem eb_obj (hM : M.2.2.1 = cc) (hC : M.1 = cn) {k : Nat} (ho : mx_oin cn k = true) (hc : mx_call cn k 100 = none) (hd : decode cc pc = .ok (.invokespecial k, 3)) : den sc d M pc ls (.ref a :: r) g = if r.length ≤ 4 ∧ a < 1000 then den sc d M (pc + 3) ls r g else none := by
  subst hM; subst hC; exact dn_obj hd ho hc
theorem eb_cpyi (hM : M.2.2.1 = cc) (hC : M.1 = cn) {k n0 n1 : Nat} {n dp sp : Int32} {f0 f1 : Nat → Int32} (hm : mx_mmn cn k = false) (ha : mx_acp cn k = true) (hc : mx_call cn k 100 = none) (hd : decode cc pc = .ok (.invokestatic k, 3)) (hr : r.length ≤ 4) (h1 : ¬ n < 0) (h2 : ¬ dp < 0) (h3 : ¬ sp < 0) (hb : g.1 b = some (.inl (.int, n0, .inl f0))) (hg : g.1 a = some (.inl (.int, n1, .inl f1))) (h4 : sp.toNatClampNeg + n.toNatClampNeg ≤ n0) (h5 : dp.toNatClampNeg + n.toNatClampNeg ≤ n1) : den sc d M pc ls (.int n :: .int dp :: .ref a :: .int sp :: .ref b :: r) g = den sc d M (pc + 3) ls r (mx_up g a (.inl (.int, n1, .inl (va_cpy f0 f1 sp.toNatClampNeg dp.toNatClampNeg n.toNatClampNeg)))) := by
  subst hM; subst hC; exact dn_cpyi hd hm ha hc hr h1 h2 h3 hb hg h4 h5
theorem eb_cpyl (hM : M.2.2.1 = cc) (hC : M.1 = cn) {k n0 n1 : Nat} {n dp sp : Int32} {f0 f1 : Nat → Int64} (hm : mx_mmn cn k = false) (ha : mx_acp cn k = true) (hc : mx_call cn k 100 = none) (hd : decode cc pc = .ok (.invokestatic k, 3)) (hr : r.length ≤ 4) (h1 : ¬ n < 0) (h2 : ¬ dp < 0) (h3 : ¬ sp < 0) (hb : g.1 b = some (.inl (.long, n0, .inr (.inl f0)))) (hg : g.1 a = some (.inl (.long, n1, .inr (.inl f1)))) (h4 : sp.toNatClampNeg + n.toNatClampNeg ≤ n0) (h5 : dp.toNatClampNeg + n.toNatClampNeg ≤ n1) : den sc d M pc ls (.int n :: .int dp :: .ref a :: .int sp :: .ref b :: r) g = den sc d M (pc + 3) ls r (mx_up g a (.inl (.long, n1, .inr (.inl (va_cpy f0 f1 sp.toNatClampNeg dp.toNatClampNeg n.toNatClampNeg))))) := by
  subst hM; subst hC; exact dn_cpyl hd hm ha hc hr h1 h2 h3 hb hg h4 h5
theorem eb_reti (hM : M.2.2.1 = cc) {ty : FieldType} (hT : M.2.2.2.2 = some ty) (hn : narrow ty (.int x) = .int x) (hd : decode cc pc = .ok (.ireturn, 1)) : den sc d M pc ls [.int x] g = some (some (.int x), g) := by
  subst hM
  refine dn_ret hd rfl ?_
  simp only [mx_rt, hT, hn, if_true]
theorem eb_retl (hM : M.2.2.1 = cc) (hT : M.2.2.2.2 = some .long) (hd : decode cc pc = .ok (.lreturn, 1)) : den sc d M pc ls [.long z] g = some (some (.long z), g) := by
  subst hM
  refine dn_ret hd rfl ?_
  simp only [mx_rt, hT, if_true]
theorem eb_reta (hM : M.2.2.1 = cc) (hT : M.2.2.2.2 = some (.object "java/lang/String")) (hd : decode cc pc = .ok (.areturn, 1)) : den sc d M pc ls [.ref a] g = some (some (.ref a), g) := by
  subst hM
  refine dn_ret hd rfl ?_
  simp only [mx_rt, hT, if_true]
theorem eb_retv (hM : M.2.2.1 = cc) (hT : M.2.2.2.2 = none) (hd : decode cc pc = .ok (.return_, 1)) : den sc d M pc ls [] g = some (none, g) := by
  subst hM
  refine dn_ret hd rfl ?_
  simp only [mx_rt, hT, if_true]
theorem eb_static (hM : M.2.2.1 = cc) (hC : M.1 = cn) {k kind n : Nat} {M' : mx_M} {as rest : List Value} (hc : mx_call cn k 100 = some (kind, n, M')) (hk : Nat.ble kind 1 = true) (hm : mx_mmn cn k = false) (ha : mx_acp cn k = false) (hd : decode cc pc = .ok (.invokestatic k, 3)) (h1 : (st.take n).reverse = as) (h2 : st.drop n = rest) (h3 : Nat.ble n st.length = true) (hok : mx_ok M' as = true) : den sc (d + 1) M pc ls st g = mx_ck rest (call sc d M' as g) (fun v g' => den sc (d + 1) M (pc + 3) ls (v.toList ++ rest) g') := by
  subst hM; subst hC
  exact dn_static hd hc (Nat.le_of_ble_eq_true hk) hm ha h1 h2 (Nat.le_of_ble_eq_true h3) hok
theorem eb_special (hM : M.2.2.1 = cc) (hC : M.1 = cn) {k kind n : Nat} {M' : mx_M} {as rest : List Value} (hc : mx_call cn k 100 = some (kind, n, M')) (hk : 4 ≤ kind ∧ kind ≠ 8) (ho : mx_oin cn k = false) (hd : decode cc pc = .ok (.invokespecial k, 3)) (hs : st[n]? = some (.ref a)) (h1 : (st.take (n + 1)).reverse = as) (h2 : st.drop (n + 1) = rest) (hok : mx_ok M' as = true) : den sc (d + 1) M pc ls st g = mx_ob (g.1 a) (fun _ => mx_ck rest (call sc d M' as g) (fun v g' => den sc (d + 1) M (pc + 3) ls (v.toList ++ rest) g')) := by
  subst hM; subst hC
  exact dn_special hd hc hk ho hs h1 h2 hok
theorem eb_virtual (hM : M.2.2.1 = cc) (hC : M.1 = cn) {k kind n rc : Nat} {M' : mx_M} {as rest : List Value} (hc : mx_call cn k rc = some (kind, n, M')) (hk : kind = 2 ∨ kind = 8) (hn : n = mx_na cn k) (hd : decode cc pc = .ok (.invokevirtual k, 3)) (hs : st[n]? = some (.ref a)) (h1 : (st.take (n + 1)).reverse = as) (h2 : st.drop (n + 1) = rest) (hok : mx_ok M' as = true) (hrc : mx_rc g a = some rc) : den sc (d + 1) M pc ls st g = mx_ck rest (call sc d M' as g) (fun v g' => den sc (d + 1) M (pc + 3) ls (v.toList ++ rest) g') := by
  subst hM; subst hC
  exact dn_virtual hd hrc hc hk hn hs h1 h2 hok
end DenB
