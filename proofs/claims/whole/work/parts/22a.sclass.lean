section
variable {sc : mx_X} {d : Nat} {g : mx_G} {r : List Value} {x y i : Int32} {z x2 y2 : Int64} {a b : Nat} {l0 l1 l2 l3 l4 l5 l6 l7 l8 l9 l10 : Option Value}
theorem s_X0_init_0 : den sc d MX0_init 0 [some (.ref a)] (r) g = den sc d MX0_init 1 [some (.ref a)] (.ref a :: r) g := eb_aload_n hM_X0_init rfl dX0_init_0
theorem s_X0_init_1 : den sc (d + 1) MX0_init 1 [l0] (.ref a :: r) g = mx_ob (g.1 a) (fun _ => mx_ck r (call sc d MX3_init [.ref a] g) (fun v g' => den sc (d + 1) MX0_init 4 [l0] (v.toList ++ r) g')) := eb_special hM_X0_init hC_X0_init rc_0_3_100 (by decide) rfl dX0_init_1 rfl rfl rfl rfl
theorem s_X0_init_4 : den sc d MX0_init 4 [l0] ([]) g = some (none, g) := eb_retv hM_X0_init hT_X0_init dX0_init_4
end
section
variable {sc : mx_X} {d : Nat} {g : mx_G} {r : List Value} {x y i : Int32} {z x2 y2 : Int64} {a b : Nat} {l0 l1 l2 l3 l4 l5 l6 l7 l8 l9 l10 : Option Value}
theorem s_X0_taken_0 : den sc d MX0_taken 0 [l0, some (.int x), l2] (r) g = den sc d MX0_taken 1 [l0, some (.int x), l2] (.int x :: r) g := eb_iload_n hM_X0_taken rfl dX0_taken_0
theorem s_X0_taken_1 {a0 : Int32} : den sc (d + 1) MX0_taken 1 [l0, l1, l2] (.int a0 :: r) g = mx_ck r (call sc d MX10_greatestIn [.int a0] g) (fun v g' => den sc (d + 1) MX0_taken 4 [l0, l1, l2] (v.toList ++ r) g') := eb_static hM_X0_taken hC_X0_taken rc_0_9_100 rfl rfl rfl dX0_taken_1 rfl rfl rfl rfl
theorem s_X0_taken_4 : den sc d MX0_taken 4 [l0, l1, l2] ([.int x]) g = some (some (.int x), g) := eb_reti hM_X0_taken hT_X0_taken rfl dX0_taken_4
end
section
variable {sc : mx_X} {d : Nat} {g : mx_G} {r : List Value} {x y i : Int32} {z x2 y2 : Int64} {a b : Nat} {l0 l1 l2 l3 l4 l5 l6 l7 l8 l9 l10 : Option Value}
theorem s_X0_finds_0 : den sc d MX0_finds 0 [some (.ref a), l1] (r) g = den sc d MX0_finds 1 [some (.ref a), l1] (.ref a :: r) g := eb_aload_n hM_X0_finds rfl dX0_finds_0
theorem s_X0_finds_1 : den sc d MX0_finds 1 [l0, some (.int x)] (r) g = den sc d MX0_finds 2 [l0, some (.int x)] (.int x :: r) g := eb_iload_n hM_X0_finds rfl dX0_finds_1
theorem s_X0_finds_2 {a0 : Int32} : den sc (d + 1) MX0_finds 2 [l0, l1] (.int a0 :: .ref a :: r) g = mx_ob (g.1 a) (fun _ => mx_ck r (call sc d MX3_finds [.ref a, .int a0] g) (fun v g' => den sc (d + 1) MX0_finds 5 [l0, l1] (v.toList ++ r) g')) := eb_special hM_X0_finds hC_X0_finds rc_0_13_100 (by decide) rfl dX0_finds_2 rfl rfl rfl rfl
theorem s_X0_finds_5 : den sc d MX0_finds 5 [l0, l1] (r) g = den sc d MX0_finds 6 [l0, l1] (.int (1) :: r) g := eb_iconst hM_X0_finds rfl dX0_finds_5
theorem s_X0_finds_6 : den sc d MX0_finds 6 [l0, l1] (.int y :: .int x :: r) g = den sc d MX0_finds 7 [l0, l1] (.int (x + y) :: r) g := eb_iadd hM_X0_finds dX0_finds_6
theorem s_X0_finds_7 : den sc d MX0_finds 7 [l0, l1] (r) g = den sc d MX0_finds 9 [l0, l1] (.int (16) :: r) g := eb_bipush hM_X0_finds rfl dX0_finds_7
theorem s_X0_finds_9 : den sc d MX0_finds 9 [l0, l1] (.int y :: .int x :: r) g = if y = 0 then none else den sc d MX0_finds 10 [l0, l1] (.int (x - x / y * y) :: r) g := eb_irem hM_X0_finds dX0_finds_9
theorem s_X0_finds_10 : den sc d MX0_finds 10 [l0, l1] ([.int x]) g = some (some (.int x), g) := eb_reti hM_X0_finds hT_X0_finds rfl dX0_finds_10
end
section
variable {sc : mx_X} {d : Nat} {g : mx_G} {r : List Value} {x y i : Int32} {z x2 y2 : Int64} {a b : Nat} {l0 l1 l2 l3 l4 l5 l6 l7 l8 l9 l10 : Option Value}
theorem s_X1_init_0 : den sc d MX1_init 0 [some (.ref a), l1, l2] (r) g = den sc d MX1_init 1 [some (.ref a), l1, l2] (.ref a :: r) g := eb_aload_n hM_X1_init rfl dX1_init_0
theorem s_X1_init_1 : den sc d MX1_init 1 [l0, l1, l2] (.ref a :: r) g = if r.length ≤ 4 ∧ a < 1000 then den sc d MX1_init 4 [l0, l1, l2] (r) g else none := eb_obj hM_X1_init hC_X1_init rfl rfl dX1_init_1
theorem s_X1_init_4 : den sc d MX1_init 4 [some (.ref a), l1, l2] (r) g = den sc d MX1_init 5 [some (.ref a), l1, l2] (.ref a :: r) g := eb_aload_n hM_X1_init rfl dX1_init_4
theorem s_X1_init_5 : den sc d MX1_init 5 [l0, l1, l2] (r) g = den sc d MX1_init 7 [l0, l1, l2] (.int (16) :: r) g := eb_bipush hM_X1_init rfl dX1_init_5
theorem s_X1_init_7 : den sc d MX1_init 7 [l0, l1, l2] (.int x :: r) g = if ¬ x < 0 ∧ x.toNatClampNeg ≤ 1000 ∧ g.2.1 < 900 then den sc d MX1_init 9 [l0, l1, l2] (.ref g.2.1 :: r) (mx_nw g (.inl (.int, x.toNatClampNeg, .inl (fun _ => 0))) x.toNatClampNeg) else none := eb_newi hM_X1_init dX1_init_7
theorem s_X1_init_9 : den sc d MX1_init 9 [l0, l1, l2] (.ref b :: .ref a :: r) g = mx_pf (g.1 a) 1 1 (fun fs => den sc d MX1_init 12 [l0, l1, l2] (r) (mx_up g a (.inr (1, fs.set 1 (.ref b))))) := eb_pfF hM_X1_init hC_X1_init rfl rf_1_9 rfl dX1_init_9
theorem s_X1_init_12 : den sc d MX1_init 12 [some (.ref a), l1, l2] (r) g = den sc d MX1_init 13 [some (.ref a), l1, l2] (.ref a :: r) g := eb_aload_n hM_X1_init rfl dX1_init_12
theorem s_X1_init_13 : den sc d MX1_init 13 [l0, l1, l2] (r) g = den sc d MX1_init 15 [l0, l1, l2] (.int (8) :: r) g := eb_bipush hM_X1_init rfl dX1_init_13
theorem s_X1_init_15 : den sc d MX1_init 15 [l0, l1, l2] (.int x :: r) g = if ¬ x < 0 ∧ x.toNatClampNeg ≤ 1000 ∧ g.2.1 < 900 then den sc d MX1_init 17 [l0, l1, l2] (.ref g.2.1 :: r) (mx_nw g (.inl (.int, x.toNatClampNeg, .inl (fun _ => 0))) x.toNatClampNeg) else none := eb_newi hM_X1_init dX1_init_15
theorem s_X1_init_17 : den sc d MX1_init 17 [l0, l1, l2] (.ref b :: .ref a :: r) g = mx_pf (g.1 a) 1 2 (fun fs => den sc d MX1_init 20 [l0, l1, l2] (r) (mx_up g a (.inr (1, fs.set 2 (.ref b))))) := eb_pfF hM_X1_init hC_X1_init rfl rf_1_15 rfl dX1_init_17
theorem s_X1_init_20 : den sc d MX1_init 20 [some (.ref a), l1, l2] (r) g = den sc d MX1_init 21 [some (.ref a), l1, l2] (.ref a :: r) g := eb_aload_n hM_X1_init rfl dX1_init_20
theorem s_X1_init_21 : den sc d MX1_init 21 [l0, l1, l2] (r) g = den sc d MX1_init 23 [l0, l1, l2] (.int (8) :: r) g := eb_bipush hM_X1_init rfl dX1_init_21
theorem s_X1_init_23 : den sc d MX1_init 23 [l0, l1, l2] (.int x :: r) g = if ¬ x < 0 ∧ x.toNatClampNeg ≤ 1000 ∧ g.2.1 < 900 then den sc d MX1_init 25 [l0, l1, l2] (.ref g.2.1 :: r) (mx_nw g (.inl (.int, x.toNatClampNeg, .inl (fun _ => 0))) x.toNatClampNeg) else none := eb_newi hM_X1_init dX1_init_23
theorem s_X1_init_25 : den sc d MX1_init 25 [l0, l1, l2] (.ref b :: .ref a :: r) g = mx_pf (g.1 a) 1 3 (fun fs => den sc d MX1_init 28 [l0, l1, l2] (r) (mx_up g a (.inr (1, fs.set 3 (.ref b))))) := eb_pfF hM_X1_init hC_X1_init rfl rf_1_18 rfl dX1_init_25
theorem s_X1_init_28 : den sc d MX1_init 28 [some (.ref a), l1, l2] (r) g = den sc d MX1_init 29 [some (.ref a), l1, l2] (.ref a :: r) g := eb_aload_n hM_X1_init rfl dX1_init_28
theorem s_X1_init_29 : den sc d MX1_init 29 [l0, l1, l2] (r) g = den sc d MX1_init 31 [l0, l1, l2] (.int (8) :: r) g := eb_bipush hM_X1_init rfl dX1_init_29
theorem s_X1_init_31 : den sc d MX1_init 31 [l0, l1, l2] (.int x :: r) g = if ¬ x < 0 ∧ x.toNatClampNeg ≤ 1000 ∧ g.2.1 < 900 then den sc d MX1_init 33 [l0, l1, l2] (.ref g.2.1 :: r) (mx_nw g (.inl (.int, x.toNatClampNeg, .inl (fun _ => 0))) x.toNatClampNeg) else none := eb_newi hM_X1_init dX1_init_31
theorem s_X1_init_33 : den sc d MX1_init 33 [l0, l1, l2] (.ref b :: .ref a :: r) g = mx_pf (g.1 a) 1 4 (fun fs => den sc d MX1_init 36 [l0, l1, l2] (r) (mx_up g a (.inr (1, fs.set 4 (.ref b))))) := eb_pfF hM_X1_init hC_X1_init rfl rf_1_21 rfl dX1_init_33
theorem s_X1_init_36 : den sc d MX1_init 36 [some (.ref a), l1, l2] (r) g = den sc d MX1_init 37 [some (.ref a), l1, l2] (.ref a :: r) g := eb_aload_n hM_X1_init rfl dX1_init_36
theorem s_X1_init_37 : den sc d MX1_init 37 [l0, l1, l2] (r) g = den sc d MX1_init 39 [l0, l1, l2] (.int (8) :: r) g := eb_bipush hM_X1_init rfl dX1_init_37
theorem s_X1_init_39 : den sc d MX1_init 39 [l0, l1, l2] (.int x :: r) g = if ¬ x < 0 ∧ x.toNatClampNeg ≤ 1000 ∧ g.2.1 < 900 then den sc d MX1_init 41 [l0, l1, l2] (.ref g.2.1 :: r) (mx_nw g (.inl (.int, x.toNatClampNeg, .inl (fun _ => 0))) x.toNatClampNeg) else none := eb_newi hM_X1_init dX1_init_39
theorem s_X1_init_41 : den sc d MX1_init 41 [l0, l1, l2] (.ref b :: .ref a :: r) g = mx_pf (g.1 a) 1 5 (fun fs => den sc d MX1_init 44 [l0, l1, l2] (r) (mx_up g a (.inr (1, fs.set 5 (.ref b))))) := eb_pfF hM_X1_init hC_X1_init rfl rf_1_24 rfl dX1_init_41
theorem s_X1_init_44 : den sc d MX1_init 44 [some (.ref a), l1, l2] (r) g = den sc d MX1_init 45 [some (.ref a), l1, l2] (.ref a :: r) g := eb_aload_n hM_X1_init rfl dX1_init_44
theorem s_X1_init_45 : den sc d MX1_init 45 [l0, l1, l2] (r) g = den sc d MX1_init 47 [l0, l1, l2] (.int (8) :: r) g := eb_bipush hM_X1_init rfl dX1_init_45
theorem s_X1_init_47 : den sc d MX1_init 47 [l0, l1, l2] (.int x :: r) g = if ¬ x < 0 ∧ x.toNatClampNeg ≤ 1000 ∧ g.2.1 < 900 then den sc d MX1_init 49 [l0, l1, l2] (.ref g.2.1 :: r) (mx_nw g (.inl (.int, x.toNatClampNeg, .inl (fun _ => 0))) x.toNatClampNeg) else none := eb_newi hM_X1_init dX1_init_47
theorem s_X1_init_49 : den sc d MX1_init 49 [l0, l1, l2] (.ref b :: .ref a :: r) g = mx_pf (g.1 a) 1 6 (fun fs => den sc d MX1_init 52 [l0, l1, l2] (r) (mx_up g a (.inr (1, fs.set 6 (.ref b))))) := eb_pfF hM_X1_init hC_X1_init rfl rf_1_27 rfl dX1_init_49
theorem s_X1_init_52 : den sc d MX1_init 52 [some (.ref a), l1, l2] (r) g = den sc d MX1_init 53 [some (.ref a), l1, l2] (.ref a :: r) g := eb_aload_n hM_X1_init rfl dX1_init_52
theorem s_X1_init_53 : den sc d MX1_init 53 [l0, some (.ref a), l2] (r) g = den sc d MX1_init 54 [l0, some (.ref a), l2] (.ref a :: r) g := eb_aload_n hM_X1_init rfl dX1_init_53
theorem s_X1_init_54 : den sc d MX1_init 54 [l0, l1, l2] (.ref b :: .ref a :: r) g = mx_pf (g.1 a) 1 0 (fun fs => den sc d MX1_init 57 [l0, l1, l2] (r) (mx_up g a (.inr (1, fs.set 0 (.ref b))))) := eb_pfF hM_X1_init hC_X1_init rfl rf_1_30 rfl dX1_init_54
theorem s_X1_init_57 : den sc d MX1_init 57 [l0, l1, l2] (r) g = den sc d MX1_init 58 [l0, l1, l2] (.int (0) :: r) g := eb_iconst hM_X1_init rfl dX1_init_57
theorem s_X1_init_58 {n1 : Nat} : den sc d MX1_init 58 [l0, some (.ref n1), l2] (.int x :: r) g = den sc d MX1_init 59 [l0, some (.ref n1), some (.int x)] (r) g := eb_istore_n hM_X1_init (Nat.le_of_ble_eq_true rfl) rfl dX1_init_58
theorem s_X1_init_59 : den sc d MX1_init 59 [l0, l1, some (.int x)] (r) g = den sc d MX1_init 60 [l0, l1, some (.int x)] (.int x :: r) g := eb_iload_n hM_X1_init rfl dX1_init_59
theorem s_X1_init_60 : den sc d MX1_init 60 [l0, l1, l2] (r) g = den sc d MX1_init 62 [l0, l1, l2] (.int (16) :: r) g := eb_bipush hM_X1_init rfl dX1_init_60
theorem s_X1_init_62 : den sc d MX1_init 62 [l0, l1, l2] (.int y :: .int x :: r) g = if y ≤ x then den sc d MX1_init 78 [l0, l1, l2] (r) g else den sc d MX1_init 65 [l0, l1, l2] (r) g := eb_icmp_ge hM_X1_init rfl dX1_init_62
theorem s_X1_init_65 : den sc d MX1_init 65 [some (.ref a), l1, l2] (r) g = den sc d MX1_init 66 [some (.ref a), l1, l2] (.ref a :: r) g := eb_aload_n hM_X1_init rfl dX1_init_65
theorem s_X1_init_66 : den sc d MX1_init 66 [l0, l1, l2] (.ref a :: r) g = mx_gf (g.1 a) 1 1 (fun v => den sc d MX1_init 69 [l0, l1, l2] (v :: r) g) := eb_gf hM_X1_init hC_X1_init rf_1_9 dX1_init_66
theorem s_X1_init_69 : den sc d MX1_init 69 [l0, l1, some (.int x)] (r) g = den sc d MX1_init 70 [l0, l1, some (.int x)] (.int x :: r) g := eb_iload_n hM_X1_init rfl dX1_init_69
theorem s_X1_init_70 : den sc d MX1_init 70 [l0, l1, some (.int x)] (r) g = den sc d MX1_init 71 [l0, l1, some (.int x)] (.int x :: r) g := eb_iload_n hM_X1_init rfl dX1_init_70
theorem s_X1_init_71 : den sc d MX1_init 71 [l0, l1, l2] (.int x :: .int i :: .ref a :: r) g = mx_ai (g.1 a) i (fun n f => den sc d MX1_init 72 [l0, l1, l2] (r) (mx_up g a (.inl (.int, n, .inl (upd f i.toNatClampNeg x))))) := eb_iast hM_X1_init dX1_init_71
theorem s_X1_init_72 {n1 : Nat} : den sc d MX1_init 72 [l0, some (.ref n1), some (.int x)] (r) g = den sc d MX1_init 75 [l0, some (.ref n1), some (.int (x + (1)))] (r) g := eb_iinc hM_X1_init rfl rfl rfl dX1_init_72
theorem s_X1_init_75 : den sc d MX1_init 75 [l0, l1, l2] (r) g = den sc d MX1_init 59 [l0, l1, l2] (r) g := eb_goto hM_X1_init rfl dX1_init_75
theorem s_X1_init_78 : den sc d MX1_init 78 [l0, l1, l2] ([]) g = some (none, g) := eb_retv hM_X1_init hT_X1_init dX1_init_78
end
section
variable {sc : mx_X} {d : Nat} {g : mx_G} {r : List Value} {x y i : Int32} {z x2 y2 : Int64} {a b : Nat} {l0 l1 l2 l3 l4 l5 l6 l7 l8 l9 l10 : Option Value}
theorem s_X1_becomes_0 : den sc d MX1_becomes 0 [l0, some (.ref a)] (r) g = den sc d MX1_becomes 1 [l0, some (.ref a)] (.ref a :: r) g := eb_aload_n hM_X1_becomes rfl dX1_becomes_0
theorem s_X1_becomes_1 : den sc d MX1_becomes 1 [l0, l1] (.ref a :: r) g = mx_gf (g.1 a) 1 1 (fun v => den sc d MX1_becomes 4 [l0, l1] (v :: r) g) := eb_gf hM_X1_becomes hC_X1_becomes rf_1_9 dX1_becomes_1
theorem s_X1_becomes_4 : den sc d MX1_becomes 4 [l0, l1] (r) g = den sc d MX1_becomes 5 [l0, l1] (.int (0) :: r) g := eb_iconst hM_X1_becomes rfl dX1_becomes_4
theorem s_X1_becomes_5 : den sc d MX1_becomes 5 [some (.ref a), l1] (r) g = den sc d MX1_becomes 6 [some (.ref a), l1] (.ref a :: r) g := eb_aload_n hM_X1_becomes rfl dX1_becomes_5
theorem s_X1_becomes_6 : den sc d MX1_becomes 6 [l0, l1] (.ref a :: r) g = mx_gf (g.1 a) 1 1 (fun v => den sc d MX1_becomes 9 [l0, l1] (v :: r) g) := eb_gf hM_X1_becomes hC_X1_becomes rf_1_9 dX1_becomes_6
theorem s_X1_becomes_9 : den sc d MX1_becomes 9 [l0, l1] (r) g = den sc d MX1_becomes 10 [l0, l1] (.int (0) :: r) g := eb_iconst hM_X1_becomes rfl dX1_becomes_9
theorem s_X1_becomes_10 : den sc d MX1_becomes 10 [l0, l1] (r) g = den sc d MX1_becomes 12 [l0, l1] (.int (16) :: r) g := eb_bipush hM_X1_becomes rfl dX1_becomes_10
theorem s_X1_becomes_12 {n dp sp : Int32} {n0 n1 : Nat} {f0 f1 : Nat → Int32} (hr : r.length ≤ 4) (h1 : ¬ n < 0) (h2 : ¬ dp < 0) (h3 : ¬ sp < 0) (hb : g.1 b = some (.inl (.int, n0, .inl f0))) (hg : g.1 a = some (.inl (.int, n1, .inl f1))) (h4 : sp.toNatClampNeg + n.toNatClampNeg ≤ n0) (h5 : dp.toNatClampNeg + n.toNatClampNeg ≤ n1) : den sc d MX1_becomes 12 [l0, l1] (.int n :: .int dp :: .ref a :: .int sp :: .ref b :: r) g = den sc d MX1_becomes 15 [l0, l1] (r) (mx_up g a (.inl (.int, n1, .inl (va_cpy f0 f1 sp.toNatClampNeg dp.toNatClampNeg n.toNatClampNeg)))) := eb_cpyi hM_X1_becomes hC_X1_becomes rfl rfl rfl dX1_becomes_12 hr h1 h2 h3 hb hg h4 h5
theorem s_X1_becomes_12l {n dp sp : Int32} {n0 n1 : Nat} {f0 f1 : Nat → Int64} (hr : r.length ≤ 4) (h1 : ¬ n < 0) (h2 : ¬ dp < 0) (h3 : ¬ sp < 0) (hb : g.1 b = some (.inl (.long, n0, .inr (.inl f0)))) (hg : g.1 a = some (.inl (.long, n1, .inr (.inl f1)))) (h4 : sp.toNatClampNeg + n.toNatClampNeg ≤ n0) (h5 : dp.toNatClampNeg + n.toNatClampNeg ≤ n1) : den sc d MX1_becomes 12 [l0, l1] (.int n :: .int dp :: .ref a :: .int sp :: .ref b :: r) g = den sc d MX1_becomes 15 [l0, l1] (r) (mx_up g a (.inl (.long, n1, .inr (.inl (va_cpy f0 f1 sp.toNatClampNeg dp.toNatClampNeg n.toNatClampNeg))))) := eb_cpyl hM_X1_becomes hC_X1_becomes rfl rfl rfl dX1_becomes_12 hr h1 h2 h3 hb hg h4 h5
theorem s_X1_becomes_15 : den sc d MX1_becomes 15 [l0, some (.ref a)] (r) g = den sc d MX1_becomes 16 [l0, some (.ref a)] (.ref a :: r) g := eb_aload_n hM_X1_becomes rfl dX1_becomes_15
theorem s_X1_becomes_16 : den sc d MX1_becomes 16 [l0, l1] (.ref a :: r) g = mx_gf (g.1 a) 1 2 (fun v => den sc d MX1_becomes 19 [l0, l1] (v :: r) g) := eb_gf hM_X1_becomes hC_X1_becomes rf_1_15 dX1_becomes_16
theorem s_X1_becomes_19 : den sc d MX1_becomes 19 [l0, l1] (r) g = den sc d MX1_becomes 20 [l0, l1] (.int (0) :: r) g := eb_iconst hM_X1_becomes rfl dX1_becomes_19
theorem s_X1_becomes_20 : den sc d MX1_becomes 20 [some (.ref a), l1] (r) g = den sc d MX1_becomes 21 [some (.ref a), l1] (.ref a :: r) g := eb_aload_n hM_X1_becomes rfl dX1_becomes_20
theorem s_X1_becomes_21 : den sc d MX1_becomes 21 [l0, l1] (.ref a :: r) g = mx_gf (g.1 a) 1 2 (fun v => den sc d MX1_becomes 24 [l0, l1] (v :: r) g) := eb_gf hM_X1_becomes hC_X1_becomes rf_1_15 dX1_becomes_21
theorem s_X1_becomes_24 : den sc d MX1_becomes 24 [l0, l1] (r) g = den sc d MX1_becomes 25 [l0, l1] (.int (0) :: r) g := eb_iconst hM_X1_becomes rfl dX1_becomes_24
theorem s_X1_becomes_25 : den sc d MX1_becomes 25 [l0, l1] (r) g = den sc d MX1_becomes 27 [l0, l1] (.int (8) :: r) g := eb_bipush hM_X1_becomes rfl dX1_becomes_25
theorem s_X1_becomes_27 {n dp sp : Int32} {n0 n1 : Nat} {f0 f1 : Nat → Int32} (hr : r.length ≤ 4) (h1 : ¬ n < 0) (h2 : ¬ dp < 0) (h3 : ¬ sp < 0) (hb : g.1 b = some (.inl (.int, n0, .inl f0))) (hg : g.1 a = some (.inl (.int, n1, .inl f1))) (h4 : sp.toNatClampNeg + n.toNatClampNeg ≤ n0) (h5 : dp.toNatClampNeg + n.toNatClampNeg ≤ n1) : den sc d MX1_becomes 27 [l0, l1] (.int n :: .int dp :: .ref a :: .int sp :: .ref b :: r) g = den sc d MX1_becomes 30 [l0, l1] (r) (mx_up g a (.inl (.int, n1, .inl (va_cpy f0 f1 sp.toNatClampNeg dp.toNatClampNeg n.toNatClampNeg)))) := eb_cpyi hM_X1_becomes hC_X1_becomes rfl rfl rfl dX1_becomes_27 hr h1 h2 h3 hb hg h4 h5
theorem s_X1_becomes_27l {n dp sp : Int32} {n0 n1 : Nat} {f0 f1 : Nat → Int64} (hr : r.length ≤ 4) (h1 : ¬ n < 0) (h2 : ¬ dp < 0) (h3 : ¬ sp < 0) (hb : g.1 b = some (.inl (.long, n0, .inr (.inl f0)))) (hg : g.1 a = some (.inl (.long, n1, .inr (.inl f1)))) (h4 : sp.toNatClampNeg + n.toNatClampNeg ≤ n0) (h5 : dp.toNatClampNeg + n.toNatClampNeg ≤ n1) : den sc d MX1_becomes 27 [l0, l1] (.int n :: .int dp :: .ref a :: .int sp :: .ref b :: r) g = den sc d MX1_becomes 30 [l0, l1] (r) (mx_up g a (.inl (.long, n1, .inr (.inl (va_cpy f0 f1 sp.toNatClampNeg dp.toNatClampNeg n.toNatClampNeg))))) := eb_cpyl hM_X1_becomes hC_X1_becomes rfl rfl rfl dX1_becomes_27 hr h1 h2 h3 hb hg h4 h5
theorem s_X1_becomes_30 : den sc d MX1_becomes 30 [l0, some (.ref a)] (r) g = den sc d MX1_becomes 31 [l0, some (.ref a)] (.ref a :: r) g := eb_aload_n hM_X1_becomes rfl dX1_becomes_30
theorem s_X1_becomes_31 : den sc d MX1_becomes 31 [l0, l1] (.ref a :: r) g = mx_gf (g.1 a) 1 3 (fun v => den sc d MX1_becomes 34 [l0, l1] (v :: r) g) := eb_gf hM_X1_becomes hC_X1_becomes rf_1_18 dX1_becomes_31
theorem s_X1_becomes_34 : den sc d MX1_becomes 34 [l0, l1] (r) g = den sc d MX1_becomes 35 [l0, l1] (.int (0) :: r) g := eb_iconst hM_X1_becomes rfl dX1_becomes_34
theorem s_X1_becomes_35 : den sc d MX1_becomes 35 [some (.ref a), l1] (r) g = den sc d MX1_becomes 36 [some (.ref a), l1] (.ref a :: r) g := eb_aload_n hM_X1_becomes rfl dX1_becomes_35
theorem s_X1_becomes_36 : den sc d MX1_becomes 36 [l0, l1] (.ref a :: r) g = mx_gf (g.1 a) 1 3 (fun v => den sc d MX1_becomes 39 [l0, l1] (v :: r) g) := eb_gf hM_X1_becomes hC_X1_becomes rf_1_18 dX1_becomes_36
theorem s_X1_becomes_39 : den sc d MX1_becomes 39 [l0, l1] (r) g = den sc d MX1_becomes 40 [l0, l1] (.int (0) :: r) g := eb_iconst hM_X1_becomes rfl dX1_becomes_39
theorem s_X1_becomes_40 : den sc d MX1_becomes 40 [l0, l1] (r) g = den sc d MX1_becomes 42 [l0, l1] (.int (8) :: r) g := eb_bipush hM_X1_becomes rfl dX1_becomes_40
theorem s_X1_becomes_42 {n dp sp : Int32} {n0 n1 : Nat} {f0 f1 : Nat → Int32} (hr : r.length ≤ 4) (h1 : ¬ n < 0) (h2 : ¬ dp < 0) (h3 : ¬ sp < 0) (hb : g.1 b = some (.inl (.int, n0, .inl f0))) (hg : g.1 a = some (.inl (.int, n1, .inl f1))) (h4 : sp.toNatClampNeg + n.toNatClampNeg ≤ n0) (h5 : dp.toNatClampNeg + n.toNatClampNeg ≤ n1) : den sc d MX1_becomes 42 [l0, l1] (.int n :: .int dp :: .ref a :: .int sp :: .ref b :: r) g = den sc d MX1_becomes 45 [l0, l1] (r) (mx_up g a (.inl (.int, n1, .inl (va_cpy f0 f1 sp.toNatClampNeg dp.toNatClampNeg n.toNatClampNeg)))) := eb_cpyi hM_X1_becomes hC_X1_becomes rfl rfl rfl dX1_becomes_42 hr h1 h2 h3 hb hg h4 h5
theorem s_X1_becomes_42l {n dp sp : Int32} {n0 n1 : Nat} {f0 f1 : Nat → Int64} (hr : r.length ≤ 4) (h1 : ¬ n < 0) (h2 : ¬ dp < 0) (h3 : ¬ sp < 0) (hb : g.1 b = some (.inl (.long, n0, .inr (.inl f0)))) (hg : g.1 a = some (.inl (.long, n1, .inr (.inl f1)))) (h4 : sp.toNatClampNeg + n.toNatClampNeg ≤ n0) (h5 : dp.toNatClampNeg + n.toNatClampNeg ≤ n1) : den sc d MX1_becomes 42 [l0, l1] (.int n :: .int dp :: .ref a :: .int sp :: .ref b :: r) g = den sc d MX1_becomes 45 [l0, l1] (r) (mx_up g a (.inl (.long, n1, .inr (.inl (va_cpy f0 f1 sp.toNatClampNeg dp.toNatClampNeg n.toNatClampNeg))))) := eb_cpyl hM_X1_becomes hC_X1_becomes rfl rfl rfl dX1_becomes_42 hr h1 h2 h3 hb hg h4 h5
theorem s_X1_becomes_45 : den sc d MX1_becomes 45 [l0, some (.ref a)] (r) g = den sc d MX1_becomes 46 [l0, some (.ref a)] (.ref a :: r) g := eb_aload_n hM_X1_becomes rfl dX1_becomes_45
theorem s_X1_becomes_46 : den sc d MX1_becomes 46 [l0, l1] (.ref a :: r) g = mx_gf (g.1 a) 1 4 (fun v => den sc d MX1_becomes 49 [l0, l1] (v :: r) g) := eb_gf hM_X1_becomes hC_X1_becomes rf_1_21 dX1_becomes_46
theorem s_X1_becomes_49 : den sc d MX1_becomes 49 [l0, l1] (r) g = den sc d MX1_becomes 50 [l0, l1] (.int (0) :: r) g := eb_iconst hM_X1_becomes rfl dX1_becomes_49
theorem s_X1_becomes_50 : den sc d MX1_becomes 50 [some (.ref a), l1] (r) g = den sc d MX1_becomes 51 [some (.ref a), l1] (.ref a :: r) g := eb_aload_n hM_X1_becomes rfl dX1_becomes_50
theorem s_X1_becomes_51 : den sc d MX1_becomes 51 [l0, l1] (.ref a :: r) g = mx_gf (g.1 a) 1 4 (fun v => den sc d MX1_becomes 54 [l0, l1] (v :: r) g) := eb_gf hM_X1_becomes hC_X1_becomes rf_1_21 dX1_becomes_51
theorem s_X1_becomes_54 : den sc d MX1_becomes 54 [l0, l1] (r) g = den sc d MX1_becomes 55 [l0, l1] (.int (0) :: r) g := eb_iconst hM_X1_becomes rfl dX1_becomes_54
theorem s_X1_becomes_55 : den sc d MX1_becomes 55 [l0, l1] (r) g = den sc d MX1_becomes 57 [l0, l1] (.int (8) :: r) g := eb_bipush hM_X1_becomes rfl dX1_becomes_55
theorem s_X1_becomes_57 {n dp sp : Int32} {n0 n1 : Nat} {f0 f1 : Nat → Int32} (hr : r.length ≤ 4) (h1 : ¬ n < 0) (h2 : ¬ dp < 0) (h3 : ¬ sp < 0) (hb : g.1 b = some (.inl (.int, n0, .inl f0))) (hg : g.1 a = some (.inl (.int, n1, .inl f1))) (h4 : sp.toNatClampNeg + n.toNatClampNeg ≤ n0) (h5 : dp.toNatClampNeg + n.toNatClampNeg ≤ n1) : den sc d MX1_becomes 57 [l0, l1] (.int n :: .int dp :: .ref a :: .int sp :: .ref b :: r) g = den sc d MX1_becomes 60 [l0, l1] (r) (mx_up g a (.inl (.int, n1, .inl (va_cpy f0 f1 sp.toNatClampNeg dp.toNatClampNeg n.toNatClampNeg)))) := eb_cpyi hM_X1_becomes hC_X1_becomes rfl rfl rfl dX1_becomes_57 hr h1 h2 h3 hb hg h4 h5
theorem s_X1_becomes_57l {n dp sp : Int32} {n0 n1 : Nat} {f0 f1 : Nat → Int64} (hr : r.length ≤ 4) (h1 : ¬ n < 0) (h2 : ¬ dp < 0) (h3 : ¬ sp < 0) (hb : g.1 b = some (.inl (.long, n0, .inr (.inl f0)))) (hg : g.1 a = some (.inl (.long, n1, .inr (.inl f1)))) (h4 : sp.toNatClampNeg + n.toNatClampNeg ≤ n0) (h5 : dp.toNatClampNeg + n.toNatClampNeg ≤ n1) : den sc d MX1_becomes 57 [l0, l1] (.int n :: .int dp :: .ref a :: .int sp :: .ref b :: r) g = den sc d MX1_becomes 60 [l0, l1] (r) (mx_up g a (.inl (.long, n1, .inr (.inl (va_cpy f0 f1 sp.toNatClampNeg dp.toNatClampNeg n.toNatClampNeg))))) := eb_cpyl hM_X1_becomes hC_X1_becomes rfl rfl rfl dX1_becomes_57 hr h1 h2 h3 hb hg h4 h5
theorem s_X1_becomes_60 : den sc d MX1_becomes 60 [l0, some (.ref a)] (r) g = den sc d MX1_becomes 61 [l0, some (.ref a)] (.ref a :: r) g := eb_aload_n hM_X1_becomes rfl dX1_becomes_60
theorem s_X1_becomes_61 : den sc d MX1_becomes 61 [l0, l1] (.ref a :: r) g = mx_gf (g.1 a) 1 5 (fun v => den sc d MX1_becomes 64 [l0, l1] (v :: r) g) := eb_gf hM_X1_becomes hC_X1_becomes rf_1_24 dX1_becomes_61
theorem s_X1_becomes_64 : den sc d MX1_becomes 64 [l0, l1] (r) g = den sc d MX1_becomes 65 [l0, l1] (.int (0) :: r) g := eb_iconst hM_X1_becomes rfl dX1_becomes_64
theorem s_X1_becomes_65 : den sc d MX1_becomes 65 [some (.ref a), l1] (r) g = den sc d MX1_becomes 66 [some (.ref a), l1] (.ref a :: r) g := eb_aload_n hM_X1_becomes rfl dX1_becomes_65
theorem s_X1_becomes_66 : den sc d MX1_becomes 66 [l0, l1] (.ref a :: r) g = mx_gf (g.1 a) 1 5 (fun v => den sc d MX1_becomes 69 [l0, l1] (v :: r) g) := eb_gf hM_X1_becomes hC_X1_becomes rf_1_24 dX1_becomes_66
theorem s_X1_becomes_69 : den sc d MX1_becomes 69 [l0, l1] (r) g = den sc d MX1_becomes 70 [l0, l1] (.int (0) :: r) g := eb_iconst hM_X1_becomes rfl dX1_becomes_69
theorem s_X1_becomes_70 : den sc d MX1_becomes 70 [l0, l1] (r) g = den sc d MX1_becomes 72 [l0, l1] (.int (8) :: r) g := eb_bipush hM_X1_becomes rfl dX1_becomes_70
theorem s_X1_becomes_72 {n dp sp : Int32} {n0 n1 : Nat} {f0 f1 : Nat → Int32} (hr : r.length ≤ 4) (h1 : ¬ n < 0) (h2 : ¬ dp < 0) (h3 : ¬ sp < 0) (hb : g.1 b = some (.inl (.int, n0, .inl f0))) (hg : g.1 a = some (.inl (.int, n1, .inl f1))) (h4 : sp.toNatClampNeg + n.toNatClampNeg ≤ n0) (h5 : dp.toNatClampNeg + n.toNatClampNeg ≤ n1) : den sc d MX1_becomes 72 [l0, l1] (.int n :: .int dp :: .ref a :: .int sp :: .ref b :: r) g = den sc d MX1_becomes 75 [l0, l1] (r) (mx_up g a (.inl (.int, n1, .inl (va_cpy f0 f1 sp.toNatClampNeg dp.toNatClampNeg n.toNatClampNeg)))) := eb_cpyi hM_X1_becomes hC_X1_becomes rfl rfl rfl dX1_becomes_72 hr h1 h2 h3 hb hg h4 h5
theorem s_X1_becomes_72l {n dp sp : Int32} {n0 n1 : Nat} {f0 f1 : Nat → Int64} (hr : r.length ≤ 4) (h1 : ¬ n < 0) (h2 : ¬ dp < 0) (h3 : ¬ sp < 0) (hb : g.1 b = some (.inl (.long, n0, .inr (.inl f0)))) (hg : g.1 a = some (.inl (.long, n1, .inr (.inl f1)))) (h4 : sp.toNatClampNeg + n.toNatClampNeg ≤ n0) (h5 : dp.toNatClampNeg + n.toNatClampNeg ≤ n1) : den sc d MX1_becomes 72 [l0, l1] (.int n :: .int dp :: .ref a :: .int sp :: .ref b :: r) g = den sc d MX1_becomes 75 [l0, l1] (r) (mx_up g a (.inl (.long, n1, .inr (.inl (va_cpy f0 f1 sp.toNatClampNeg dp.toNatClampNeg n.toNatClampNeg))))) := eb_cpyl hM_X1_becomes hC_X1_becomes rfl rfl rfl dX1_becomes_72 hr h1 h2 h3 hb hg h4 h5
theorem s_X1_becomes_75 : den sc d MX1_becomes 75 [l0, some (.ref a)] (r) g = den sc d MX1_becomes 76 [l0, some (.ref a)] (.ref a :: r) g := eb_aload_n hM_X1_becomes rfl dX1_becomes_75
theorem s_X1_becomes_76 : den sc d MX1_becomes 76 [l0, l1] (.ref a :: r) g = mx_gf (g.1 a) 1 6 (fun v => den sc d MX1_becomes 79 [l0, l1] (v :: r) g) := eb_gf hM_X1_becomes hC_X1_becomes rf_1_27 dX1_becomes_76
theorem s_X1_becomes_79 : den sc d MX1_becomes 79 [l0, l1] (r) g = den sc d MX1_becomes 80 [l0, l1] (.int (0) :: r) g := eb_iconst hM_X1_becomes rfl dX1_becomes_79
theorem s_X1_becomes_80 : den sc d MX1_becomes 80 [some (.ref a), l1] (r) g = den sc d MX1_becomes 81 [some (.ref a), l1] (.ref a :: r) g := eb_aload_n hM_X1_becomes rfl dX1_becomes_80
theorem s_X1_becomes_81 : den sc d MX1_becomes 81 [l0, l1] (.ref a :: r) g = mx_gf (g.1 a) 1 6 (fun v => den sc d MX1_becomes 84 [l0, l1] (v :: r) g) := eb_gf hM_X1_becomes hC_X1_becomes rf_1_27 dX1_becomes_81
theorem s_X1_becomes_84 : den sc d MX1_becomes 84 [l0, l1] (r) g = den sc d MX1_becomes 85 [l0, l1] (.int (0) :: r) g := eb_iconst hM_X1_becomes rfl dX1_becomes_84
theorem s_X1_becomes_85 : den sc d MX1_becomes 85 [l0, l1] (r) g = den sc d MX1_becomes 87 [l0, l1] (.int (8) :: r) g := eb_bipush hM_X1_becomes rfl dX1_becomes_85
theorem s_X1_becomes_87 {n dp sp : Int32} {n0 n1 : Nat} {f0 f1 : Nat → Int32} (hr : r.length ≤ 4) (h1 : ¬ n < 0) (h2 : ¬ dp < 0) (h3 : ¬ sp < 0) (hb : g.1 b = some (.inl (.int, n0, .inl f0))) (hg : g.1 a = some (.inl (.int, n1, .inl f1))) (h4 : sp.toNatClampNeg + n.toNatClampNeg ≤ n0) (h5 : dp.toNatClampNeg + n.toNatClampNeg ≤ n1) : den sc d MX1_becomes 87 [l0, l1] (.int n :: .int dp :: .ref a :: .int sp :: .ref b :: r) g = den sc d MX1_becomes 90 [l0, l1] (r) (mx_up g a (.inl (.int, n1, .inl (va_cpy f0 f1 sp.toNatClampNeg dp.toNatClampNeg n.toNatClampNeg)))) := eb_cpyi hM_X1_becomes hC_X1_becomes rfl rfl rfl dX1_becomes_87 hr h1 h2 h3 hb hg h4 h5
theorem s_X1_becomes_87l {n dp sp : Int32} {n0 n1 : Nat} {f0 f1 : Nat → Int64} (hr : r.length ≤ 4) (h1 : ¬ n < 0) (h2 : ¬ dp < 0) (h3 : ¬ sp < 0) (hb : g.1 b = some (.inl (.long, n0, .inr (.inl f0)))) (hg : g.1 a = some (.inl (.long, n1, .inr (.inl f1)))) (h4 : sp.toNatClampNeg + n.toNatClampNeg ≤ n0) (h5 : dp.toNatClampNeg + n.toNatClampNeg ≤ n1) : den sc d MX1_becomes 87 [l0, l1] (.int n :: .int dp :: .ref a :: .int sp :: .ref b :: r) g = den sc d MX1_becomes 90 [l0, l1] (r) (mx_up g a (.inl (.long, n1, .inr (.inl (va_cpy f0 f1 sp.toNatClampNeg dp.toNatClampNeg n.toNatClampNeg))))) := eb_cpyl hM_X1_becomes hC_X1_becomes rfl rfl rfl dX1_becomes_87 hr h1 h2 h3 hb hg h4 h5
theorem s_X1_becomes_90 : den sc d MX1_becomes 90 [some (.ref a), l1] (r) g = den sc d MX1_becomes 91 [some (.ref a), l1] (.ref a :: r) g := eb_aload_n hM_X1_becomes rfl dX1_becomes_90
theorem s_X1_becomes_91 : den sc d MX1_becomes 91 [l0, some (.ref a)] (r) g = den sc d MX1_becomes 92 [l0, some (.ref a)] (.ref a :: r) g := eb_aload_n hM_X1_becomes rfl dX1_becomes_91
theorem s_X1_becomes_92 : den sc d MX1_becomes 92 [l0, l1] (.ref a :: r) g = mx_gf (g.1 a) 1 7 (fun v => den sc d MX1_becomes 95 [l0, l1] (v :: r) g) := eb_gf hM_X1_becomes hC_X1_becomes rf_1_40 dX1_becomes_92
theorem s_X1_becomes_95 : den sc d MX1_becomes 95 [l0, l1] (.int x :: .ref a :: r) g = mx_pf (g.1 a) 1 7 (fun fs => den sc d MX1_becomes 98 [l0, l1] (r) (mx_up g a (.inr (1, fs.set 7 (.int x))))) := eb_pf hM_X1_becomes hC_X1_becomes rf_1_40 rfl rfl dX1_becomes_95
theorem s_X1_becomes_98 : den sc d MX1_becomes 98 [some (.ref a), l1] (r) g = den sc d MX1_becomes 99 [some (.ref a), l1] (.ref a :: r) g := eb_aload_n hM_X1_becomes rfl dX1_becomes_98
theorem s_X1_becomes_99 : den sc d MX1_becomes 99 [l0, some (.ref a)] (r) g = den sc d MX1_becomes 100 [l0, some (.ref a)] (.ref a :: r) g := eb_aload_n hM_X1_becomes rfl dX1_becomes_99
theorem s_X1_becomes_100 : den sc d MX1_becomes 100 [l0, l1] (.ref a :: r) g = mx_gf (g.1 a) 1 8 (fun v => den sc d MX1_becomes 103 [l0, l1] (v :: r) g) := eb_gf hM_X1_becomes hC_X1_becomes rf_1_44 dX1_becomes_100
theorem s_X1_becomes_103 : den sc d MX1_becomes 103 [l0, l1] (.int x :: .ref a :: r) g = mx_pf (g.1 a) 1 8 (fun fs => den sc d MX1_becomes 106 [l0, l1] (r) (mx_up g a (.inr (1, fs.set 8 (.int x))))) := eb_pf hM_X1_becomes hC_X1_becomes rf_1_44 rfl rfl dX1_becomes_103
theorem s_X1_becomes_106 : den sc d MX1_becomes 106 [some (.ref a), l1] (r) g = den sc d MX1_becomes 107 [some (.ref a), l1] (.ref a :: r) g := eb_aload_n hM_X1_becomes rfl dX1_becomes_106
theorem s_X1_becomes_107 : den sc d MX1_becomes 107 [l0, some (.ref a)] (r) g = den sc d MX1_becomes 108 [l0, some (.ref a)] (.ref a :: r) g := eb_aload_n hM_X1_becomes rfl dX1_becomes_107
theorem s_X1_becomes_108 : den sc d MX1_becomes 108 [l0, l1] (.ref a :: r) g = mx_gf (g.1 a) 1 9 (fun v => den sc d MX1_becomes 111 [l0, l1] (v :: r) g) := eb_gf hM_X1_becomes hC_X1_becomes rf_1_47 dX1_becomes_108
theorem s_X1_becomes_111 : den sc d MX1_becomes 111 [l0, l1] (.int x :: .ref a :: r) g = mx_pf (g.1 a) 1 9 (fun fs => den sc d MX1_becomes 114 [l0, l1] (r) (mx_up g a (.inr (1, fs.set 9 (.int x))))) := eb_pf hM_X1_becomes hC_X1_becomes rf_1_47 rfl rfl dX1_becomes_111
theorem s_X1_becomes_114 : den sc d MX1_becomes 114 [l0, l1] ([]) g = some (none, g) := eb_retv hM_X1_becomes hT_X1_becomes dX1_becomes_114
end
section
variable {sc : mx_X} {d : Nat} {g : mx_G} {r : List Value} {x y i : Int32} {z x2 y2 : Int64} {a b : Nat} {l0 l1 l2 l3 l4 l5 l6 l7 l8 l9 l10 : Option Value}
theorem s_X1_addPerson_0 : den sc d MX1_addPerson 0 [some (.ref a), l1, l2] (r) g = den sc d MX1_addPerson 1 [some (.ref a), l1, l2] (.ref a :: r) g := eb_aload_n hM_X1_addPerson rfl dX1_addPerson_0
theorem s_X1_addPerson_1 : den sc d MX1_addPerson 1 [l0, l1, l2] (.ref a :: r) g = mx_gf (g.1 a) 1 7 (fun v => den sc d MX1_addPerson 4 [l0, l1, l2] (v :: r) g) := eb_gf hM_X1_addPerson hC_X1_addPerson rf_1_40 dX1_addPerson_1
theorem s_X1_addPerson_4 {n1 : Int32} : den sc d MX1_addPerson 4 [l0, some (.int n1), l2] (.int x :: r) g = den sc d MX1_addPerson 5 [l0, some (.int n1), some (.int x)] (r) g := eb_istore_n hM_X1_addPerson (Nat.le_of_ble_eq_true rfl) rfl dX1_addPerson_4
theorem s_X1_addPerson_5 : den sc d MX1_addPerson 5 [some (.ref a), l1, l2] (r) g = den sc d MX1_addPerson 6 [some (.ref a), l1, l2] (.ref a :: r) g := eb_aload_n hM_X1_addPerson rfl dX1_addPerson_5
theorem s_X1_addPerson_6 : den sc d MX1_addPerson 6 [l0, l1, l2] (.ref a :: r) g = mx_gf (g.1 a) 1 2 (fun v => den sc d MX1_addPerson 9 [l0, l1, l2] (v :: r) g) := eb_gf hM_X1_addPerson hC_X1_addPerson rf_1_15 dX1_addPerson_6
theorem s_X1_addPerson_9 : den sc d MX1_addPerson 9 [l0, l1, some (.int x)] (r) g = den sc d MX1_addPerson 10 [l0, l1, some (.int x)] (.int x :: r) g := eb_iload_n hM_X1_addPerson rfl dX1_addPerson_9
theorem s_X1_addPerson_10 : den sc d MX1_addPerson 10 [l0, some (.int x), l2] (r) g = den sc d MX1_addPerson 11 [l0, some (.int x), l2] (.int x :: r) g := eb_iload_n hM_X1_addPerson rfl dX1_addPerson_10
theorem s_X1_addPerson_11 : den sc d MX1_addPerson 11 [l0, l1, l2] (.int x :: .int i :: .ref a :: r) g = mx_ai (g.1 a) i (fun n f => den sc d MX1_addPerson 12 [l0, l1, l2] (r) (mx_up g a (.inl (.int, n, .inl (upd f i.toNatClampNeg x))))) := eb_iast hM_X1_addPerson dX1_addPerson_11
theorem s_X1_addPerson_12 : den sc d MX1_addPerson 12 [some (.ref a), l1, l2] (r) g = den sc d MX1_addPerson 13 [some (.ref a), l1, l2] (.ref a :: r) g := eb_aload_n hM_X1_addPerson rfl dX1_addPerson_12
theorem s_X1_addPerson_13 : den sc d MX1_addPerson 13 [l0, l1, l2] (.ref a :: r) g = mx_gf (g.1 a) 1 3 (fun v => den sc d MX1_addPerson 16 [l0, l1, l2] (v :: r) g) := eb_gf hM_X1_addPerson hC_X1_addPerson rf_1_18 dX1_addPerson_13
theorem s_X1_addPerson_16 : den sc d MX1_addPerson 16 [l0, l1, some (.int x)] (r) g = den sc d MX1_addPerson 17 [l0, l1, some (.int x)] (.int x :: r) g := eb_iload_n hM_X1_addPerson rfl dX1_addPerson_16
theorem s_X1_addPerson_17 : den sc d MX1_addPerson 17 [l0, l1, l2] (r) g = den sc d MX1_addPerson 18 [l0, l1, l2] (.int (0) :: r) g := eb_iconst hM_X1_addPerson rfl dX1_addPerson_17
theorem s_X1_addPerson_18 : den sc d MX1_addPerson 18 [l0, l1, l2] (.int x :: .int i :: .ref a :: r) g = mx_ai (g.1 a) i (fun n f => den sc d MX1_addPerson 19 [l0, l1, l2] (r) (mx_up g a (.inl (.int, n, .inl (upd f i.toNatClampNeg x))))) := eb_iast hM_X1_addPerson dX1_addPerson_18
theorem s_X1_addPerson_19 : den sc d MX1_addPerson 19 [some (.ref a), l1, l2] (r) g = den sc d MX1_addPerson 20 [some (.ref a), l1, l2] (.ref a :: r) g := eb_aload_n hM_X1_addPerson rfl dX1_addPerson_19
theorem s_X1_addPerson_20 : den sc d MX1_addPerson 20 [l0, l1, l2] (.ref a :: r) g = mx_gf (g.1 a) 1 4 (fun v => den sc d MX1_addPerson 23 [l0, l1, l2] (v :: r) g) := eb_gf hM_X1_addPerson hC_X1_addPerson rf_1_21 dX1_addPerson_20
theorem s_X1_addPerson_23 : den sc d MX1_addPerson 23 [l0, l1, some (.int x)] (r) g = den sc d MX1_addPerson 24 [l0, l1, some (.int x)] (.int x :: r) g := eb_iload_n hM_X1_addPerson rfl dX1_addPerson_23
theorem s_X1_addPerson_24 : den sc d MX1_addPerson 24 [l0, l1, l2] (r) g = den sc d MX1_addPerson 25 [l0, l1, l2] (.int (0) :: r) g := eb_iconst hM_X1_addPerson rfl dX1_addPerson_24
theorem s_X1_addPerson_25 : den sc d MX1_addPerson 25 [l0, l1, l2] (.int x :: .int i :: .ref a :: r) g = mx_ai (g.1 a) i (fun n f => den sc d MX1_addPerson 26 [l0, l1, l2] (r) (mx_up g a (.inl (.int, n, .inl (upd f i.toNatClampNeg x))))) := eb_iast hM_X1_addPerson dX1_addPerson_25
theorem s_X1_addPerson_26 : den sc d MX1_addPerson 26 [some (.ref a), l1, l2] (r) g = den sc d MX1_addPerson 27 [some (.ref a), l1, l2] (.ref a :: r) g := eb_aload_n hM_X1_addPerson rfl dX1_addPerson_26
theorem s_X1_addPerson_27 : den sc d MX1_addPerson 27 [l0, l1, l2] (.ref a :: r) g = mx_gf (g.1 a) 1 5 (fun v => den sc d MX1_addPerson 30 [l0, l1, l2] (v :: r) g) := eb_gf hM_X1_addPerson hC_X1_addPerson rf_1_24 dX1_addPerson_27
theorem s_X1_addPerson_30 : den sc d MX1_addPerson 30 [l0, l1, some (.int x)] (r) g = den sc d MX1_addPerson 31 [l0, l1, some (.int x)] (.int x :: r) g := eb_iload_n hM_X1_addPerson rfl dX1_addPerson_30
theorem s_X1_addPerson_31 : den sc d MX1_addPerson 31 [l0, l1, l2] (r) g = den sc d MX1_addPerson 32 [l0, l1, l2] (.int (-1) :: r) g := eb_iconst hM_X1_addPerson rfl dX1_addPerson_31
theorem s_X1_addPerson_32 : den sc d MX1_addPerson 32 [l0, l1, l2] (.int x :: .int i :: .ref a :: r) g = mx_ai (g.1 a) i (fun n f => den sc d MX1_addPerson 33 [l0, l1, l2] (r) (mx_up g a (.inl (.int, n, .inl (upd f i.toNatClampNeg x))))) := eb_iast hM_X1_addPerson dX1_addPerson_32
theorem s_X1_addPerson_33 : den sc d MX1_addPerson 33 [some (.ref a), l1, l2] (r) g = den sc d MX1_addPerson 34 [some (.ref a), l1, l2] (.ref a :: r) g := eb_aload_n hM_X1_addPerson rfl dX1_addPerson_33
theorem s_X1_addPerson_34 : den sc d MX1_addPerson 34 [l0, l1, l2] (.ref a :: r) g = mx_gf (g.1 a) 1 6 (fun v => den sc d MX1_addPerson 37 [l0, l1, l2] (v :: r) g) := eb_gf hM_X1_addPerson hC_X1_addPerson rf_1_27 dX1_addPerson_34
theorem s_X1_addPerson_37 : den sc d MX1_addPerson 37 [l0, l1, some (.int x)] (r) g = den sc d MX1_addPerson 38 [l0, l1, some (.int x)] (.int x :: r) g := eb_iload_n hM_X1_addPerson rfl dX1_addPerson_37
theorem s_X1_addPerson_38 : den sc d MX1_addPerson 38 [l0, l1, l2] (r) g = den sc d MX1_addPerson 39 [l0, l1, l2] (.int (0) :: r) g := eb_iconst hM_X1_addPerson rfl dX1_addPerson_38
theorem s_X1_addPerson_39 : den sc d MX1_addPerson 39 [l0, l1, l2] (.int x :: .int i :: .ref a :: r) g = mx_ai (g.1 a) i (fun n f => den sc d MX1_addPerson 40 [l0, l1, l2] (r) (mx_up g a (.inl (.int, n, .inl (upd f i.toNatClampNeg x))))) := eb_iast hM_X1_addPerson dX1_addPerson_39
theorem s_X1_addPerson_40 : den sc d MX1_addPerson 40 [some (.ref a), l1, l2] (r) g = den sc d MX1_addPerson 41 [some (.ref a), l1, l2] (.ref a :: r) g := eb_aload_n hM_X1_addPerson rfl dX1_addPerson_40
theorem s_X1_addPerson_41 : den sc d MX1_addPerson 41 [l0, l1, l2] (.ref a :: r) g = den sc d MX1_addPerson 42 [l0, l1, l2] (.ref a :: .ref a :: r) g := eb_dupa hM_X1_addPerson dX1_addPerson_41
theorem s_X1_addPerson_41i : den sc d MX1_addPerson 41 [l0, l1, l2] (.int x :: r) g = den sc d MX1_addPerson 42 [l0, l1, l2] (.int x :: .int x :: r) g := eb_dupi hM_X1_addPerson dX1_addPerson_41
theorem s_X1_addPerson_42 : den sc d MX1_addPerson 42 [l0, l1, l2] (.ref a :: r) g = mx_gf (g.1 a) 1 7 (fun v => den sc d MX1_addPerson 45 [l0, l1, l2] (v :: r) g) := eb_gf hM_X1_addPerson hC_X1_addPerson rf_1_40 dX1_addPerson_42
theorem s_X1_addPerson_45 : den sc d MX1_addPerson 45 [l0, l1, l2] (r) g = den sc d MX1_addPerson 46 [l0, l1, l2] (.int (1) :: r) g := eb_iconst hM_X1_addPerson rfl dX1_addPerson_45
theorem s_X1_addPerson_46 : den sc d MX1_addPerson 46 [l0, l1, l2] (.int y :: .int x :: r) g = den sc d MX1_addPerson 47 [l0, l1, l2] (.int (x + y) :: r) g := eb_iadd hM_X1_addPerson dX1_addPerson_46
theorem s_X1_addPerson_47 : den sc d MX1_addPerson 47 [l0, l1, l2] (.int x :: .ref a :: r) g = mx_pf (g.1 a) 1 7 (fun fs => den sc d MX1_addPerson 50 [l0, l1, l2] (r) (mx_up g a (.inr (1, fs.set 7 (.int x))))) := eb_pf hM_X1_addPerson hC_X1_addPerson rf_1_40 rfl rfl dX1_addPerson_47
theorem s_X1_addPerson_50 : den sc d MX1_addPerson 50 [l0, l1, some (.int x)] (r) g = den sc d MX1_addPerson 51 [l0, l1, some (.int x)] (.int x :: r) g := eb_iload_n hM_X1_addPerson rfl dX1_addPerson_50
theorem s_X1_addPerson_51 : den sc d MX1_addPerson 51 [l0, l1, l2] ([.int x]) g = some (some (.int x), g) := eb_reti hM_X1_addPerson hT_X1_addPerson rfl dX1_addPerson_51
end
section
variable {sc : mx_X} {d : Nat} {g : mx_G} {r : List Value} {x y i : Int32} {z x2 y2 : Int64} {a b : Nat} {l0 l1 l2 l3 l4 l5 l6 l7 l8 l9 l10 : Option Value}
theorem s_X1_has_0 : den sc d MX1_has 0 [some (.ref a), l1, l2] (r) g = den sc d MX1_has 1 [some (.ref a), l1, l2] (.ref a :: r) g := eb_aload_n hM_X1_has rfl dX1_has_0
theorem s_X1_has_1 : den sc d MX1_has 1 [l0, l1, l2] (.ref a :: r) g = mx_gf (g.1 a) 1 4 (fun v => den sc d MX1_has 4 [l0, l1, l2] (v :: r) g) := eb_gf hM_X1_has hC_X1_has rf_1_21 dX1_has_1
theorem s_X1_has_4 : den sc d MX1_has 4 [l0, some (.int x), l2] (r) g = den sc d MX1_has 5 [l0, some (.int x), l2] (.int x :: r) g := eb_iload_n hM_X1_has rfl dX1_has_4
theorem s_X1_has_5 : den sc d MX1_has 5 [l0, l1, l2] (.int i :: .ref a :: r) g = mx_ai (mx_av sc g a) i (fun _ f => den sc d MX1_has 6 [l0, l1, l2] (.int (f i.toNatClampNeg) :: r) g) := eb_iald hM_X1_has dX1_has_5
theorem s_X1_has_6 : den sc d MX1_has 6 [l0, l1, some (.int x)] (r) g = den sc d MX1_has 7 [l0, l1, some (.int x)] (.int x :: r) g := eb_iload_n hM_X1_has rfl dX1_has_6
theorem s_X1_has_7 {a0 : Int32} {a1 : Int32} : den sc (d + 1) MX1_has 7 [l0, l1, l2] (.int a1 :: .int a0 :: r) g = mx_ck r (call sc d MX10_contains [.int a0, .int a1] g) (fun v g' => den sc (d + 1) MX1_has 10 [l0, l1, l2] (v.toList ++ r) g') := eb_static hM_X1_has hC_X1_has rc_1_50_100 rfl rfl rfl dX1_has_7 rfl rfl rfl rfl
theorem s_X1_has_10 (hn : narrow .boolean (.int x) = .int x) : den sc d MX1_has 10 [l0, l1, l2] ([.int x]) g = some (some (.int x), g) := eb_reti hM_X1_has hT_X1_has hn dX1_has_10
theorem s_X1_has_10_0 : den sc d MX1_has 10 [l0, l1, l2] ([.int 0]) g = some (some (.int 0), g) := eb_reti hM_X1_has hT_X1_has rfl dX1_has_10
theorem s_X1_has_10_1 : den sc d MX1_has 10 [l0, l1, l2] ([.int 1]) g = some (some (.int 1), g) := eb_reti hM_X1_has hT_X1_has rfl dX1_has_10
end
section
variable {sc : mx_X} {d : Nat} {g : mx_G} {r : List Value} {x y i : Int32} {z x2 y2 : Int64} {a b : Nat} {l0 l1 l2 l3 l4 l5 l6 l7 l8 l9 l10 : Option Value}
theorem s_X1_shownBy_0 : den sc d MX1_shownBy 0 [some (.ref a), l1] (r) g = den sc d MX1_shownBy 1 [some (.ref a), l1] (.ref a :: r) g := eb_aload_n hM_X1_shownBy rfl dX1_shownBy_0
theorem s_X1_shownBy_1 : den sc d MX1_shownBy 1 [l0, l1] (.ref a :: r) g = mx_gf (g.1 a) 1 0 (fun v => den sc d MX1_shownBy 4 [l0, l1] (v :: r) g) := eb_gf hM_X1_shownBy hC_X1_shownBy rf_1_30 dX1_shownBy_1
theorem s_X1_shownBy_4 : den sc d MX1_shownBy 4 [some (.ref a), l1] (r) g = den sc d MX1_shownBy 5 [some (.ref a), l1] (.ref a :: r) g := eb_aload_n hM_X1_shownBy rfl dX1_shownBy_4
theorem s_X1_shownBy_5 : den sc d MX1_shownBy 5 [l0, l1] (.ref a :: r) g = mx_gf (g.1 a) 1 2 (fun v => den sc d MX1_shownBy 8 [l0, l1] (v :: r) g) := eb_gf hM_X1_shownBy hC_X1_shownBy rf_1_15 dX1_shownBy_5
theorem s_X1_shownBy_8 : den sc d MX1_shownBy 8 [l0, some (.int x)] (r) g = den sc d MX1_shownBy 9 [l0, some (.int x)] (.int x :: r) g := eb_iload_n hM_X1_shownBy rfl dX1_shownBy_8
theorem s_X1_shownBy_9 : den sc d MX1_shownBy 9 [l0, l1] (.int i :: .ref a :: r) g = mx_ai (mx_av sc g a) i (fun _ f => den sc d MX1_shownBy 10 [l0, l1] (.int (f i.toNatClampNeg) :: r) g) := eb_iald hM_X1_shownBy dX1_shownBy_9
theorem s_X1_shownBy_10 : den sc d MX1_shownBy 10 [l0, l1] (.int i :: .ref a :: r) g = mx_ar (g.1 a) i (fun _ _ f => den sc d MX1_shownBy 11 [l0, l1] (va_rf (f i.toNatClampNeg) :: r) g) := eb_aald hM_X1_shownBy dX1_shownBy_10
theorem s_X1_shownBy_11 : den sc d MX1_shownBy 11 [some (.ref a), l1] (r) g = den sc d MX1_shownBy 12 [some (.ref a), l1] (.ref a :: r) g := eb_aload_n hM_X1_shownBy rfl dX1_shownBy_11
theorem s_X1_shownBy_12 : den sc d MX1_shownBy 12 [l0, l1] (.ref a :: r) g = mx_gf (g.1 a) 1 4 (fun v => den sc d MX1_shownBy 15 [l0, l1] (v :: r) g) := eb_gf hM_X1_shownBy hC_X1_shownBy rf_1_21 dX1_shownBy_12
theorem s_X1_shownBy_15 : den sc d MX1_shownBy 15 [l0, some (.int x)] (r) g = den sc d MX1_shownBy 16 [l0, some (.int x)] (.int x :: r) g := eb_iload_n hM_X1_shownBy rfl dX1_shownBy_15
theorem s_X1_shownBy_16 : den sc d MX1_shownBy 16 [l0, l1] (.int i :: .ref a :: r) g = mx_ai (mx_av sc g a) i (fun _ f => den sc d MX1_shownBy 17 [l0, l1] (.int (f i.toNatClampNeg) :: r) g) := eb_iald hM_X1_shownBy dX1_shownBy_16
theorem s_X1_shownBy_17 : den sc d MX1_shownBy 17 [some (.ref a), l1] (r) g = den sc d MX1_shownBy 18 [some (.ref a), l1] (.ref a :: r) g := eb_aload_n hM_X1_shownBy rfl dX1_shownBy_17
theorem s_X1_shownBy_18 : den sc d MX1_shownBy 18 [l0, l1] (.ref a :: r) g = mx_gf (g.1 a) 1 3 (fun v => den sc d MX1_shownBy 21 [l0, l1] (v :: r) g) := eb_gf hM_X1_shownBy hC_X1_shownBy rf_1_18 dX1_shownBy_18
theorem s_X1_shownBy_21 : den sc d MX1_shownBy 21 [l0, some (.int x)] (r) g = den sc d MX1_shownBy 22 [l0, some (.int x)] (.int x :: r) g := eb_iload_n hM_X1_shownBy rfl dX1_shownBy_21
theorem s_X1_shownBy_22 : den sc d MX1_shownBy 22 [l0, l1] (.int i :: .ref a :: r) g = mx_ai (mx_av sc g a) i (fun _ f => den sc d MX1_shownBy 23 [l0, l1] (.int (f i.toNatClampNeg) :: r) g) := eb_iald hM_X1_shownBy dX1_shownBy_22
theorem s_X1_shownBy_23 : den sc d MX1_shownBy 23 [some (.ref a), l1] (r) g = den sc d MX1_shownBy 24 [some (.ref a), l1] (.ref a :: r) g := eb_aload_n hM_X1_shownBy rfl dX1_shownBy_23
theorem s_X1_shownBy_24 : den sc d MX1_shownBy 24 [l0, l1] (.ref a :: r) g = mx_gf (g.1 a) 1 1 (fun v => den sc d MX1_shownBy 27 [l0, l1] (v :: r) g) := eb_gf hM_X1_shownBy hC_X1_shownBy rf_1_9 dX1_shownBy_24
theorem s_X1_shownBy_27_0 {a0 : Int32} {a1 : Int32} {a2 : Nat} (hrc : mx_rc g a = some 0) : den sc (d + 1) MX1_shownBy 27 [l0, l1] (.ref a2 :: .int a1 :: .int a0 :: .ref a :: r) g = mx_ck r (call sc d MX3_shows [.ref a, .int a0, .int a1, .ref a2] g) (fun v g' => den sc (d + 1) MX1_shownBy 30 [l0, l1] (v.toList ++ r) g') := eb_virtual hM_X1_shownBy hC_X1_shownBy rc_1_54_0 (by decide) rfl dX1_shownBy_27 rfl rfl rfl rfl hrc
theorem s_X1_shownBy_27_2 {a0 : Int32} {a1 : Int32} {a2 : Nat} (hrc : mx_rc g a = some 2) : den sc (d + 1) MX1_shownBy 27 [l0, l1] (.ref a2 :: .int a1 :: .int a0 :: .ref a :: r) g = mx_ck r (call sc d MX2_shows [.ref a, .int a0, .int a1, .ref a2] g) (fun v g' => den sc (d + 1) MX1_shownBy 30 [l0, l1] (v.toList ++ r) g') := eb_virtual hM_X1_shownBy hC_X1_shownBy rc_1_54_2 (by decide) rfl dX1_shownBy_27 rfl rfl rfl rfl hrc
theorem s_X1_shownBy_27_3 {a0 : Int32} {a1 : Int32} {a2 : Nat} (hrc : mx_rc g a = some 3) : den sc (d + 1) MX1_shownBy 27 [l0, l1] (.ref a2 :: .int a1 :: .int a0 :: .ref a :: r) g = mx_ck r (call sc d MX3_shows [.ref a, .int a0, .int a1, .ref a2] g) (fun v g' => den sc (d + 1) MX1_shownBy 30 [l0, l1] (v.toList ++ r) g') := eb_virtual hM_X1_shownBy hC_X1_shownBy rc_1_54_3 (by decide) rfl dX1_shownBy_27 rfl rfl rfl rfl hrc
theorem s_X1_shownBy_27_4 {a0 : Int32} {a1 : Int32} {a2 : Nat} (hrc : mx_rc g a = some 4) : den sc (d + 1) MX1_shownBy 27 [l0, l1] (.ref a2 :: .int a1 :: .int a0 :: .ref a :: r) g = mx_ck r (call sc d MX3_shows [.ref a, .int a0, .int a1, .ref a2] g) (fun v g' => den sc (d + 1) MX1_shownBy 30 [l0, l1] (v.toList ++ r) g') := eb_virtual hM_X1_shownBy hC_X1_shownBy rc_1_54_4 (by decide) rfl dX1_shownBy_27 rfl rfl rfl rfl hrc
theorem s_X1_shownBy_27_6 {a0 : Int32} {a1 : Int32} {a2 : Nat} (hrc : mx_rc g a = some 6) : den sc (d + 1) MX1_shownBy 27 [l0, l1] (.ref a2 :: .int a1 :: .int a0 :: .ref a :: r) g = mx_ck r (call sc d MX6_shows [.ref a, .int a0, .int a1, .ref a2] g) (fun v g' => den sc (d + 1) MX1_shownBy 30 [l0, l1] (v.toList ++ r) g') := eb_virtual hM_X1_shownBy hC_X1_shownBy rc_1_54_6 (by decide) rfl dX1_shownBy_27 rfl rfl rfl rfl hrc
theorem s_X1_shownBy_27_9 {a0 : Int32} {a1 : Int32} {a2 : Nat} (hrc : mx_rc g a = some 9) : den sc (d + 1) MX1_shownBy 27 [l0, l1] (.ref a2 :: .int a1 :: .int a0 :: .ref a :: r) g = mx_ck r (call sc d MX9_shows [.ref a, .int a0, .int a1, .ref a2] g) (fun v g' => den sc (d + 1) MX1_shownBy 30 [l0, l1] (v.toList ++ r) g') := eb_virtual hM_X1_shownBy hC_X1_shownBy rc_1_54_9 (by decide) rfl dX1_shownBy_27 rfl rfl rfl rfl hrc
theorem s_X1_shownBy_30 : den sc d MX1_shownBy 30 [l0, l1] ([.int x]) g = some (some (.int x), g) := eb_reti hM_X1_shownBy hT_X1_shownBy rfl dX1_shownBy_30
end
section
variable {sc : mx_X} {d : Nat} {g : mx_G} {r : List Value} {x y i : Int32} {z x2 y2 : Int64} {a b : Nat} {l0 l1 l2 l3 l4 l5 l6 l7 l8 l9 l10 : Option Value}
theorem s_X1_takenFrom_0 : den sc d MX1_takenFrom 0 [some (.ref a), l1, l2] (r) g = den sc d MX1_takenFrom 1 [some (.ref a), l1, l2] (.ref a :: r) g := eb_aload_n hM_X1_takenFrom rfl dX1_takenFrom_0
theorem s_X1_takenFrom_1 : den sc d MX1_takenFrom 1 [l0, l1, l2] (.ref a :: r) g = mx_gf (g.1 a) 1 0 (fun v => den sc d MX1_takenFrom 4 [l0, l1, l2] (v :: r) g) := eb_gf hM_X1_takenFrom hC_X1_takenFrom rf_1_30 dX1_takenFrom_1
theorem s_X1_takenFrom_4 : den sc d MX1_takenFrom 4 [some (.ref a), l1, l2] (r) g = den sc d MX1_takenFrom 5 [some (.ref a), l1, l2] (.ref a :: r) g := eb_aload_n hM_X1_takenFrom rfl dX1_takenFrom_4
theorem s_X1_takenFrom_5 : den sc d MX1_takenFrom 5 [l0, l1, l2] (.ref a :: r) g = mx_gf (g.1 a) 1 2 (fun v => den sc d MX1_takenFrom 8 [l0, l1, l2] (v :: r) g) := eb_gf hM_X1_takenFrom hC_X1_takenFrom rf_1_15 dX1_takenFrom_5
theorem s_X1_takenFrom_8 : den sc d MX1_takenFrom 8 [l0, some (.int x), l2] (r) g = den sc d MX1_takenFrom 9 [l0, some (.int x), l2] (.int x :: r) g := eb_iload_n hM_X1_takenFrom rfl dX1_takenFrom_8
theorem s_X1_takenFrom_9 : den sc d MX1_takenFrom 9 [l0, l1, l2] (.int i :: .ref a :: r) g = mx_ai (mx_av sc g a) i (fun _ f => den sc d MX1_takenFrom 10 [l0, l1, l2] (.int (f i.toNatClampNeg) :: r) g) := eb_iald hM_X1_takenFrom dX1_takenFrom_9
theorem s_X1_takenFrom_10 : den sc d MX1_takenFrom 10 [l0, l1, l2] (.int i :: .ref a :: r) g = mx_ar (g.1 a) i (fun _ _ f => den sc d MX1_takenFrom 11 [l0, l1, l2] (va_rf (f i.toNatClampNeg) :: r) g) := eb_aald hM_X1_takenFrom dX1_takenFrom_10
theorem s_X1_takenFrom_11 {n1 : Int32} : den sc d MX1_takenFrom 11 [l0, some (.int n1), l2] (.ref a :: r) g = den sc d MX1_takenFrom 12 [l0, some (.int n1), some (.ref a)] (r) g := eb_astore_n hM_X1_takenFrom (Nat.le_of_ble_eq_true rfl) rfl dX1_takenFrom_11
theorem s_X1_takenFrom_12 : den sc d MX1_takenFrom 12 [l0, l1, some (.ref a)] (r) g = den sc d MX1_takenFrom 13 [l0, l1, some (.ref a)] (.ref a :: r) g := eb_aload_n hM_X1_takenFrom rfl dX1_takenFrom_12
theorem s_X1_takenFrom_13 : den sc d MX1_takenFrom 13 [l0, l1, some (.ref a)] (r) g = den sc d MX1_takenFrom 14 [l0, l1, some (.ref a)] (.ref a :: r) g := eb_aload_n hM_X1_takenFrom rfl dX1_takenFrom_13
theorem s_X1_takenFrom_14 : den sc d MX1_takenFrom 14 [some (.ref a), l1, l2] (r) g = den sc d MX1_takenFrom 15 [some (.ref a), l1, l2] (.ref a :: r) g := eb_aload_n hM_X1_takenFrom rfl dX1_takenFrom_14
theorem s_X1_takenFrom_15 : den sc d MX1_takenFrom 15 [l0, l1, l2] (.ref a :: r) g = mx_gf (g.1 a) 1 4 (fun v => den sc d MX1_takenFrom 18 [l0, l1, l2] (v :: r) g) := eb_gf hM_X1_takenFrom hC_X1_takenFrom rf_1_21 dX1_takenFrom_15
theorem s_X1_takenFrom_18 : den sc d MX1_takenFrom 18 [l0, some (.int x), l2] (r) g = den sc d MX1_takenFrom 19 [l0, some (.int x), l2] (.int x :: r) g := eb_iload_n hM_X1_takenFrom rfl dX1_takenFrom_18
theorem s_X1_takenFrom_19 : den sc d MX1_takenFrom 19 [l0, l1, l2] (.int i :: .ref a :: r) g = mx_ai (mx_av sc g a) i (fun _ f => den sc d MX1_takenFrom 20 [l0, l1, l2] (.int (f i.toNatClampNeg) :: r) g) := eb_iald hM_X1_takenFrom dX1_takenFrom_19
theorem s_X1_takenFrom_20 : den sc d MX1_takenFrom 20 [some (.ref a), l1, l2] (r) g = den sc d MX1_takenFrom 21 [some (.ref a), l1, l2] (.ref a :: r) g := eb_aload_n hM_X1_takenFrom rfl dX1_takenFrom_20
theorem s_X1_takenFrom_21 : den sc d MX1_takenFrom 21 [l0, l1, l2] (.ref a :: r) g = mx_gf (g.1 a) 1 3 (fun v => den sc d MX1_takenFrom 24 [l0, l1, l2] (v :: r) g) := eb_gf hM_X1_takenFrom hC_X1_takenFrom rf_1_18 dX1_takenFrom_21
theorem s_X1_takenFrom_24 : den sc d MX1_takenFrom 24 [l0, some (.int x), l2] (r) g = den sc d MX1_takenFrom 25 [l0, some (.int x), l2] (.int x :: r) g := eb_iload_n hM_X1_takenFrom rfl dX1_takenFrom_24
theorem s_X1_takenFrom_25 : den sc d MX1_takenFrom 25 [l0, l1, l2] (.int i :: .ref a :: r) g = mx_ai (mx_av sc g a) i (fun _ f => den sc d MX1_takenFrom 26 [l0, l1, l2] (.int (f i.toNatClampNeg) :: r) g) := eb_iald hM_X1_takenFrom dX1_takenFrom_25
theorem s_X1_takenFrom_26 : den sc d MX1_takenFrom 26 [some (.ref a), l1, l2] (r) g = den sc d MX1_takenFrom 27 [some (.ref a), l1, l2] (.ref a :: r) g := eb_aload_n hM_X1_takenFrom rfl dX1_takenFrom_26
theorem s_X1_takenFrom_27 : den sc d MX1_takenFrom 27 [l0, l1, l2] (.ref a :: r) g = mx_gf (g.1 a) 1 1 (fun v => den sc d MX1_takenFrom 30 [l0, l1, l2] (v :: r) g) := eb_gf hM_X1_takenFrom hC_X1_takenFrom rf_1_9 dX1_takenFrom_27
theorem s_X1_takenFrom_30_0 {a0 : Int32} {a1 : Int32} {a2 : Nat} (hrc : mx_rc g a = some 0) : den sc (d + 1) MX1_takenFrom 30 [l0, l1, l2] (.ref a2 :: .int a1 :: .int a0 :: .ref a :: r) g = mx_ck r (call sc d MX3_shows [.ref a, .int a0, .int a1, .ref a2] g) (fun v g' => den sc (d + 1) MX1_takenFrom 33 [l0, l1, l2] (v.toList ++ r) g') := eb_virtual hM_X1_takenFrom hC_X1_takenFrom rc_1_54_0 (by decide) rfl dX1_takenFrom_30 rfl rfl rfl rfl hrc
theorem s_X1_takenFrom_30_2 {a0 : Int32} {a1 : Int32} {a2 : Nat} (hrc : mx_rc g a = some 2) : den sc (d + 1) MX1_takenFrom 30 [l0, l1, l2] (.ref a2 :: .int a1 :: .int a0 :: .ref a :: r) g = mx_ck r (call sc d MX2_shows [.ref a, .int a0, .int a1, .ref a2] g) (fun v g' => den sc (d + 1) MX1_takenFrom 33 [l0, l1, l2] (v.toList ++ r) g') := eb_virtual hM_X1_takenFrom hC_X1_takenFrom rc_1_54_2 (by decide) rfl dX1_takenFrom_30 rfl rfl rfl rfl hrc
theorem s_X1_takenFrom_30_3 {a0 : Int32} {a1 : Int32} {a2 : Nat} (hrc : mx_rc g a = some 3) : den sc (d + 1) MX1_takenFrom 30 [l0, l1, l2] (.ref a2 :: .int a1 :: .int a0 :: .ref a :: r) g = mx_ck r (call sc d MX3_shows [.ref a, .int a0, .int a1, .ref a2] g) (fun v g' => den sc (d + 1) MX1_takenFrom 33 [l0, l1, l2] (v.toList ++ r) g') := eb_virtual hM_X1_takenFrom hC_X1_takenFrom rc_1_54_3 (by decide) rfl dX1_takenFrom_30 rfl rfl rfl rfl hrc
theorem s_X1_takenFrom_30_4 {a0 : Int32} {a1 : Int32} {a2 : Nat} (hrc : mx_rc g a = some 4) : den sc (d + 1) MX1_takenFrom 30 [l0, l1, l2] (.ref a2 :: .int a1 :: .int a0 :: .ref a :: r) g = mx_ck r (call sc d MX3_shows [.ref a, .int a0, .int a1, .ref a2] g) (fun v g' => den sc (d + 1) MX1_takenFrom 33 [l0, l1, l2] (v.toList ++ r) g') := eb_virtual hM_X1_takenFrom hC_X1_takenFrom rc_1_54_4 (by decide) rfl dX1_takenFrom_30 rfl rfl rfl rfl hrc
theorem s_X1_takenFrom_30_6 {a0 : Int32} {a1 : Int32} {a2 : Nat} (hrc : mx_rc g a = some 6) : den sc (d + 1) MX1_takenFrom 30 [l0, l1, l2] (.ref a2 :: .int a1 :: .int a0 :: .ref a :: r) g = mx_ck r (call sc d MX6_shows [.ref a, .int a0, .int a1, .ref a2] g) (fun v g' => den sc (d + 1) MX1_takenFrom 33 [l0, l1, l2] (v.toList ++ r) g') := eb_virtual hM_X1_takenFrom hC_X1_takenFrom rc_1_54_6 (by decide) rfl dX1_takenFrom_30 rfl rfl rfl rfl hrc
theorem s_X1_takenFrom_30_9 {a0 : Int32} {a1 : Int32} {a2 : Nat} (hrc : mx_rc g a = some 9) : den sc (d + 1) MX1_takenFrom 30 [l0, l1, l2] (.ref a2 :: .int a1 :: .int a0 :: .ref a :: r) g = mx_ck r (call sc d MX9_shows [.ref a, .int a0, .int a1, .ref a2] g) (fun v g' => den sc (d + 1) MX1_takenFrom 33 [l0, l1, l2] (v.toList ++ r) g') := eb_virtual hM_X1_takenFrom hC_X1_takenFrom rc_1_54_9 (by decide) rfl dX1_takenFrom_30 rfl rfl rfl rfl hrc
theorem s_X1_takenFrom_33 : den sc d MX1_takenFrom 33 [some (.ref a), l1, l2] (r) g = den sc d MX1_takenFrom 34 [some (.ref a), l1, l2] (.ref a :: r) g := eb_aload_n hM_X1_takenFrom rfl dX1_takenFrom_33
theorem s_X1_takenFrom_34 : den sc d MX1_takenFrom 34 [l0, l1, l2] (.ref a :: r) g = mx_gf (g.1 a) 1 1 (fun v => den sc d MX1_takenFrom 37 [l0, l1, l2] (v :: r) g) := eb_gf hM_X1_takenFrom hC_X1_takenFrom rf_1_9 dX1_takenFrom_34
theorem s_X1_takenFrom_37_0 {a0 : Int32} {a1 : Nat} (hrc : mx_rc g a = some 0) : den sc (d + 1) MX1_takenFrom 37 [l0, l1, l2] (.ref a1 :: .int a0 :: .ref a :: r) g = mx_ck r (call sc d MX0_taken [.ref a, .int a0, .ref a1] g) (fun v g' => den sc (d + 1) MX1_takenFrom 40 [l0, l1, l2] (v.toList ++ r) g') := eb_virtual hM_X1_takenFrom hC_X1_takenFrom rc_1_60_0 (by decide) rfl dX1_takenFrom_37 rfl rfl rfl rfl hrc
theorem s_X1_takenFrom_37_2 {a0 : Int32} {a1 : Nat} (hrc : mx_rc g a = some 2) : den sc (d + 1) MX1_takenFrom 37 [l0, l1, l2] (.ref a1 :: .int a0 :: .ref a :: r) g = mx_ck r (call sc d MX3_taken [.ref a, .int a0, .ref a1] g) (fun v g' => den sc (d + 1) MX1_takenFrom 40 [l0, l1, l2] (v.toList ++ r) g') := eb_virtual hM_X1_takenFrom hC_X1_takenFrom rc_1_60_2 (by decide) rfl dX1_takenFrom_37 rfl rfl rfl rfl hrc
theorem s_X1_takenFrom_37_3 {a0 : Int32} {a1 : Nat} (hrc : mx_rc g a = some 3) : den sc (d + 1) MX1_takenFrom 37 [l0, l1, l2] (.ref a1 :: .int a0 :: .ref a :: r) g = mx_ck r (call sc d MX3_taken [.ref a, .int a0, .ref a1] g) (fun v g' => den sc (d + 1) MX1_takenFrom 40 [l0, l1, l2] (v.toList ++ r) g') := eb_virtual hM_X1_takenFrom hC_X1_takenFrom rc_1_60_3 (by decide) rfl dX1_takenFrom_37 rfl rfl rfl rfl hrc
theorem s_X1_takenFrom_37_4 {a0 : Int32} {a1 : Nat} (hrc : mx_rc g a = some 4) : den sc (d + 1) MX1_takenFrom 37 [l0, l1, l2] (.ref a1 :: .int a0 :: .ref a :: r) g = mx_ck r (call sc d MX4_taken [.ref a, .int a0, .ref a1] g) (fun v g' => den sc (d + 1) MX1_takenFrom 40 [l0, l1, l2] (v.toList ++ r) g') := eb_virtual hM_X1_takenFrom hC_X1_takenFrom rc_1_60_4 (by decide) rfl dX1_takenFrom_37 rfl rfl rfl rfl hrc
theorem s_X1_takenFrom_37_6 {a0 : Int32} {a1 : Nat} (hrc : mx_rc g a = some 6) : den sc (d + 1) MX1_takenFrom 37 [l0, l1, l2] (.ref a1 :: .int a0 :: .ref a :: r) g = mx_ck r (call sc d MX3_taken [.ref a, .int a0, .ref a1] g) (fun v g' => den sc (d + 1) MX1_takenFrom 40 [l0, l1, l2] (v.toList ++ r) g') := eb_virtual hM_X1_takenFrom hC_X1_takenFrom rc_1_60_6 (by decide) rfl dX1_takenFrom_37 rfl rfl rfl rfl hrc
theorem s_X1_takenFrom_37_9 {a0 : Int32} {a1 : Nat} (hrc : mx_rc g a = some 9) : den sc (d + 1) MX1_takenFrom 37 [l0, l1, l2] (.ref a1 :: .int a0 :: .ref a :: r) g = mx_ck r (call sc d MX9_taken [.ref a, .int a0, .ref a1] g) (fun v g' => den sc (d + 1) MX1_takenFrom 40 [l0, l1, l2] (v.toList ++ r) g') := eb_virtual hM_X1_takenFrom hC_X1_takenFrom rc_1_60_9 (by decide) rfl dX1_takenFrom_37 rfl rfl rfl rfl hrc
theorem s_X1_takenFrom_40 : den sc d MX1_takenFrom 40 [l0, l1, l2] ([.int x]) g = some (some (.int x), g) := eb_reti hM_X1_takenFrom hT_X1_takenFrom rfl dX1_takenFrom_40
end
section
variable {sc : mx_X} {d : Nat} {g : mx_G} {r : List Value} {x y i : Int32} {z x2 y2 : Int64} {a b : Nat} {l0 l1 l2 l3 l4 l5 l6 l7 l8 l9 l10 : Option Value}
theorem s_X1_foundNextBy_0 : den sc d MX1_foundNextBy 0 [some (.ref a), l1] (r) g = den sc d MX1_foundNextBy 1 [some (.ref a), l1] (.ref a :: r) g := eb_aload_n hM_X1_foundNextBy rfl dX1_foundNextBy_0
theorem s_X1_foundNextBy_1 : den sc d MX1_foundNextBy 1 [l0, l1] (.ref a :: r) g = mx_gf (g.1 a) 1 3 (fun v => den sc d MX1_foundNextBy 4 [l0, l1] (v :: r) g) := eb_gf hM_X1_foundNextBy hC_X1_foundNextBy rf_1_18 dX1_foundNextBy_1
theorem s_X1_foundNextBy_4 : den sc d MX1_foundNextBy 4 [l0, some (.int x)] (r) g = den sc d MX1_foundNextBy 5 [l0, some (.int x)] (.int x :: r) g := eb_iload_n hM_X1_foundNextBy rfl dX1_foundNextBy_4
theorem s_X1_foundNextBy_5 : den sc d MX1_foundNextBy 5 [l0, l1] (.int i :: .ref a :: r) g = mx_ai (mx_av sc g a) i (fun _ f => den sc d MX1_foundNextBy 6 [l0, l1] (.int (f i.toNatClampNeg) :: r) g) := eb_iald hM_X1_foundNextBy dX1_foundNextBy_5
theorem s_X1_foundNextBy_6 : den sc d MX1_foundNextBy 6 [l0, l1] (r) g = den sc d MX1_foundNextBy 8 [l0, l1] (.int (70) :: r) g := eb_bipush hM_X1_foundNextBy rfl dX1_foundNextBy_6
theorem s_X1_foundNextBy_8 : den sc d MX1_foundNextBy 8 [l0, l1] (.int y :: .int x :: r) g = if x < y then den sc d MX1_foundNextBy 15 [l0, l1] (r) g else den sc d MX1_foundNextBy 11 [l0, l1] (r) g := eb_icmp_lt hM_X1_foundNextBy rfl dX1_foundNextBy_8
theorem s_X1_foundNextBy_11 : den sc d MX1_foundNextBy 11 [l0, l1] (r) g = den sc d MX1_foundNextBy 12 [l0, l1] (.int (-1) :: r) g := eb_iconst hM_X1_foundNextBy rfl dX1_foundNextBy_11
theorem s_X1_foundNextBy_12 : den sc d MX1_foundNextBy 12 [l0, l1] (r) g = den sc d MX1_foundNextBy 37 [l0, l1] (r) g := eb_goto hM_X1_foundNextBy rfl dX1_foundNextBy_12
theorem s_X1_foundNextBy_15 : den sc d MX1_foundNextBy 15 [some (.ref a), l1] (r) g = den sc d MX1_foundNextBy 16 [some (.ref a), l1] (.ref a :: r) g := eb_aload_n hM_X1_foundNextBy rfl dX1_foundNextBy_15
theorem s_X1_foundNextBy_16 : den sc d MX1_foundNextBy 16 [l0, l1] (.ref a :: r) g = mx_gf (g.1 a) 1 0 (fun v => den sc d MX1_foundNextBy 19 [l0, l1] (v :: r) g) := eb_gf hM_X1_foundNextBy hC_X1_foundNextBy rf_1_30 dX1_foundNextBy_16
theorem s_X1_foundNextBy_19 : den sc d MX1_foundNextBy 19 [some (.ref a), l1] (r) g = den sc d MX1_foundNextBy 20 [some (.ref a), l1] (.ref a :: r) g := eb_aload_n hM_X1_foundNextBy rfl dX1_foundNextBy_19
theorem s_X1_foundNextBy_20 : den sc d MX1_foundNextBy 20 [l0, l1] (.ref a :: r) g = mx_gf (g.1 a) 1 2 (fun v => den sc d MX1_foundNextBy 23 [l0, l1] (v :: r) g) := eb_gf hM_X1_foundNextBy hC_X1_foundNextBy rf_1_15 dX1_foundNextBy_20
theorem s_X1_foundNextBy_23 : den sc d MX1_foundNextBy 23 [l0, some (.int x)] (r) g = den sc d MX1_foundNextBy 24 [l0, some (.int x)] (.int x :: r) g := eb_iload_n hM_X1_foundNextBy rfl dX1_foundNextBy_23
theorem s_X1_foundNextBy_24 : den sc d MX1_foundNextBy 24 [l0, l1] (.int i :: .ref a :: r) g = mx_ai (mx_av sc g a) i (fun _ f => den sc d MX1_foundNextBy 25 [l0, l1] (.int (f i.toNatClampNeg) :: r) g) := eb_iald hM_X1_foundNextBy dX1_foundNextBy_24
theorem s_X1_foundNextBy_25 : den sc d MX1_foundNextBy 25 [l0, l1] (.int i :: .ref a :: r) g = mx_ar (g.1 a) i (fun _ _ f => den sc d MX1_foundNextBy 26 [l0, l1] (va_rf (f i.toNatClampNeg) :: r) g) := eb_aald hM_X1_foundNextBy dX1_foundNextBy_25
theorem s_X1_foundNextBy_26 : den sc d MX1_foundNextBy 26 [some (.ref a), l1] (r) g = den sc d MX1_foundNextBy 27 [some (.ref a), l1] (.ref a :: r) g := eb_aload_n hM_X1_foundNextBy rfl dX1_foundNextBy_26
theorem s_X1_foundNextBy_27 : den sc d MX1_foundNextBy 27 [l0, l1] (.ref a :: r) g = mx_gf (g.1 a) 1 3 (fun v => den sc d MX1_foundNextBy 30 [l0, l1] (v :: r) g) := eb_gf hM_X1_foundNextBy hC_X1_foundNextBy rf_1_18 dX1_foundNextBy_27
theorem s_X1_foundNextBy_30 : den sc d MX1_foundNextBy 30 [l0, some (.int x)] (r) g = den sc d MX1_foundNextBy 31 [l0, some (.int x)] (.int x :: r) g := eb_iload_n hM_X1_foundNextBy rfl dX1_foundNextBy_30
theorem s_X1_foundNextBy_31 : den sc d MX1_foundNextBy 31 [l0, l1] (.int i :: .ref a :: r) g = mx_ai (mx_av sc g a) i (fun _ f => den sc d MX1_foundNextBy 32 [l0, l1] (.int (f i.toNatClampNeg) :: r) g) := eb_iald hM_X1_foundNextBy dX1_foundNextBy_31
theorem s_X1_foundNextBy_32 : den sc d MX1_foundNextBy 32 [l0, l1] (r) g = den sc d MX1_foundNextBy 33 [l0, l1] (.int (1) :: r) g := eb_iconst hM_X1_foundNextBy rfl dX1_foundNextBy_32
theorem s_X1_foundNextBy_33 : den sc d MX1_foundNextBy 33 [l0, l1] (.int y :: .int x :: r) g = den sc d MX1_foundNextBy 34 [l0, l1] (.int (x + y) :: r) g := eb_iadd hM_X1_foundNextBy dX1_foundNextBy_33
theorem s_X1_foundNextBy_34_0 {a0 : Int32} (hrc : mx_rc g a = some 0) : den sc (d + 1) MX1_foundNextBy 34 [l0, l1] (.int a0 :: .ref a :: r) g = mx_ck r (call sc d MX0_finds [.ref a, .int a0] g) (fun v g' => den sc (d + 1) MX1_foundNextBy 37 [l0, l1] (v.toList ++ r) g') := eb_virtual hM_X1_foundNextBy hC_X1_foundNextBy rc_1_64_0 (by decide) rfl dX1_foundNextBy_34 rfl rfl rfl rfl hrc
theorem s_X1_foundNextBy_34_2 {a0 : Int32} (hrc : mx_rc g a = some 2) : den sc (d + 1) MX1_foundNextBy 34 [l0, l1] (.int a0 :: .ref a :: r) g = mx_ck r (call sc d MX3_finds [.ref a, .int a0] g) (fun v g' => den sc (d + 1) MX1_foundNextBy 37 [l0, l1] (v.toList ++ r) g') := eb_virtual hM_X1_foundNextBy hC_X1_foundNextBy rc_1_64_2 (by decide) rfl dX1_foundNextBy_34 rfl rfl rfl rfl hrc
theorem s_X1_foundNextBy_34_3 {a0 : Int32} (hrc : mx_rc g a = some 3) : den sc (d + 1) MX1_foundNextBy 34 [l0, l1] (.int a0 :: .ref a :: r) g = mx_ck r (call sc d MX3_finds [.ref a, .int a0] g) (fun v g' => den sc (d + 1) MX1_foundNextBy 37 [l0, l1] (v.toList ++ r) g') := eb_virtual hM_X1_foundNextBy hC_X1_foundNextBy rc_1_64_3 (by decide) rfl dX1_foundNextBy_34 rfl rfl rfl rfl hrc
theorem s_X1_foundNextBy_34_4 {a0 : Int32} (hrc : mx_rc g a = some 4) : den sc (d + 1) MX1_foundNextBy 34 [l0, l1] (.int a0 :: .ref a :: r) g = mx_ck r (call sc d MX4_finds [.ref a, .int a0] g) (fun v g' => den sc (d + 1) MX1_foundNextBy 37 [l0, l1] (v.toList ++ r) g') := eb_virtual hM_X1_foundNextBy hC_X1_foundNextBy rc_1_64_4 (by decide) rfl dX1_foundNextBy_34 rfl rfl rfl rfl hrc
theorem s_X1_foundNextBy_34_6 {a0 : Int32} (hrc : mx_rc g a = some 6) : den sc (d + 1) MX1_foundNextBy 34 [l0, l1] (.int a0 :: .ref a :: r) g = mx_ck r (call sc d MX3_finds [.ref a, .int a0] g) (fun v g' => den sc (d + 1) MX1_foundNextBy 37 [l0, l1] (v.toList ++ r) g') := eb_virtual hM_X1_foundNextBy hC_X1_foundNextBy rc_1_64_6 (by decide) rfl dX1_foundNextBy_34 rfl rfl rfl rfl hrc
theorem s_X1_foundNextBy_34_9 {a0 : Int32} (hrc : mx_rc g a = some 9) : den sc (d + 1) MX1_foundNextBy 34 [l0, l1] (.int a0 :: .ref a :: r) g = mx_ck r (call sc d MX9_finds [.ref a, .int a0] g) (fun v g' => den sc (d + 1) MX1_foundNextBy 37 [l0, l1] (v.toList ++ r) g') := eb_virtual hM_X1_foundNextBy hC_X1_foundNextBy rc_1_64_9 (by decide) rfl dX1_foundNextBy_34 rfl rfl rfl rfl hrc
theorem s_X1_foundNextBy_37 : den sc d MX1_foundNextBy 37 [l0, l1] ([.int x]) g = some (some (.int x), g) := eb_reti hM_X1_foundNextBy hT_X1_foundNextBy rfl dX1_foundNextBy_37
end
section
variable {sc : mx_X} {d : Nat} {g : mx_G} {r : List Value} {x y i : Int32} {z x2 y2 : Int64} {a b : Nat} {l0 l1 l2 l3 l4 l5 l6 l7 l8 l9 l10 : Option Value}
theorem s_X1_holdBorder_0 : den sc d MX1_holdBorder 0 [some (.ref a), l1, l2] (r) g = den sc d MX1_holdBorder 1 [some (.ref a), l1, l2] (.ref a :: r) g := eb_aload_n hM_X1_holdBorder rfl dX1_holdBorder_0
theorem s_X1_holdBorder_1 : den sc d MX1_holdBorder 1 [l0, some (.int x), l2] (r) g = den sc d MX1_holdBorder 2 [l0, some (.int x), l2] (.int x :: r) g := eb_iload_n hM_X1_holdBorder rfl dX1_holdBorder_1
theorem s_X1_holdBorder_2 {a0 : Int32} (hrc : mx_rc g a = some 1) : den sc (d + 1) MX1_holdBorder 2 [l0, l1, l2] (.int a0 :: .ref a :: r) g = mx_ck r (call sc d MX1_takenFrom [.ref a, .int a0] g) (fun v g' => den sc (d + 1) MX1_holdBorder 5 [l0, l1, l2] (v.toList ++ r) g') := eb_virtual hM_X1_holdBorder hC_X1_holdBorder rc_1_68_1 (by decide) rfl dX1_holdBorder_2 rfl rfl rfl rfl hrc
theorem s_X1_holdBorder_5 {n1 : Int32} : den sc d MX1_holdBorder 5 [l0, some (.int n1), l2] (.int x :: r) g = den sc d MX1_holdBorder 6 [l0, some (.int n1), some (.int x)] (r) g := eb_istore_n hM_X1_holdBorder (Nat.le_of_ble_eq_true rfl) rfl dX1_holdBorder_5
theorem s_X1_holdBorder_6 : den sc d MX1_holdBorder 6 [l0, l1, some (.int x)] (r) g = den sc d MX1_holdBorder 7 [l0, l1, some (.int x)] (.int x :: r) g := eb_iload_n hM_X1_holdBorder rfl dX1_holdBorder_6
theorem s_X1_holdBorder_7 : den sc d MX1_holdBorder 7 [l0, l1, l2] (.int x :: r) g = if 0 ≤ x then den sc d MX1_holdBorder 12 [l0, l1, l2] (r) g else den sc d MX1_holdBorder 10 [l0, l1, l2] (r) g := eb_if_ge hM_X1_holdBorder rfl dX1_holdBorder_7
theorem s_X1_holdBorder_10 : den sc d MX1_holdBorder 10 [l0, l1, l2] (r) g = den sc d MX1_holdBorder 11 [l0, l1, l2] (.int (-1) :: r) g := eb_iconst hM_X1_holdBorder rfl dX1_holdBorder_10
theorem s_X1_holdBorder_11 : den sc d MX1_holdBorder 11 [l0, l1, l2] ([.int x]) g = some (some (.int x), g) := eb_reti hM_X1_holdBorder hT_X1_holdBorder rfl dX1_holdBorder_11
theorem s_X1_holdBorder_12 : den sc d MX1_holdBorder 12 [some (.ref a), l1, l2] (r) g = den sc d MX1_holdBorder 13 [some (.ref a), l1, l2] (.ref a :: r) g := eb_aload_n hM_X1_holdBorder rfl dX1_holdBorder_12
theorem s_X1_holdBorder_13 : den sc d MX1_holdBorder 13 [l0, l1, l2] (.ref a :: r) g = mx_gf (g.1 a) 1 4 (fun v => den sc d MX1_holdBorder 16 [l0, l1, l2] (v :: r) g) := eb_gf hM_X1_holdBorder hC_X1_holdBorder rf_1_21 dX1_holdBorder_13
theorem s_X1_holdBorder_16 : den sc d MX1_holdBorder 16 [l0, some (.int x), l2] (r) g = den sc d MX1_holdBorder 17 [l0, some (.int x), l2] (.int x :: r) g := eb_iload_n hM_X1_holdBorder rfl dX1_holdBorder_16
theorem s_X1_holdBorder_17 : den sc d MX1_holdBorder 17 [l0, l1, l2] (.int x :: .ref a :: r) g = den sc d MX1_holdBorder 18 [l0, l1, l2] (.int x :: .ref a :: .int x :: .ref a :: r) g := eb_dup2 hM_X1_holdBorder dX1_holdBorder_17
theorem s_X1_holdBorder_18 : den sc d MX1_holdBorder 18 [l0, l1, l2] (.int i :: .ref a :: r) g = mx_ai (mx_av sc g a) i (fun _ f => den sc d MX1_holdBorder 19 [l0, l1, l2] (.int (f i.toNatClampNeg) :: r) g) := eb_iald hM_X1_holdBorder dX1_holdBorder_18
theorem s_X1_holdBorder_19 : den sc d MX1_holdBorder 19 [l0, l1, some (.int x)] (r) g = den sc d MX1_holdBorder 20 [l0, l1, some (.int x)] (.int x :: r) g := eb_iload_n hM_X1_holdBorder rfl dX1_holdBorder_19
theorem s_X1_holdBorder_20 {a0 : Int32} : den sc (d + 1) MX1_holdBorder 20 [l0, l1, l2] (.int a0 :: r) g = mx_ck r (call sc d MX10_setOf [.int a0] g) (fun v g' => den sc (d + 1) MX1_holdBorder 23 [l0, l1, l2] (v.toList ++ r) g') := eb_static hM_X1_holdBorder hC_X1_holdBorder rc_1_71_100 rfl rfl rfl dX1_holdBorder_20 rfl rfl rfl rfl
theorem s_X1_holdBorder_23 : den sc d MX1_holdBorder 23 [l0, l1, l2] (r) g = den sc d MX1_holdBorder 24 [l0, l1, l2] (.int (-1) :: r) g := eb_iconst hM_X1_holdBorder rfl dX1_holdBorder_23
theorem s_X1_holdBorder_24 : den sc d MX1_holdBorder 24 [l0, l1, l2] (.int y :: .int x :: r) g = den sc d MX1_holdBorder 25 [l0, l1, l2] (.int (x ^^^ y) :: r) g := eb_ixor hM_X1_holdBorder dX1_holdBorder_24
theorem s_X1_holdBorder_25 : den sc d MX1_holdBorder 25 [l0, l1, l2] (.int y :: .int x :: r) g = den sc d MX1_holdBorder 26 [l0, l1, l2] (.int (x &&& y) :: r) g := eb_iand hM_X1_holdBorder dX1_holdBorder_25
theorem s_X1_holdBorder_26 : den sc d MX1_holdBorder 26 [l0, l1, l2] (.int x :: .int i :: .ref a :: r) g = mx_ai (g.1 a) i (fun n f => den sc d MX1_holdBorder 27 [l0, l1, l2] (r) (mx_up g a (.inl (.int, n, .inl (upd f i.toNatClampNeg x))))) := eb_iast hM_X1_holdBorder dX1_holdBorder_26
theorem s_X1_holdBorder_27 : den sc d MX1_holdBorder 27 [some (.ref a), l1, l2] (r) g = den sc d MX1_holdBorder 28 [some (.ref a), l1, l2] (.ref a :: r) g := eb_aload_n hM_X1_holdBorder rfl dX1_holdBorder_27
theorem s_X1_holdBorder_28 : den sc d MX1_holdBorder 28 [l0, l1, l2] (.ref a :: r) g = mx_gf (g.1 a) 1 6 (fun v => den sc d MX1_holdBorder 31 [l0, l1, l2] (v :: r) g) := eb_gf hM_X1_holdBorder hC_X1_holdBorder rf_1_27 dX1_holdBorder_28
theorem s_X1_holdBorder_31 : den sc d MX1_holdBorder 31 [l0, some (.int x), l2] (r) g = den sc d MX1_holdBorder 32 [l0, some (.int x), l2] (.int x :: r) g := eb_iload_n hM_X1_holdBorder rfl dX1_holdBorder_31
theorem s_X1_holdBorder_32 : den sc d MX1_holdBorder 32 [some (.ref a), l1, l2] (r) g = den sc d MX1_holdBorder 33 [some (.ref a), l1, l2] (.ref a :: r) g := eb_aload_n hM_X1_holdBorder rfl dX1_holdBorder_32
theorem s_X1_holdBorder_33 : den sc d MX1_holdBorder 33 [l0, l1, l2] (.ref a :: r) g = mx_gf (g.1 a) 1 6 (fun v => den sc d MX1_holdBorder 36 [l0, l1, l2] (v :: r) g) := eb_gf hM_X1_holdBorder hC_X1_holdBorder rf_1_27 dX1_holdBorder_33
theorem s_X1_holdBorder_36 : den sc d MX1_holdBorder 36 [l0, some (.int x), l2] (r) g = den sc d MX1_holdBorder 37 [l0, some (.int x), l2] (.int x :: r) g := eb_iload_n hM_X1_holdBorder rfl dX1_holdBorder_36
theorem s_X1_holdBorder_37 : den sc d MX1_holdBorder 37 [l0, l1, l2] (.int i :: .ref a :: r) g = mx_ai (mx_av sc g a) i (fun _ f => den sc d MX1_holdBorder 38 [l0, l1, l2] (.int (f i.toNatClampNeg) :: r) g) := eb_iald hM_X1_holdBorder dX1_holdBorder_37
theorem s_X1_holdBorder_38 : den sc d MX1_holdBorder 38 [l0, l1, l2] (r) g = den sc d MX1_holdBorder 39 [l0, l1, l2] (.int (1) :: r) g := eb_iconst hM_X1_holdBorder rfl dX1_holdBorder_38
theorem s_X1_holdBorder_39 : den sc d MX1_holdBorder 39 [l0, l1, l2] (.int y :: .int x :: r) g = den sc d MX1_holdBorder 40 [l0, l1, l2] (.int (x + y) :: r) g := eb_iadd hM_X1_holdBorder dX1_holdBorder_39
theorem s_X1_holdBorder_40 : den sc d MX1_holdBorder 40 [l0, l1, l2] (r) g = den sc d MX1_holdBorder 43 [l0, l1, l2] (.int (999) :: r) g := eb_sipush hM_X1_holdBorder rfl dX1_holdBorder_40
theorem s_X1_holdBorder_43 : den sc d MX1_holdBorder 43 [l0, l1, l2] (.int y :: .int x :: r) g = if r.length ≤ 4 then den sc d MX1_holdBorder 46 [l0, l1, l2] (.int (if y < x then y else x) :: r) g else none := eb_min hM_X1_holdBorder hC_X1_holdBorder rfl rfl dX1_holdBorder_43
theorem s_X1_holdBorder_46 : den sc d MX1_holdBorder 46 [l0, l1, l2] (.int x :: .int i :: .ref a :: r) g = mx_ai (g.1 a) i (fun n f => den sc d MX1_holdBorder 47 [l0, l1, l2] (r) (mx_up g a (.inl (.int, n, .inl (upd f i.toNatClampNeg x))))) := eb_iast hM_X1_holdBorder dX1_holdBorder_46
theorem s_X1_holdBorder_47 : den sc d MX1_holdBorder 47 [some (.ref a), l1, l2] (r) g = den sc d MX1_holdBorder 48 [some (.ref a), l1, l2] (.ref a :: r) g := eb_aload_n hM_X1_holdBorder rfl dX1_holdBorder_47
theorem s_X1_holdBorder_48 : den sc d MX1_holdBorder 48 [l0, l1, l2] (.ref a :: r) g = mx_gf (g.1 a) 1 5 (fun v => den sc d MX1_holdBorder 51 [l0, l1, l2] (v :: r) g) := eb_gf hM_X1_holdBorder hC_X1_holdBorder rf_1_24 dX1_holdBorder_48
theorem s_X1_holdBorder_51 : den sc d MX1_holdBorder 51 [l0, some (.int x), l2] (r) g = den sc d MX1_holdBorder 52 [l0, some (.int x), l2] (.int x :: r) g := eb_iload_n hM_X1_holdBorder rfl dX1_holdBorder_51
theorem s_X1_holdBorder_52 : den sc d MX1_holdBorder 52 [l0, l1, l2] (.int i :: .ref a :: r) g = mx_ai (mx_av sc g a) i (fun _ f => den sc d MX1_holdBorder 53 [l0, l1, l2] (.int (f i.toNatClampNeg) :: r) g) := eb_iald hM_X1_holdBorder dX1_holdBorder_52
theorem s_X1_holdBorder_53 : den sc d MX1_holdBorder 53 [l0, l1, l2] (r) g = den sc d MX1_holdBorder 54 [l0, l1, l2] (.int (-1) :: r) g := eb_iconst hM_X1_holdBorder rfl dX1_holdBorder_53
theorem s_X1_holdBorder_54 : den sc d MX1_holdBorder 54 [l0, l1, l2] (.int y :: .int x :: r) g = if x = y then den sc d MX1_holdBorder 57 [l0, l1, l2] (r) g else den sc d MX1_holdBorder 73 [l0, l1, l2] (r) g := eb_icmp_ne hM_X1_holdBorder rfl dX1_holdBorder_54
theorem s_X1_holdBorder_57 : den sc d MX1_holdBorder 57 [some (.ref a), l1, l2] (r) g = den sc d MX1_holdBorder 58 [some (.ref a), l1, l2] (.ref a :: r) g := eb_aload_n hM_X1_holdBorder rfl dX1_holdBorder_57
theorem s_X1_holdBorder_58 : den sc d MX1_holdBorder 58 [l0, l1, l2] (.ref a :: r) g = den sc d MX1_holdBorder 59 [l0, l1, l2] (.ref a :: .ref a :: r) g := eb_dupa hM_X1_holdBorder dX1_holdBorder_58
theorem s_X1_holdBorder_58i : den sc d MX1_holdBorder 58 [l0, l1, l2] (.int x :: r) g = den sc d MX1_holdBorder 59 [l0, l1, l2] (.int x :: .int x :: r) g := eb_dupi hM_X1_holdBorder dX1_holdBorder_58
theorem s_X1_holdBorder_59 : den sc d MX1_holdBorder 59 [l0, l1, l2] (.ref a :: r) g = mx_gf (g.1 a) 1 8 (fun v => den sc d MX1_holdBorder 62 [l0, l1, l2] (v :: r) g) := eb_gf hM_X1_holdBorder hC_X1_holdBorder rf_1_44 dX1_holdBorder_59
theorem s_X1_holdBorder_62 : den sc d MX1_holdBorder 62 [l0, l1, some (.int x)] (r) g = den sc d MX1_holdBorder 63 [l0, l1, some (.int x)] (.int x :: r) g := eb_iload_n hM_X1_holdBorder rfl dX1_holdBorder_62
theorem s_X1_holdBorder_63 {a0 : Int32} : den sc (d + 1) MX1_holdBorder 63 [l0, l1, l2] (.int a0 :: r) g = mx_ck r (call sc d MX10_setOf [.int a0] g) (fun v g' => den sc (d + 1) MX1_holdBorder 66 [l0, l1, l2] (v.toList ++ r) g') := eb_static hM_X1_holdBorder hC_X1_holdBorder rc_1_71_100 rfl rfl rfl dX1_holdBorder_63 rfl rfl rfl rfl
theorem s_X1_holdBorder_66 : den sc d MX1_holdBorder 66 [l0, l1, l2] (.int y :: .int x :: r) g = den sc d MX1_holdBorder 67 [l0, l1, l2] (.int (x ||| y) :: r) g := eb_ior hM_X1_holdBorder dX1_holdBorder_66
theorem s_X1_holdBorder_67 : den sc d MX1_holdBorder 67 [l0, l1, l2] (.int x :: .ref a :: r) g = mx_pf (g.1 a) 1 8 (fun fs => den sc d MX1_holdBorder 70 [l0, l1, l2] (r) (mx_up g a (.inr (1, fs.set 8 (.int x))))) := eb_pf hM_X1_holdBorder hC_X1_holdBorder rf_1_44 rfl rfl dX1_holdBorder_67
theorem s_X1_holdBorder_70 : den sc d MX1_holdBorder 70 [l0, l1, l2] (r) g = den sc d MX1_holdBorder 91 [l0, l1, l2] (r) g := eb_goto hM_X1_holdBorder rfl dX1_holdBorder_70
theorem s_X1_holdBorder_73 : den sc d MX1_holdBorder 73 [some (.ref a), l1, l2] (r) g = den sc d MX1_holdBorder 74 [some (.ref a), l1, l2] (.ref a :: r) g := eb_aload_n hM_X1_holdBorder rfl dX1_holdBorder_73
theorem s_X1_holdBorder_74 : den sc d MX1_holdBorder 74 [l0, l1, l2] (.ref a :: r) g = mx_gf (g.1 a) 1 4 (fun v => den sc d MX1_holdBorder 77 [l0, l1, l2] (v :: r) g) := eb_gf hM_X1_holdBorder hC_X1_holdBorder rf_1_21 dX1_holdBorder_74
theorem s_X1_holdBorder_77 : den sc d MX1_holdBorder 77 [some (.ref a), l1, l2] (r) g = den sc d MX1_holdBorder 78 [some (.ref a), l1, l2] (.ref a :: r) g := eb_aload_n hM_X1_holdBorder rfl dX1_holdBorder_77
theorem s_X1_holdBorder_78 : den sc d MX1_holdBorder 78 [l0, l1, l2] (.ref a :: r) g = mx_gf (g.1 a) 1 5 (fun v => den sc d MX1_holdBorder 81 [l0, l1, l2] (v :: r) g) := eb_gf hM_X1_holdBorder hC_X1_holdBorder rf_1_24 dX1_holdBorder_78
theorem s_X1_holdBorder_81 : den sc d MX1_holdBorder 81 [l0, some (.int x), l2] (r) g = den sc d MX1_holdBorder 82 [l0, some (.int x), l2] (.int x :: r) g := eb_iload_n hM_X1_holdBorder rfl dX1_holdBorder_81
theorem s_X1_holdBorder_82 : den sc d MX1_holdBorder 82 [l0, l1, l2] (.int i :: .ref a :: r) g = mx_ai (mx_av sc g a) i (fun _ f => den sc d MX1_holdBorder 83 [l0, l1, l2] (.int (f i.toNatClampNeg) :: r) g) := eb_iald hM_X1_holdBorder dX1_holdBorder_82
theorem s_X1_holdBorder_83 : den sc d MX1_holdBorder 83 [l0, l1, l2] (.int x :: .ref a :: r) g = den sc d MX1_holdBorder 84 [l0, l1, l2] (.int x :: .ref a :: .int x :: .ref a :: r) g := eb_dup2 hM_X1_holdBorder dX1_holdBorder_83
theorem s_X1_holdBorder_84 : den sc d MX1_holdBorder 84 [l0, l1, l2] (.int i :: .ref a :: r) g = mx_ai (mx_av sc g a) i (fun _ f => den sc d MX1_holdBorder 85 [l0, l1, l2] (.int (f i.toNatClampNeg) :: r) g) := eb_iald hM_X1_holdBorder dX1_holdBorder_84
theorem s_X1_holdBorder_85 : den sc d MX1_holdBorder 85 [l0, l1, some (.int x)] (r) g = den sc d MX1_holdBorder 86 [l0, l1, some (.int x)] (.int x :: r) g := eb_iload_n hM_X1_holdBorder rfl dX1_holdBorder_85
theorem s_X1_holdBorder_86 {a0 : Int32} : den sc (d + 1) MX1_holdBorder 86 [l0, l1, l2] (.int a0 :: r) g = mx_ck r (call sc d MX10_setOf [.int a0] g) (fun v g' => den sc (d + 1) MX1_holdBorder 89 [l0, l1, l2] (v.toList ++ r) g') := eb_static hM_X1_holdBorder hC_X1_holdBorder rc_1_71_100 rfl rfl rfl dX1_holdBorder_86 rfl rfl rfl rfl
theorem s_X1_holdBorder_89 : den sc d MX1_holdBorder 89 [l0, l1, l2] (.int y :: .int x :: r) g = den sc d MX1_holdBorder 90 [l0, l1, l2] (.int (x ||| y) :: r) g := eb_ior hM_X1_holdBorder dX1_holdBorder_89
theorem s_X1_holdBorder_90 : den sc d MX1_holdBorder 90 [l0, l1, l2] (.int x :: .int i :: .ref a :: r) g = mx_ai (g.1 a) i (fun n f => den sc d MX1_holdBorder 91 [l0, l1, l2] (r) (mx_up g a (.inl (.int, n, .inl (upd f i.toNatClampNeg x))))) := eb_iast hM_X1_holdBorder dX1_holdBorder_90
theorem s_X1_holdBorder_91 : den sc d MX1_holdBorder 91 [l0, l1, some (.int x)] (r) g = den sc d MX1_holdBorder 92 [l0, l1, some (.int x)] (.int x :: r) g := eb_iload_n hM_X1_holdBorder rfl dX1_holdBorder_91
theorem s_X1_holdBorder_92 : den sc d MX1_holdBorder 92 [l0, l1, l2] ([.int x]) g = some (some (.int x), g) := eb_reti hM_X1_holdBorder hT_X1_holdBorder rfl dX1_holdBorder_92
end
section
variable {sc : mx_X} {d : Nat} {g : mx_G} {r : List Value} {x y i : Int32} {z x2 y2 : Int64} {a b : Nat} {l0 l1 l2 l3 l4 l5 l6 l7 l8 l9 l10 : Option Value}
theorem s_X1_passYears_0 : den sc d MX1_passYears 0 [l0, l1, l2, l3] (r) g = den sc d MX1_passYears 1 [l0, l1, l2, l3] (.int (0) :: r) g := eb_iconst hM_X1_passYears rfl dX1_passYears_0
theorem s_X1_passYears_1 {n1 : Int32} : den sc d MX1_passYears 1 [l0, some (.int n1), l2, l3] (.int x :: r) g = den sc d MX1_passYears 2 [l0, some (.int n1), some (.int x), l3] (r) g := eb_istore_n hM_X1_passYears (Nat.le_of_ble_eq_true rfl) rfl dX1_passYears_1
theorem s_X1_passYears_2 : den sc d MX1_passYears 2 [l0, l1, some (.int x), l3] (r) g = den sc d MX1_passYears 3 [l0, l1, some (.int x), l3] (.int x :: r) g := eb_iload_n hM_X1_passYears rfl dX1_passYears_2
theorem s_X1_passYears_3 : den sc d MX1_passYears 3 [l0, some (.int x), l2, l3] (r) g = den sc d MX1_passYears 4 [l0, some (.int x), l2, l3] (.int x :: r) g := eb_iload_n hM_X1_passYears rfl dX1_passYears_3
theorem s_X1_passYears_4 : den sc d MX1_passYears 4 [l0, l1, l2, l3] (.int y :: .int x :: r) g = if y ≤ x then den sc d MX1_passYears 113 [l0, l1, l2, l3] (r) g else den sc d MX1_passYears 7 [l0, l1, l2, l3] (r) g := eb_icmp_ge hM_X1_passYears rfl dX1_passYears_4
theorem s_X1_passYears_7 : den sc d MX1_passYears 7 [l0, l1, l2, l3] (r) g = den sc d MX1_passYears 8 [l0, l1, l2, l3] (.int (0) :: r) g := eb_iconst hM_X1_passYears rfl dX1_passYears_7
theorem s_X1_passYears_8 {n2 : Int32} : den sc d MX1_passYears 8 [l0, l1, some (.int n2), l3] (.int x :: r) g = den sc d MX1_passYears 9 [l0, l1, some (.int n2), some (.int x)] (r) g := eb_istore_n hM_X1_passYears (Nat.le_of_ble_eq_true rfl) rfl dX1_passYears_8
theorem s_X1_passYears_9 : den sc d MX1_passYears 9 [l0, l1, l2, some (.int x)] (r) g = den sc d MX1_passYears 10 [l0, l1, l2, some (.int x)] (.int x :: r) g := eb_iload_n hM_X1_passYears rfl dX1_passYears_9
theorem s_X1_passYears_10 : den sc d MX1_passYears 10 [some (.ref a), l1, l2, l3] (r) g = den sc d MX1_passYears 11 [some (.ref a), l1, l2, l3] (.ref a :: r) g := eb_aload_n hM_X1_passYears rfl dX1_passYears_10
theorem s_X1_passYears_11 : den sc d MX1_passYears 11 [l0, l1, l2, l3] (.ref a :: r) g = mx_gf (g.1 a) 1 7 (fun v => den sc d MX1_passYears 14 [l0, l1, l2, l3] (v :: r) g) := eb_gf hM_X1_passYears hC_X1_passYears rf_1_40 dX1_passYears_11
theorem s_X1_passYears_14 : den sc d MX1_passYears 14 [l0, l1, l2, l3] (.int y :: .int x :: r) g = if y ≤ x then den sc d MX1_passYears 97 [l0, l1, l2, l3] (r) g else den sc d MX1_passYears 17 [l0, l1, l2, l3] (r) g := eb_icmp_ge hM_X1_passYears rfl dX1_passYears_14
theorem s_X1_passYears_17 : den sc d MX1_passYears 17 [some (.ref a), l1, l2, l3] (r) g = den sc d MX1_passYears 18 [some (.ref a), l1, l2, l3] (.ref a :: r) g := eb_aload_n hM_X1_passYears rfl dX1_passYears_17
theorem s_X1_passYears_18 : den sc d MX1_passYears 18 [l0, l1, l2, l3] (.ref a :: r) g = mx_gf (g.1 a) 1 3 (fun v => den sc d MX1_passYears 21 [l0, l1, l2, l3] (v :: r) g) := eb_gf hM_X1_passYears hC_X1_passYears rf_1_18 dX1_passYears_18
theorem s_X1_passYears_21 : den sc d MX1_passYears 21 [l0, l1, l2, some (.int x)] (r) g = den sc d MX1_passYears 22 [l0, l1, l2, some (.int x)] (.int x :: r) g := eb_iload_n hM_X1_passYears rfl dX1_passYears_21
theorem s_X1_passYears_22 : den sc d MX1_passYears 22 [l0, l1, l2, l3] (.int i :: .ref a :: r) g = mx_ai (mx_av sc g a) i (fun _ f => den sc d MX1_passYears 23 [l0, l1, l2, l3] (.int (f i.toNatClampNeg) :: r) g) := eb_iald hM_X1_passYears dX1_passYears_22
theorem s_X1_passYears_23 : den sc d MX1_passYears 23 [l0, l1, l2, l3] (r) g = den sc d MX1_passYears 25 [l0, l1, l2, l3] (.int (70) :: r) g := eb_bipush hM_X1_passYears rfl dX1_passYears_23
theorem s_X1_passYears_25 : den sc d MX1_passYears 25 [l0, l1, l2, l3] (.int y :: .int x :: r) g = if x < y then den sc d MX1_passYears 31 [l0, l1, l2, l3] (r) g else den sc d MX1_passYears 28 [l0, l1, l2, l3] (r) g := eb_icmp_lt hM_X1_passYears rfl dX1_passYears_25
theorem s_X1_passYears_28 : den sc d MX1_passYears 28 [l0, l1, l2, l3] (r) g = den sc d MX1_passYears 91 [l0, l1, l2, l3] (r) g := eb_goto hM_X1_passYears rfl dX1_passYears_28
theorem s_X1_passYears_31 : den sc d MX1_passYears 31 [some (.ref a), l1, l2, l3] (r) g = den sc d MX1_passYears 32 [some (.ref a), l1, l2, l3] (.ref a :: r) g := eb_aload_n hM_X1_passYears rfl dX1_passYears_31
theorem s_X1_passYears_32 : den sc d MX1_passYears 32 [l0, l1, l2, l3] (.ref a :: r) g = mx_gf (g.1 a) 1 3 (fun v => den sc d MX1_passYears 35 [l0, l1, l2, l3] (v :: r) g) := eb_gf hM_X1_passYears hC_X1_passYears rf_1_18 dX1_passYears_32
theorem s_X1_passYears_35 : den sc d MX1_passYears 35 [l0, l1, l2, some (.int x)] (r) g = den sc d MX1_passYears 36 [l0, l1, l2, some (.int x)] (.int x :: r) g := eb_iload_n hM_X1_passYears rfl dX1_passYears_35
theorem s_X1_passYears_36 : den sc d MX1_passYears 36 [l0, l1, l2, l3] (.int x :: .ref a :: r) g = den sc d MX1_passYears 37 [l0, l1, l2, l3] (.int x :: .ref a :: .int x :: .ref a :: r) g := eb_dup2 hM_X1_passYears dX1_passYears_36
theorem s_X1_passYears_37 : den sc d MX1_passYears 37 [l0, l1, l2, l3] (.int i :: .ref a :: r) g = mx_ai (mx_av sc g a) i (fun _ f => den sc d MX1_passYears 38 [l0, l1, l2, l3] (.int (f i.toNatClampNeg) :: r) g) := eb_iald hM_X1_passYears dX1_passYears_37
theorem s_X1_passYears_38 : den sc d MX1_passYears 38 [l0, l1, l2, l3] (r) g = den sc d MX1_passYears 39 [l0, l1, l2, l3] (.int (1) :: r) g := eb_iconst hM_X1_passYears rfl dX1_passYears_38
theorem s_X1_passYears_39 : den sc d MX1_passYears 39 [l0, l1, l2, l3] (.int y :: .int x :: r) g = den sc d MX1_passYears 40 [l0, l1, l2, l3] (.int (x + y) :: r) g := eb_iadd hM_X1_passYears dX1_passYears_39
theorem s_X1_passYears_40 : den sc d MX1_passYears 40 [l0, l1, l2, l3] (.int x :: .int i :: .ref a :: r) g = mx_ai (g.1 a) i (fun n f => den sc d MX1_passYears 41 [l0, l1, l2, l3] (r) (mx_up g a (.inl (.int, n, .inl (upd f i.toNatClampNeg x))))) := eb_iast hM_X1_passYears dX1_passYears_40
theorem s_X1_passYears_41 : den sc d MX1_passYears 41 [some (.ref a), l1, l2, l3] (r) g = den sc d MX1_passYears 42 [some (.ref a), l1, l2, l3] (.ref a :: r) g := eb_aload_n hM_X1_passYears rfl dX1_passYears_41
theorem s_X1_passYears_42 : den sc d MX1_passYears 42 [l0, l1, l2, l3] (.ref a :: r) g = mx_gf (g.1 a) 1 4 (fun v => den sc d MX1_passYears 45 [l0, l1, l2, l3] (v :: r) g) := eb_gf hM_X1_passYears hC_X1_passYears rf_1_21 dX1_passYears_42
theorem s_X1_passYears_45 : den sc d MX1_passYears 45 [l0, l1, l2, some (.int x)] (r) g = den sc d MX1_passYears 46 [l0, l1, l2, some (.int x)] (.int x :: r) g := eb_iload_n hM_X1_passYears rfl dX1_passYears_45
theorem s_X1_passYears_46 : den sc d MX1_passYears 46 [l0, l1, l2, l3] (.int x :: .ref a :: r) g = den sc d MX1_passYears 47 [l0, l1, l2, l3] (.int x :: .ref a :: .int x :: .ref a :: r) g := eb_dup2 hM_X1_passYears dX1_passYears_46
theorem s_X1_passYears_47 : den sc d MX1_passYears 47 [l0, l1, l2, l3] (.int i :: .ref a :: r) g = mx_ai (mx_av sc g a) i (fun _ f => den sc d MX1_passYears 48 [l0, l1, l2, l3] (.int (f i.toNatClampNeg) :: r) g) := eb_iald hM_X1_passYears dX1_passYears_47
theorem s_X1_passYears_48 : den sc d MX1_passYears 48 [some (.ref a), l1, l2, l3] (r) g = den sc d MX1_passYears 49 [some (.ref a), l1, l2, l3] (.ref a :: r) g := eb_aload_n hM_X1_passYears rfl dX1_passYears_48
theorem s_X1_passYears_49 : den sc d MX1_passYears 49 [l0, l1, l2, l3] (.ref a :: r) g = mx_gf (g.1 a) 1 0 (fun v => den sc d MX1_passYears 52 [l0, l1, l2, l3] (v :: r) g) := eb_gf hM_X1_passYears hC_X1_passYears rf_1_30 dX1_passYears_49
theorem s_X1_passYears_52 : den sc d MX1_passYears 52 [some (.ref a), l1, l2, l3] (r) g = den sc d MX1_passYears 53 [some (.ref a), l1, l2, l3] (.ref a :: r) g := eb_aload_n hM_X1_passYears rfl dX1_passYears_52
theorem s_X1_passYears_53 : den sc d MX1_passYears 53 [l0, l1, l2, l3] (.ref a :: r) g = mx_gf (g.1 a) 1 2 (fun v => den sc d MX1_passYears 56 [l0, l1, l2, l3] (v :: r) g) := eb_gf hM_X1_passYears hC_X1_passYears rf_1_15 dX1_passYears_53
theorem s_X1_passYears_56 : den sc d MX1_passYears 56 [l0, l1, l2, some (.int x)] (r) g = den sc d MX1_passYears 57 [l0, l1, l2, some (.int x)] (.int x :: r) g := eb_iload_n hM_X1_passYears rfl dX1_passYears_56
theorem s_X1_passYears_57 : den sc d MX1_passYears 57 [l0, l1, l2, l3] (.int i :: .ref a :: r) g = mx_ai (mx_av sc g a) i (fun _ f => den sc d MX1_passYears 58 [l0, l1, l2, l3] (.int (f i.toNatClampNeg) :: r) g) := eb_iald hM_X1_passYears dX1_passYears_57
theorem s_X1_passYears_58 : den sc d MX1_passYears 58 [l0, l1, l2, l3] (.int i :: .ref a :: r) g = mx_ar (g.1 a) i (fun _ _ f => den sc d MX1_passYears 59 [l0, l1, l2, l3] (va_rf (f i.toNatClampNeg) :: r) g) := eb_aald hM_X1_passYears dX1_passYears_58
theorem s_X1_passYears_59 : den sc d MX1_passYears 59 [some (.ref a), l1, l2, l3] (r) g = den sc d MX1_passYears 60 [some (.ref a), l1, l2, l3] (.ref a :: r) g := eb_aload_n hM_X1_passYears rfl dX1_passYears_59
theorem s_X1_passYears_60 : den sc d MX1_passYears 60 [l0, l1, l2, l3] (.ref a :: r) g = mx_gf (g.1 a) 1 3 (fun v => den sc d MX1_passYears 63 [l0, l1, l2, l3] (v :: r) g) := eb_gf hM_X1_passYears hC_X1_passYears rf_1_18 dX1_passYears_60
theorem s_X1_passYears_63 : den sc d MX1_passYears 63 [l0, l1, l2, some (.int x)] (r) g = den sc d MX1_passYears 64 [l0, l1, l2, some (.int x)] (.int x :: r) g := eb_iload_n hM_X1_passYears rfl dX1_passYears_63
theorem s_X1_passYears_64 : den sc d MX1_passYears 64 [l0, l1, l2, l3] (.int i :: .ref a :: r) g = mx_ai (mx_av sc g a) i (fun _ f => den sc d MX1_passYears 65 [l0, l1, l2, l3] (.int (f i.toNatClampNeg) :: r) g) := eb_iald hM_X1_passYears dX1_passYears_64
theorem s_X1_passYears_65_0 {a0 : Int32} (hrc : mx_rc g a = some 0) : den sc (d + 1) MX1_passYears 65 [l0, l1, l2, l3] (.int a0 :: .ref a :: r) g = mx_ck r (call sc d MX0_finds [.ref a, .int a0] g) (fun v g' => den sc (d + 1) MX1_passYears 68 [l0, l1, l2, l3] (v.toList ++ r) g') := eb_virtual hM_X1_passYears hC_X1_passYears rc_1_64_0 (by decide) rfl dX1_passYears_65 rfl rfl rfl rfl hrc
theorem s_X1_passYears_65_2 {a0 : Int32} (hrc : mx_rc g a = some 2) : den sc (d + 1) MX1_passYears 65 [l0, l1, l2, l3] (.int a0 :: .ref a :: r) g = mx_ck r (call sc d MX3_finds [.ref a, .int a0] g) (fun v g' => den sc (d + 1) MX1_passYears 68 [l0, l1, l2, l3] (v.toList ++ r) g') := eb_virtual hM_X1_passYears hC_X1_passYears rc_1_64_2 (by decide) rfl dX1_passYears_65 rfl rfl rfl rfl hrc
theorem s_X1_passYears_65_3 {a0 : Int32} (hrc : mx_rc g a = some 3) : den sc (d + 1) MX1_passYears 65 [l0, l1, l2, l3] (.int a0 :: .ref a :: r) g = mx_ck r (call sc d MX3_finds [.ref a, .int a0] g) (fun v g' => den sc (d + 1) MX1_passYears 68 [l0, l1, l2, l3] (v.toList ++ r) g') := eb_virtual hM_X1_passYears hC_X1_passYears rc_1_64_3 (by decide) rfl dX1_passYears_65 rfl rfl rfl rfl hrc
theorem s_X1_passYears_65_4 {a0 : Int32} (hrc : mx_rc g a = some 4) : den sc (d + 1) MX1_passYears 65 [l0, l1, l2, l3] (.int a0 :: .ref a :: r) g = mx_ck r (call sc d MX4_finds [.ref a, .int a0] g) (fun v g' => den sc (d + 1) MX1_passYears 68 [l0, l1, l2, l3] (v.toList ++ r) g') := eb_virtual hM_X1_passYears hC_X1_passYears rc_1_64_4 (by decide) rfl dX1_passYears_65 rfl rfl rfl rfl hrc
theorem s_X1_passYears_65_6 {a0 : Int32} (hrc : mx_rc g a = some 6) : den sc (d + 1) MX1_passYears 65 [l0, l1, l2, l3] (.int a0 :: .ref a :: r) g = mx_ck r (call sc d MX3_finds [.ref a, .int a0] g) (fun v g' => den sc (d + 1) MX1_passYears 68 [l0, l1, l2, l3] (v.toList ++ r) g') := eb_virtual hM_X1_passYears hC_X1_passYears rc_1_64_6 (by decide) rfl dX1_passYears_65 rfl rfl rfl rfl hrc
theorem s_X1_passYears_65_9 {a0 : Int32} (hrc : mx_rc g a = some 9) : den sc (d + 1) MX1_passYears 65 [l0, l1, l2, l3] (.int a0 :: .ref a :: r) g = mx_ck r (call sc d MX9_finds [.ref a, .int a0] g) (fun v g' => den sc (d + 1) MX1_passYears 68 [l0, l1, l2, l3] (v.toList ++ r) g') := eb_virtual hM_X1_passYears hC_X1_passYears rc_1_64_9 (by decide) rfl dX1_passYears_65 rfl rfl rfl rfl hrc
theorem s_X1_passYears_68 {a0 : Int32} : den sc (d + 1) MX1_passYears 68 [l0, l1, l2, l3] (.int a0 :: r) g = mx_ck r (call sc d MX10_setOf [.int a0] g) (fun v g' => den sc (d + 1) MX1_passYears 71 [l0, l1, l2, l3] (v.toList ++ r) g') := eb_static hM_X1_passYears hC_X1_passYears rc_1_71_100 rfl rfl rfl dX1_passYears_68 rfl rfl rfl rfl
theorem s_X1_passYears_71 : den sc d MX1_passYears 71 [l0, l1, l2, l3] (.int y :: .int x :: r) g = den sc d MX1_passYears 72 [l0, l1, l2, l3] (.int (x ||| y) :: r) g := eb_ior hM_X1_passYears dX1_passYears_71
theorem s_X1_passYears_72 : den sc d MX1_passYears 72 [l0, l1, l2, l3] (.int x :: .int i :: .ref a :: r) g = mx_ai (g.1 a) i (fun n f => den sc d MX1_passYears 73 [l0, l1, l2, l3] (r) (mx_up g a (.inl (.int, n, .inl (upd f i.toNatClampNeg x))))) := eb_iast hM_X1_passYears dX1_passYears_72
theorem s_X1_passYears_73 : den sc d MX1_passYears 73 [some (.ref a), l1, l2, l3] (r) g = den sc d MX1_passYears 74 [some (.ref a), l1, l2, l3] (.ref a :: r) g := eb_aload_n hM_X1_passYears rfl dX1_passYears_73
theorem s_X1_passYears_74 : den sc d MX1_passYears 74 [l0, l1, l2, l3] (.ref a :: r) g = mx_gf (g.1 a) 1 3 (fun v => den sc d MX1_passYears 77 [l0, l1, l2, l3] (v :: r) g) := eb_gf hM_X1_passYears hC_X1_passYears rf_1_18 dX1_passYears_74
theorem s_X1_passYears_77 : den sc d MX1_passYears 77 [l0, l1, l2, some (.int x)] (r) g = den sc d MX1_passYears 78 [l0, l1, l2, some (.int x)] (.int x :: r) g := eb_iload_n hM_X1_passYears rfl dX1_passYears_77
theorem s_X1_passYears_78 : den sc d MX1_passYears 78 [l0, l1, l2, l3] (.int i :: .ref a :: r) g = mx_ai (mx_av sc g a) i (fun _ f => den sc d MX1_passYears 79 [l0, l1, l2, l3] (.int (f i.toNatClampNeg) :: r) g) := eb_iald hM_X1_passYears dX1_passYears_78
theorem s_X1_passYears_79 : den sc d MX1_passYears 79 [l0, l1, l2, l3] (r) g = den sc d MX1_passYears 81 [l0, l1, l2, l3] (.int (7) :: r) g := eb_bipush hM_X1_passYears rfl dX1_passYears_79
theorem s_X1_passYears_81 : den sc d MX1_passYears 81 [l0, l1, l2, l3] (.int y :: .int x :: r) g = if y = 0 then none else den sc d MX1_passYears 82 [l0, l1, l2, l3] (.int (x - x / y * y) :: r) g := eb_irem hM_X1_passYears dX1_passYears_81
theorem s_X1_passYears_82 : den sc d MX1_passYears 82 [l0, l1, l2, l3] (.int x :: r) g = if x = 0 then den sc d MX1_passYears 85 [l0, l1, l2, l3] (r) g else den sc d MX1_passYears 91 [l0, l1, l2, l3] (r) g := eb_if_ne hM_X1_passYears rfl dX1_passYears_82
theorem s_X1_passYears_85 : den sc d MX1_passYears 85 [some (.ref a), l1, l2, l3] (r) g = den sc d MX1_passYears 86 [some (.ref a), l1, l2, l3] (.ref a :: r) g := eb_aload_n hM_X1_passYears rfl dX1_passYears_85
theorem s_X1_passYears_86 : den sc d MX1_passYears 86 [l0, l1, l2, some (.int x)] (r) g = den sc d MX1_passYears 87 [l0, l1, l2, some (.int x)] (.int x :: r) g := eb_iload_n hM_X1_passYears rfl dX1_passYears_86
theorem s_X1_passYears_87 {a0 : Int32} (hrc : mx_rc g a = some 1) : den sc (d + 1) MX1_passYears 87 [l0, l1, l2, l3] (.int a0 :: .ref a :: r) g = mx_ck r (call sc d MX1_holdBorder [.ref a, .int a0] g) (fun v g' => den sc (d + 1) MX1_passYears 90 [l0, l1, l2, l3] (v.toList ++ r) g') := eb_virtual hM_X1_passYears hC_X1_passYears rc_1_80_1 (by decide) rfl dX1_passYears_87 rfl rfl rfl rfl hrc
theorem s_X1_passYears_90 : den sc d MX1_passYears 90 [l0, l1, l2, l3] (.int x :: r) g = den sc d MX1_passYears 91 [l0, l1, l2, l3] (r) g := eb_popi hM_X1_passYears dX1_passYears_90
theorem s_X1_passYears_91 {n2 : Int32} : den sc d MX1_passYears 91 [l0, l1, some (.int n2), some (.int x)] (r) g = den sc d MX1_passYears 94 [l0, l1, some (.int n2), some (.int (x + (1)))] (r) g := eb_iinc hM_X1_passYears rfl rfl rfl dX1_passYears_91
theorem s_X1_passYears_94 : den sc d MX1_passYears 94 [l0, l1, l2, l3] (r) g = den sc d MX1_passYears 9 [l0, l1, l2, l3] (r) g := eb_goto hM_X1_passYears rfl dX1_passYears_94
theorem s_X1_passYears_97 : den sc d MX1_passYears 97 [some (.ref a), l1, l2, l3] (r) g = den sc d MX1_passYears 98 [some (.ref a), l1, l2, l3] (.ref a :: r) g := eb_aload_n hM_X1_passYears rfl dX1_passYears_97
theorem s_X1_passYears_98 : den sc d MX1_passYears 98 [l0, l1, l2, l3] (.ref a :: r) g = den sc d MX1_passYears 99 [l0, l1, l2, l3] (.ref a :: .ref a :: r) g := eb_dupa hM_X1_passYears dX1_passYears_98
theorem s_X1_passYears_98i : den sc d MX1_passYears 98 [l0, l1, l2, l3] (.int x :: r) g = den sc d MX1_passYears 99 [l0, l1, l2, l3] (.int x :: .int x :: r) g := eb_dupi hM_X1_passYears dX1_passYears_98
theorem s_X1_passYears_99 : den sc d MX1_passYears 99 [l0, l1, l2, l3] (.ref a :: r) g = mx_gf (g.1 a) 1 9 (fun v => den sc d MX1_passYears 102 [l0, l1, l2, l3] (v :: r) g) := eb_gf hM_X1_passYears hC_X1_passYears rf_1_47 dX1_passYears_99
theorem s_X1_passYears_102 : den sc d MX1_passYears 102 [l0, l1, l2, l3] (r) g = den sc d MX1_passYears 103 [l0, l1, l2, l3] (.int (1) :: r) g := eb_iconst hM_X1_passYears rfl dX1_passYears_102
theorem s_X1_passYears_103 : den sc d MX1_passYears 103 [l0, l1, l2, l3] (.int y :: .int x :: r) g = den sc d MX1_passYears 104 [l0, l1, l2, l3] (.int (x + y) :: r) g := eb_iadd hM_X1_passYears dX1_passYears_103
theorem s_X1_passYears_104 : den sc d MX1_passYears 104 [l0, l1, l2, l3] (.int x :: .ref a :: r) g = mx_pf (g.1 a) 1 9 (fun fs => den sc d MX1_passYears 107 [l0, l1, l2, l3] (r) (mx_up g a (.inr (1, fs.set 9 (.int x))))) := eb_pf hM_X1_passYears hC_X1_passYears rf_1_47 rfl rfl dX1_passYears_104
theorem s_X1_passYears_107 {n1 : Int32} : den sc d MX1_passYears 107 [l0, some (.int n1), some (.int x), l3] (r) g = den sc d MX1_passYears 110 [l0, some (.int n1), some (.int (x + (1))), l3] (r) g := eb_iinc hM_X1_passYears rfl rfl rfl dX1_passYears_107
theorem s_X1_passYears_110 : den sc d MX1_passYears 110 [l0, l1, l2, l3] (r) g = den sc d MX1_passYears 2 [l0, l1, l2, l3] (r) g := eb_goto hM_X1_passYears rfl dX1_passYears_110
theorem s_X1_passYears_113 : den sc d MX1_passYears 113 [l0, l1, l2, l3] ([]) g = some (none, g) := eb_retv hM_X1_passYears hT_X1_passYears dX1_passYears_113
end
section
variable {sc : mx_X} {d : Nat} {g : mx_G} {r : List Value} {x y i : Int32} {z x2 y2 : Int64} {a b : Nat} {l0 l1 l2 l3 l4 l5 l6 l7 l8 l9 l10 : Option Value}
theorem s_X1_pocketWorth_0 : den sc d MX1_pocketWorth 0 [l0, l1, l2, l3] (r) g = den sc d MX1_pocketWorth 1 [l0, l1, l2, l3] (.int (0) :: r) g := eb_iconst hM_X1_pocketWorth rfl dX1_pocketWorth_0
theorem s_X1_pocketWorth_1 {n1 : Int32} : den sc d MX1_pocketWorth 1 [l0, some (.int n1), l2, l3] (.int x :: r) g = den sc d MX1_pocketWorth 2 [l0, some (.int n1), some (.int x), l3] (r) g := eb_istore_n hM_X1_pocketWorth (Nat.le_of_ble_eq_true rfl) rfl dX1_pocketWorth_1
theorem s_X1_pocketWorth_2 : den sc d MX1_pocketWorth 2 [l0, l1, l2, l3] (r) g = den sc d MX1_pocketWorth 3 [l0, l1, l2, l3] (.int (0) :: r) g := eb_iconst hM_X1_pocketWorth rfl dX1_pocketWorth_2
theorem s_X1_pocketWorth_3 {n2 : Int32} : den sc d MX1_pocketWorth 3 [l0, l1, some (.int n2), l3] (.int x :: r) g = den sc d MX1_pocketWorth 4 [l0, l1, some (.int n2), some (.int x)] (r) g := eb_istore_n hM_X1_pocketWorth (Nat.le_of_ble_eq_true rfl) rfl dX1_pocketWorth_3
theorem s_X1_pocketWorth_4 : den sc d MX1_pocketWorth 4 [l0, l1, l2, some (.int x)] (r) g = den sc d MX1_pocketWorth 5 [l0, l1, l2, some (.int x)] (.int x :: r) g := eb_iload_n hM_X1_pocketWorth rfl dX1_pocketWorth_4
theorem s_X1_pocketWorth_5 : den sc d MX1_pocketWorth 5 [l0, l1, l2, l3] (r) g = den sc d MX1_pocketWorth 7 [l0, l1, l2, l3] (.int (16) :: r) g := eb_bipush hM_X1_pocketWorth rfl dX1_pocketWorth_5
theorem s_X1_pocketWorth_7 : den sc d MX1_pocketWorth 7 [l0, l1, l2, l3] (.int y :: .int x :: r) g = if y ≤ x then den sc d MX1_pocketWorth 34 [l0, l1, l2, l3] (r) g else den sc d MX1_pocketWorth 10 [l0, l1, l2, l3] (r) g := eb_icmp_ge hM_X1_pocketWorth rfl dX1_pocketWorth_7
theorem s_X1_pocketWorth_10 : den sc d MX1_pocketWorth 10 [some (.ref a), l1, l2, l3] (r) g = den sc d MX1_pocketWorth 11 [some (.ref a), l1, l2, l3] (.ref a :: r) g := eb_aload_n hM_X1_pocketWorth rfl dX1_pocketWorth_10
theorem s_X1_pocketWorth_11 : den sc d MX1_pocketWorth 11 [l0, some (.int x), l2, l3] (r) g = den sc d MX1_pocketWorth 12 [l0, some (.int x), l2, l3] (.int x :: r) g := eb_iload_n hM_X1_pocketWorth rfl dX1_pocketWorth_11
theorem s_X1_pocketWorth_12 : den sc d MX1_pocketWorth 12 [l0, l1, l2, some (.int x)] (r) g = den sc d MX1_pocketWorth 13 [l0, l1, l2, some (.int x)] (.int x :: r) g := eb_iload_n hM_X1_pocketWorth rfl dX1_pocketWorth_12
theorem s_X1_pocketWorth_13 {a0 : Int32} {a1 : Int32} (hrc : mx_rc g a = some 1) : den sc (d + 1) MX1_pocketWorth 13 [l0, l1, l2, l3] (.int a1 :: .int a0 :: .ref a :: r) g = mx_ck r (call sc d MX1_has [.ref a, .int a0, .int a1] g) (fun v g' => den sc (d + 1) MX1_pocketWorth 16 [l0, l1, l2, l3] (v.toList ++ r) g') := eb_virtual hM_X1_pocketWorth hC_X1_pocketWorth rc_1_83_1 (by decide) rfl dX1_pocketWorth_13 rfl rfl rfl rfl hrc
theorem s_X1_pocketWorth_16 : den sc d MX1_pocketWorth 16 [l0, l1, l2, l3] (.int x :: r) g = if x = 0 then den sc d MX1_pocketWorth 28 [l0, l1, l2, l3] (r) g else den sc d MX1_pocketWorth 19 [l0, l1, l2, l3] (r) g := eb_if_eq hM_X1_pocketWorth rfl dX1_pocketWorth_16
theorem s_X1_pocketWorth_19 : den sc d MX1_pocketWorth 19 [l0, l1, some (.int x), l3] (r) g = den sc d MX1_pocketWorth 20 [l0, l1, some (.int x), l3] (.int x :: r) g := eb_iload_n hM_X1_pocketWorth rfl dX1_pocketWorth_19
theorem s_X1_pocketWorth_20 : den sc d MX1_pocketWorth 20 [some (.ref a), l1, l2, l3] (r) g = den sc d MX1_pocketWorth 21 [some (.ref a), l1, l2, l3] (.ref a :: r) g := eb_aload_n hM_X1_pocketWorth rfl dX1_pocketWorth_20
theorem s_X1_pocketWorth_21 : den sc d MX1_pocketWorth 21 [l0, l1, l2, l3] (.ref a :: r) g = mx_gf (g.1 a) 1 1 (fun v => den sc d MX1_pocketWorth 24 [l0, l1, l2, l3] (v :: r) g) := eb_gf hM_X1_pocketWorth hC_X1_pocketWorth rf_1_9 dX1_pocketWorth_21
theorem s_X1_pocketWorth_24 : den sc d MX1_pocketWorth 24 [l0, l1, l2, some (.int x)] (r) g = den sc d MX1_pocketWorth 25 [l0, l1, l2, some (.int x)] (.int x :: r) g := eb_iload_n hM_X1_pocketWorth rfl dX1_pocketWorth_24
theorem s_X1_pocketWorth_25 : den sc d MX1_pocketWorth 25 [l0, l1, l2, l3] (.int i :: .ref a :: r) g = mx_ai (mx_av sc g a) i (fun _ f => den sc d MX1_pocketWorth 26 [l0, l1, l2, l3] (.int (f i.toNatClampNeg) :: r) g) := eb_iald hM_X1_pocketWorth dX1_pocketWorth_25
theorem s_X1_pocketWorth_26 : den sc d MX1_pocketWorth 26 [l0, l1, l2, l3] (.int y :: .int x :: r) g = den sc d MX1_pocketWorth 27 [l0, l1, l2, l3] (.int (x + y) :: r) g := eb_iadd hM_X1_pocketWorth dX1_pocketWorth_26
theorem s_X1_pocketWorth_27 {n1 : Int32} : den sc d MX1_pocketWorth 27 [l0, some (.int n1), l2, l3] (.int x :: r) g = den sc d MX1_pocketWorth 28 [l0, some (.int n1), some (.int x), l3] (r) g := eb_istore_n hM_X1_pocketWorth (Nat.le_of_ble_eq_true rfl) rfl dX1_pocketWorth_27
theorem s_X1_pocketWorth_28 {n2 : Int32} : den sc d MX1_pocketWorth 28 [l0, l1, some (.int n2), some (.int x)] (r) g = den sc d MX1_pocketWorth 31 [l0, l1, some (.int n2), some (.int (x + (1)))] (r) g := eb_iinc hM_X1_pocketWorth rfl rfl rfl dX1_pocketWorth_28
theorem s_X1_pocketWorth_31 : den sc d MX1_pocketWorth 31 [l0, l1, l2, l3] (r) g = den sc d MX1_pocketWorth 4 [l0, l1, l2, l3] (r) g := eb_goto hM_X1_pocketWorth rfl dX1_pocketWorth_31
theorem s_X1_pocketWorth_34 : den sc d MX1_pocketWorth 34 [l0, l1, some (.int x), l3] (r) g = den sc d MX1_pocketWorth 35 [l0, l1, some (.int x), l3] (.int x :: r) g := eb_iload_n hM_X1_pocketWorth rfl dX1_pocketWorth_34
theorem s_X1_pocketWorth_35 : den sc d MX1_pocketWorth 35 [l0, l1, l2, l3] ([.int x]) g = some (some (.int x), g) := eb_reti hM_X1_pocketWorth hT_X1_pocketWorth rfl dX1_pocketWorth_35
end
section
variable {sc : mx_X} {d : Nat} {g : mx_G} {r : List Value} {x y i : Int32} {z x2 y2 : Int64} {a b : Nat} {l0 l1 l2 l3 l4 l5 l6 l7 l8 l9 l10 : Option Value}
theorem s_X1_worthOfAllPockets_0 : den sc d MX1_worthOfAllPockets 0 [l0, l1, l2] (r) g = den sc d MX1_worthOfAllPockets 1 [l0, l1, l2] (.int (0) :: r) g := eb_iconst hM_X1_worthOfAllPockets rfl dX1_worthOfAllPockets_0
theorem s_X1_worthOfAllPockets_1 {n0 : Nat} : den sc d MX1_worthOfAllPockets 1 [some (.ref n0), l1, l2] (.int x :: r) g = den sc d MX1_worthOfAllPockets 2 [some (.ref n0), some (.int x), l2] (r) g := eb_istore_n hM_X1_worthOfAllPockets (Nat.le_of_ble_eq_true rfl) rfl dX1_worthOfAllPockets_1
theorem s_X1_worthOfAllPockets_2 : den sc d MX1_worthOfAllPockets 2 [l0, l1, l2] (r) g = den sc d MX1_worthOfAllPockets 3 [l0, l1, l2] (.int (0) :: r) g := eb_iconst hM_X1_worthOfAllPockets rfl dX1_worthOfAllPockets_2
theorem s_X1_worthOfAllPockets_3 {n1 : Int32} : den sc d MX1_worthOfAllPockets 3 [l0, some (.int n1), l2] (.int x :: r) g = den sc d MX1_worthOfAllPockets 4 [l0, some (.int n1), some (.int x)] (r) g := eb_istore_n hM_X1_worthOfAllPockets (Nat.le_of_ble_eq_true rfl) rfl dX1_worthOfAllPockets_3
theorem s_X1_worthOfAllPockets_4 : den sc d MX1_worthOfAllPockets 4 [l0, l1, some (.int x)] (r) g = den sc d MX1_worthOfAllPockets 5 [l0, l1, some (.int x)] (.int x :: r) g := eb_iload_n hM_X1_worthOfAllPockets rfl dX1_worthOfAllPockets_4
theorem s_X1_worthOfAllPockets_5 : den sc d MX1_worthOfAllPockets 5 [some (.ref a), l1, l2] (r) g = den sc d MX1_worthOfAllPockets 6 [some (.ref a), l1, l2] (.ref a :: r) g := eb_aload_n hM_X1_worthOfAllPockets rfl dX1_worthOfAllPockets_5
theorem s_X1_worthOfAllPockets_6 : den sc d MX1_worthOfAllPockets 6 [l0, l1, l2] (.ref a :: r) g = mx_gf (g.1 a) 1 7 (fun v => den sc d MX1_worthOfAllPockets 9 [l0, l1, l2] (v :: r) g) := eb_gf hM_X1_worthOfAllPockets hC_X1_worthOfAllPockets rf_1_40 dX1_worthOfAllPockets_6
theorem s_X1_worthOfAllPockets_9 : den sc d MX1_worthOfAllPockets 9 [l0, l1, l2] (.int y :: .int x :: r) g = if y ≤ x then den sc d MX1_worthOfAllPockets 26 [l0, l1, l2] (r) g else den sc d MX1_worthOfAllPockets 12 [l0, l1, l2] (r) g := eb_icmp_ge hM_X1_worthOfAllPockets rfl dX1_worthOfAllPockets_9
theorem s_X1_worthOfAllPockets_12 : den sc d MX1_worthOfAllPockets 12 [l0, some (.int x), l2] (r) g = den sc d MX1_worthOfAllPockets 13 [l0, some (.int x), l2] (.int x :: r) g := eb_iload_n hM_X1_worthOfAllPockets rfl dX1_worthOfAllPockets_12
theorem s_X1_worthOfAllPockets_13 : den sc d MX1_worthOfAllPockets 13 [some (.ref a), l1, l2] (r) g = den sc d MX1_worthOfAllPockets 14 [some (.ref a), l1, l2] (.ref a :: r) g := eb_aload_n hM_X1_worthOfAllPockets rfl dX1_worthOfAllPockets_13
theorem s_X1_worthOfAllPockets_14 : den sc d MX1_worthOfAllPockets 14 [l0, l1, some (.int x)] (r) g = den sc d MX1_worthOfAllPockets 15 [l0, l1, some (.int x)] (.int x :: r) g := eb_iload_n hM_X1_worthOfAllPockets rfl dX1_worthOfAllPockets_14
theorem s_X1_worthOfAllPockets_15 {a0 : Int32} (hrc : mx_rc g a = some 1) : den sc (d + 1) MX1_worthOfAllPockets 15 [l0, l1, l2] (.int a0 :: .ref a :: r) g = mx_ck r (call sc d MX1_pocketWorth [.ref a, .int a0] g) (fun v g' => den sc (d + 1) MX1_worthOfAllPockets 18 [l0, l1, l2] (v.toList ++ r) g') := eb_virtual hM_X1_worthOfAllPockets hC_X1_worthOfAllPockets rc_1_86_1 (by decide) rfl dX1_worthOfAllPockets_15 rfl rfl rfl rfl hrc
theorem s_X1_worthOfAllPockets_18 : den sc d MX1_worthOfAllPockets 18 [l0, l1, l2] (.int y :: .int x :: r) g = den sc d MX1_worthOfAllPockets 19 [l0, l1, l2] (.int (x + y) :: r) g := eb_iadd hM_X1_worthOfAllPockets dX1_worthOfAllPockets_18
theorem s_X1_worthOfAllPockets_19 {n0 : Nat} : den sc d MX1_worthOfAllPockets 19 [some (.ref n0), l1, l2] (.int x :: r) g = den sc d MX1_worthOfAllPockets 20 [some (.ref n0), some (.int x), l2] (r) g := eb_istore_n hM_X1_worthOfAllPockets (Nat.le_of_ble_eq_true rfl) rfl dX1_worthOfAllPockets_19
theorem s_X1_worthOfAllPockets_20 {n1 : Int32} : den sc d MX1_worthOfAllPockets 20 [l0, some (.int n1), some (.int x)] (r) g = den sc d MX1_worthOfAllPockets 23 [l0, some (.int n1), some (.int (x + (1)))] (r) g := eb_iinc hM_X1_worthOfAllPockets rfl rfl rfl dX1_worthOfAllPockets_20
theorem s_X1_worthOfAllPockets_23 : den sc d MX1_worthOfAllPockets 23 [l0, l1, l2] (r) g = den sc d MX1_worthOfAllPockets 4 [l0, l1, l2] (r) g := eb_goto hM_X1_worthOfAllPockets rfl dX1_worthOfAllPockets_23
theorem s_X1_worthOfAllPockets_26 : den sc d MX1_worthOfAllPockets 26 [l0, some (.int x), l2] (r) g = den sc d MX1_worthOfAllPockets 27 [l0, some (.int x), l2] (.int x :: r) g := eb_iload_n hM_X1_worthOfAllPockets rfl dX1_worthOfAllPockets_26
theorem s_X1_worthOfAllPockets_27 : den sc d MX1_worthOfAllPockets 27 [l0, l1, l2] ([.int x]) g = some (some (.int x), g) := eb_reti hM_X1_worthOfAllPockets hT_X1_worthOfAllPockets rfl dX1_worthOfAllPockets_27
end
section
variable {sc : mx_X} {d : Nat} {g : mx_G} {r : List Value} {x y i : Int32} {z x2 y2 : Int64} {a b : Nat} {l0 l1 l2 l3 l4 l5 l6 l7 l8 l9 l10 : Option Value}
theorem s_X1_theOldest_0 : den sc d MX1_theOldest 0 [l0, l1, l2] (r) g = den sc d MX1_theOldest 1 [l0, l1, l2] (.int (0) :: r) g := eb_iconst hM_X1_theOldest rfl dX1_theOldest_0
theorem s_X1_theOldest_1 {n0 : Nat} : den sc d MX1_theOldest 1 [some (.ref n0), l1, l2] (.int x :: r) g = den sc d MX1_theOldest 2 [some (.ref n0), some (.int x), l2] (r) g := eb_istore_n hM_X1_theOldest (Nat.le_of_ble_eq_true rfl) rfl dX1_theOldest_1
theorem s_X1_theOldest_2 : den sc d MX1_theOldest 2 [l0, l1, l2] (r) g = den sc d MX1_theOldest 3 [l0, l1, l2] (.int (0) :: r) g := eb_iconst hM_X1_theOldest rfl dX1_theOldest_2
theorem s_X1_theOldest_3 {n1 : Int32} : den sc d MX1_theOldest 3 [l0, some (.int n1), l2] (.int x :: r) g = den sc d MX1_theOldest 4 [l0, some (.int n1), some (.int x)] (r) g := eb_istore_n hM_X1_theOldest (Nat.le_of_ble_eq_true rfl) rfl dX1_theOldest_3
theorem s_X1_theOldest_4 : den sc d MX1_theOldest 4 [l0, l1, some (.int x)] (r) g = den sc d MX1_theOldest 5 [l0, l1, some (.int x)] (.int x :: r) g := eb_iload_n hM_X1_theOldest rfl dX1_theOldest_4
theorem s_X1_theOldest_5 : den sc d MX1_theOldest 5 [some (.ref a), l1, l2] (r) g = den sc d MX1_theOldest 6 [some (.ref a), l1, l2] (.ref a :: r) g := eb_aload_n hM_X1_theOldest rfl dX1_theOldest_5
theorem s_X1_theOldest_6 : den sc d MX1_theOldest 6 [l0, l1, l2] (.ref a :: r) g = mx_gf (g.1 a) 1 7 (fun v => den sc d MX1_theOldest 9 [l0, l1, l2] (v :: r) g) := eb_gf hM_X1_theOldest hC_X1_theOldest rf_1_40 dX1_theOldest_6
theorem s_X1_theOldest_9 : den sc d MX1_theOldest 9 [l0, l1, l2] (.int y :: .int x :: r) g = if y ≤ x then den sc d MX1_theOldest 35 [l0, l1, l2] (r) g else den sc d MX1_theOldest 12 [l0, l1, l2] (r) g := eb_icmp_ge hM_X1_theOldest rfl dX1_theOldest_9
theorem s_X1_theOldest_12 : den sc d MX1_theOldest 12 [some (.ref a), l1, l2] (r) g = den sc d MX1_theOldest 13 [some (.ref a), l1, l2] (.ref a :: r) g := eb_aload_n hM_X1_theOldest rfl dX1_theOldest_12
theorem s_X1_theOldest_13 : den sc d MX1_theOldest 13 [l0, l1, l2] (.ref a :: r) g = mx_gf (g.1 a) 1 3 (fun v => den sc d MX1_theOldest 16 [l0, l1, l2] (v :: r) g) := eb_gf hM_X1_theOldest hC_X1_theOldest rf_1_18 dX1_theOldest_13
theorem s_X1_theOldest_16 : den sc d MX1_theOldest 16 [l0, l1, some (.int x)] (r) g = den sc d MX1_theOldest 17 [l0, l1, some (.int x)] (.int x :: r) g := eb_iload_n hM_X1_theOldest rfl dX1_theOldest_16
theorem s_X1_theOldest_17 : den sc d MX1_theOldest 17 [l0, l1, l2] (.int i :: .ref a :: r) g = mx_ai (mx_av sc g a) i (fun _ f => den sc d MX1_theOldest 18 [l0, l1, l2] (.int (f i.toNatClampNeg) :: r) g) := eb_iald hM_X1_theOldest dX1_theOldest_17
theorem s_X1_theOldest_18 : den sc d MX1_theOldest 18 [l0, l1, l2] (r) g = den sc d MX1_theOldest 20 [l0, l1, l2] (.int (70) :: r) g := eb_bipush hM_X1_theOldest rfl dX1_theOldest_18
theorem s_X1_theOldest_20 : den sc d MX1_theOldest 20 [l0, l1, l2] (.int y :: .int x :: r) g = if x < y then den sc d MX1_theOldest 29 [l0, l1, l2] (r) g else den sc d MX1_theOldest 23 [l0, l1, l2] (r) g := eb_icmp_lt hM_X1_theOldest rfl dX1_theOldest_20
theorem s_X1_theOldest_23 : den sc d MX1_theOldest 23 [l0, some (.int x), l2] (r) g = den sc d MX1_theOldest 24 [l0, some (.int x), l2] (.int x :: r) g := eb_iload_n hM_X1_theOldest rfl dX1_theOldest_23
theorem s_X1_theOldest_24 : den sc d MX1_theOldest 24 [l0, l1, l2] (r) g = den sc d MX1_theOldest 25 [l0, l1, l2] (.int (1) :: r) g := eb_iconst hM_X1_theOldest rfl dX1_theOldest_24
theorem s_X1_theOldest_25 : den sc d MX1_theOldest 25 [l0, l1, some (.int x)] (r) g = den sc d MX1_theOldest 26 [l0, l1, some (.int x)] (.int x :: r) g := eb_iload_n hM_X1_theOldest rfl dX1_theOldest_25
theorem s_X1_theOldest_26 : den sc d MX1_theOldest 26 [l0, l1, l2] (.int y :: .int x :: r) g = den sc d MX1_theOldest 27 [l0, l1, l2] (.int (x <<< (y &&& 31)) :: r) g := eb_ishl hM_X1_theOldest dX1_theOldest_26
theorem s_X1_theOldest_27 : den sc d MX1_theOldest 27 [l0, l1, l2] (.int y :: .int x :: r) g = den sc d MX1_theOldest 28 [l0, l1, l2] (.int (x ||| y) :: r) g := eb_ior hM_X1_theOldest dX1_theOldest_27
theorem s_X1_theOldest_28 {n0 : Nat} : den sc d MX1_theOldest 28 [some (.ref n0), l1, l2] (.int x :: r) g = den sc d MX1_theOldest 29 [some (.ref n0), some (.int x), l2] (r) g := eb_istore_n hM_X1_theOldest (Nat.le_of_ble_eq_true rfl) rfl dX1_theOldest_28
theorem s_X1_theOldest_29 {n1 : Int32} : den sc d MX1_theOldest 29 [l0, some (.int n1), some (.int x)] (r) g = den sc d MX1_theOldest 32 [l0, some (.int n1), some (.int (x + (1)))] (r) g := eb_iinc hM_X1_theOldest rfl rfl rfl dX1_theOldest_29
theorem s_X1_theOldest_32 : den sc d MX1_theOldest 32 [l0, l1, l2] (r) g = den sc d MX1_theOldest 4 [l0, l1, l2] (r) g := eb_goto hM_X1_theOldest rfl dX1_theOldest_32
theorem s_X1_theOldest_35 : den sc d MX1_theOldest 35 [l0, some (.int x), l2] (r) g = den sc d MX1_theOldest 36 [l0, some (.int x), l2] (.int x :: r) g := eb_iload_n hM_X1_theOldest rfl dX1_theOldest_35
theorem s_X1_theOldest_36 : den sc d MX1_theOldest 36 [l0, l1, l2] ([.int x]) g = some (some (.int x), g) := eb_reti hM_X1_theOldest hT_X1_theOldest rfl dX1_theOldest_36
end
section
variable {sc : mx_X} {d : Nat} {g : mx_G} {r : List Value} {x y i : Int32} {z x2 y2 : Int64} {a b : Nat} {l0 l1 l2 l3 l4 l5 l6 l7 l8 l9 l10 : Option Value}
theorem s_X1_ownedThings_0 : den sc d MX1_ownedThings 0 [l0, l1, l2] (r) g = den sc d MX1_ownedThings 1 [l0, l1, l2] (.int (0) :: r) g := eb_iconst hM_X1_ownedThings rfl dX1_ownedThings_0
theorem s_X1_ownedThings_1 {n0 : Nat} : den sc d MX1_ownedThings 1 [some (.ref n0), l1, l2] (.int x :: r) g = den sc d MX1_ownedThings 2 [some (.ref n0), some (.int x), l2] (r) g := eb_istore_n hM_X1_ownedThings (Nat.le_of_ble_eq_true rfl) rfl dX1_ownedThings_1
theorem s_X1_ownedThings_2 : den sc d MX1_ownedThings 2 [l0, l1, l2] (r) g = den sc d MX1_ownedThings 3 [l0, l1, l2] (.int (0) :: r) g := eb_iconst hM_X1_ownedThings rfl dX1_ownedThings_2
theorem s_X1_ownedThings_3 {n1 : Int32} : den sc d MX1_ownedThings 3 [l0, some (.int n1), l2] (.int x :: r) g = den sc d MX1_ownedThings 4 [l0, some (.int n1), some (.int x)] (r) g := eb_istore_n hM_X1_ownedThings (Nat.le_of_ble_eq_true rfl) rfl dX1_ownedThings_3
theorem s_X1_ownedThings_4 : den sc d MX1_ownedThings 4 [l0, l1, some (.int x)] (r) g = den sc d MX1_ownedThings 5 [l0, l1, some (.int x)] (.int x :: r) g := eb_iload_n hM_X1_ownedThings rfl dX1_ownedThings_4
theorem s_X1_ownedThings_5 : den sc d MX1_ownedThings 5 [some (.ref a), l1, l2] (r) g = den sc d MX1_ownedThings 6 [some (.ref a), l1, l2] (.ref a :: r) g := eb_aload_n hM_X1_ownedThings rfl dX1_ownedThings_5
theorem s_X1_ownedThings_6 : den sc d MX1_ownedThings 6 [l0, l1, l2] (.ref a :: r) g = mx_gf (g.1 a) 1 7 (fun v => den sc d MX1_ownedThings 9 [l0, l1, l2] (v :: r) g) := eb_gf hM_X1_ownedThings hC_X1_ownedThings rf_1_40 dX1_ownedThings_6
theorem s_X1_ownedThings_9 : den sc d MX1_ownedThings 9 [l0, l1, l2] (.int y :: .int x :: r) g = if y ≤ x then den sc d MX1_ownedThings 27 [l0, l1, l2] (r) g else den sc d MX1_ownedThings 12 [l0, l1, l2] (r) g := eb_icmp_ge hM_X1_ownedThings rfl dX1_ownedThings_9
theorem s_X1_ownedThings_12 : den sc d MX1_ownedThings 12 [l0, some (.int x), l2] (r) g = den sc d MX1_ownedThings 13 [l0, some (.int x), l2] (.int x :: r) g := eb_iload_n hM_X1_ownedThings rfl dX1_ownedThings_12
theorem s_X1_ownedThings_13 : den sc d MX1_ownedThings 13 [some (.ref a), l1, l2] (r) g = den sc d MX1_ownedThings 14 [some (.ref a), l1, l2] (.ref a :: r) g := eb_aload_n hM_X1_ownedThings rfl dX1_ownedThings_13
theorem s_X1_ownedThings_14 : den sc d MX1_ownedThings 14 [l0, l1, l2] (.ref a :: r) g = mx_gf (g.1 a) 1 4 (fun v => den sc d MX1_ownedThings 17 [l0, l1, l2] (v :: r) g) := eb_gf hM_X1_ownedThings hC_X1_ownedThings rf_1_21 dX1_ownedThings_14
theorem s_X1_ownedThings_17 : den sc d MX1_ownedThings 17 [l0, l1, some (.int x)] (r) g = den sc d MX1_ownedThings 18 [l0, l1, some (.int x)] (.int x :: r) g := eb_iload_n hM_X1_ownedThings rfl dX1_ownedThings_17
theorem s_X1_ownedThings_18 : den sc d MX1_ownedThings 18 [l0, l1, l2] (.int i :: .ref a :: r) g = mx_ai (mx_av sc g a) i (fun _ f => den sc d MX1_ownedThings 19 [l0, l1, l2] (.int (f i.toNatClampNeg) :: r) g) := eb_iald hM_X1_ownedThings dX1_ownedThings_18
theorem s_X1_ownedThings_19 : den sc d MX1_ownedThings 19 [l0, l1, l2] (.int y :: .int x :: r) g = den sc d MX1_ownedThings 20 [l0, l1, l2] (.int (x ||| y) :: r) g := eb_ior hM_X1_ownedThings dX1_ownedThings_19
theorem s_X1_ownedThings_20 {n0 : Nat} : den sc d MX1_ownedThings 20 [some (.ref n0), l1, l2] (.int x :: r) g = den sc d MX1_ownedThings 21 [some (.ref n0), some (.int x), l2] (r) g := eb_istore_n hM_X1_ownedThings (Nat.le_of_ble_eq_true rfl) rfl dX1_ownedThings_20
theorem s_X1_ownedThings_21 {n1 : Int32} : den sc d MX1_ownedThings 21 [l0, some (.int n1), some (.int x)] (r) g = den sc d MX1_ownedThings 24 [l0, some (.int n1), some (.int (x + (1)))] (r) g := eb_iinc hM_X1_ownedThings rfl rfl rfl dX1_ownedThings_21
theorem s_X1_ownedThings_24 : den sc d MX1_ownedThings 24 [l0, l1, l2] (r) g = den sc d MX1_ownedThings 4 [l0, l1, l2] (r) g := eb_goto hM_X1_ownedThings rfl dX1_ownedThings_24
theorem s_X1_ownedThings_27 : den sc d MX1_ownedThings 27 [l0, some (.int x), l2] (r) g = den sc d MX1_ownedThings 28 [l0, some (.int x), l2] (.int x :: r) g := eb_iload_n hM_X1_ownedThings rfl dX1_ownedThings_27
theorem s_X1_ownedThings_28 : den sc d MX1_ownedThings 28 [l0, l1, l2] ([.int x]) g = some (some (.int x), g) := eb_reti hM_X1_ownedThings hT_X1_ownedThings rfl dX1_ownedThings_28
end
section
variable {sc : mx_X} {d : Nat} {g : mx_G} {r : List Value} {x y i : Int32} {z x2 y2 : Int64} {a b : Nat} {l0 l1 l2 l3 l4 l5 l6 l7 l8 l9 l10 : Option Value}
theorem s_X1_lostByAll_0 : den sc d MX1_lostByAll 0 [l0, l1, l2] (r) g = den sc d MX1_lostByAll 1 [l0, l1, l2] (.int (0) :: r) g := eb_iconst hM_X1_lostByAll rfl dX1_lostByAll_0
theorem s_X1_lostByAll_1 {n0 : Nat} : den sc d MX1_lostByAll 1 [some (.ref n0), l1, l2] (.int x :: r) g = den sc d MX1_lostByAll 2 [some (.ref n0), some (.int x), l2] (r) g := eb_istore_n hM_X1_lostByAll (Nat.le_of_ble_eq_true rfl) rfl dX1_lostByAll_1
theorem s_X1_lostByAll_2 : den sc d MX1_lostByAll 2 [l0, l1, l2] (r) g = den sc d MX1_lostByAll 3 [l0, l1, l2] (.int (0) :: r) g := eb_iconst hM_X1_lostByAll rfl dX1_lostByAll_2
theorem s_X1_lostByAll_3 {n1 : Int32} : den sc d MX1_lostByAll 3 [l0, some (.int n1), l2] (.int x :: r) g = den sc d MX1_lostByAll 4 [l0, some (.int n1), some (.int x)] (r) g := eb_istore_n hM_X1_lostByAll (Nat.le_of_ble_eq_true rfl) rfl dX1_lostByAll_3
theorem s_X1_lostByAll_4 : den sc d MX1_lostByAll 4 [l0, l1, some (.int x)] (r) g = den sc d MX1_lostByAll 5 [l0, l1, some (.int x)] (.int x :: r) g := eb_iload_n hM_X1_lostByAll rfl dX1_lostByAll_4
theorem s_X1_lostByAll_5 : den sc d MX1_lostByAll 5 [some (.ref a), l1, l2] (r) g = den sc d MX1_lostByAll 6 [some (.ref a), l1, l2] (.ref a :: r) g := eb_aload_n hM_X1_lostByAll rfl dX1_lostByAll_5
theorem s_X1_lostByAll_6 : den sc d MX1_lostByAll 6 [l0, l1, l2] (.ref a :: r) g = mx_gf (g.1 a) 1 7 (fun v => den sc d MX1_lostByAll 9 [l0, l1, l2] (v :: r) g) := eb_gf hM_X1_lostByAll hC_X1_lostByAll rf_1_40 dX1_lostByAll_6
theorem s_X1_lostByAll_9 : den sc d MX1_lostByAll 9 [l0, l1, l2] (.int y :: .int x :: r) g = if y ≤ x then den sc d MX1_lostByAll 27 [l0, l1, l2] (r) g else den sc d MX1_lostByAll 12 [l0, l1, l2] (r) g := eb_icmp_ge hM_X1_lostByAll rfl dX1_lostByAll_9
theorem s_X1_lostByAll_12 : den sc d MX1_lostByAll 12 [l0, some (.int x), l2] (r) g = den sc d MX1_lostByAll 13 [l0, some (.int x), l2] (.int x :: r) g := eb_iload_n hM_X1_lostByAll rfl dX1_lostByAll_12
theorem s_X1_lostByAll_13 : den sc d MX1_lostByAll 13 [some (.ref a), l1, l2] (r) g = den sc d MX1_lostByAll 14 [some (.ref a), l1, l2] (.ref a :: r) g := eb_aload_n hM_X1_lostByAll rfl dX1_lostByAll_13
theorem s_X1_lostByAll_14 : den sc d MX1_lostByAll 14 [l0, l1, l2] (.ref a :: r) g = mx_gf (g.1 a) 1 6 (fun v => den sc d MX1_lostByAll 17 [l0, l1, l2] (v :: r) g) := eb_gf hM_X1_lostByAll hC_X1_lostByAll rf_1_27 dX1_lostByAll_14
theorem s_X1_lostByAll_17 : den sc d MX1_lostByAll 17 [l0, l1, some (.int x)] (r) g = den sc d MX1_lostByAll 18 [l0, l1, some (.int x)] (.int x :: r) g := eb_iload_n hM_X1_lostByAll rfl dX1_lostByAll_17
theorem s_X1_lostByAll_18 : den sc d MX1_lostByAll 18 [l0, l1, l2] (.int i :: .ref a :: r) g = mx_ai (mx_av sc g a) i (fun _ f => den sc d MX1_lostByAll 19 [l0, l1, l2] (.int (f i.toNatClampNeg) :: r) g) := eb_iald hM_X1_lostByAll dX1_lostByAll_18
theorem s_X1_lostByAll_19 : den sc d MX1_lostByAll 19 [l0, l1, l2] (.int y :: .int x :: r) g = den sc d MX1_lostByAll 20 [l0, l1, l2] (.int (x + y) :: r) g := eb_iadd hM_X1_lostByAll dX1_lostByAll_19
theorem s_X1_lostByAll_20 {n0 : Nat} : den sc d MX1_lostByAll 20 [some (.ref n0), l1, l2] (.int x :: r) g = den sc d MX1_lostByAll 21 [some (.ref n0), some (.int x), l2] (r) g := eb_istore_n hM_X1_lostByAll (Nat.le_of_ble_eq_true rfl) rfl dX1_lostByAll_20
theorem s_X1_lostByAll_21 {n1 : Int32} : den sc d MX1_lostByAll 21 [l0, some (.int n1), some (.int x)] (r) g = den sc d MX1_lostByAll 24 [l0, some (.int n1), some (.int (x + (1)))] (r) g := eb_iinc hM_X1_lostByAll rfl rfl rfl dX1_lostByAll_21
theorem s_X1_lostByAll_24 : den sc d MX1_lostByAll 24 [l0, l1, l2] (r) g = den sc d MX1_lostByAll 4 [l0, l1, l2] (r) g := eb_goto hM_X1_lostByAll rfl dX1_lostByAll_24
theorem s_X1_lostByAll_27 : den sc d MX1_lostByAll 27 [l0, some (.int x), l2] (r) g = den sc d MX1_lostByAll 28 [l0, some (.int x), l2] (.int x :: r) g := eb_iload_n hM_X1_lostByAll rfl dX1_lostByAll_27
theorem s_X1_lostByAll_28 : den sc d MX1_lostByAll 28 [l0, l1, l2] ([.int x]) g = some (some (.int x), g) := eb_reti hM_X1_lostByAll hT_X1_lostByAll rfl dX1_lostByAll_28
end
section
variable {sc : mx_X} {d : Nat} {g : mx_G} {r : List Value} {x y i : Int32} {z x2 y2 : Int64} {a b : Nat} {l0 l1 l2 l3 l4 l5 l6 l7 l8 l9 l10 : Option Value}
theorem s_X1_agesOfAll_0 : den sc d MX1_agesOfAll 0 [l0, l1, l2] (r) g = den sc d MX1_agesOfAll 1 [l0, l1, l2] (.int (0) :: r) g := eb_iconst hM_X1_agesOfAll rfl dX1_agesOfAll_0
theorem s_X1_agesOfAll_1 {n0 : Nat} : den sc d MX1_agesOfAll 1 [some (.ref n0), l1, l2] (.int x :: r) g = den sc d MX1_agesOfAll 2 [some (.ref n0), some (.int x), l2] (r) g := eb_istore_n hM_X1_agesOfAll (Nat.le_of_ble_eq_true rfl) rfl dX1_agesOfAll_1
theorem s_X1_agesOfAll_2 : den sc d MX1_agesOfAll 2 [l0, l1, l2] (r) g = den sc d MX1_agesOfAll 3 [l0, l1, l2] (.int (0) :: r) g := eb_iconst hM_X1_agesOfAll rfl dX1_agesOfAll_2
theorem s_X1_agesOfAll_3 {n1 : Int32} : den sc d MX1_agesOfAll 3 [l0, some (.int n1), l2] (.int x :: r) g = den sc d MX1_agesOfAll 4 [l0, some (.int n1), some (.int x)] (r) g := eb_istore_n hM_X1_agesOfAll (Nat.le_of_ble_eq_true rfl) rfl dX1_agesOfAll_3
theorem s_X1_agesOfAll_4 : den sc d MX1_agesOfAll 4 [l0, l1, some (.int x)] (r) g = den sc d MX1_agesOfAll 5 [l0, l1, some (.int x)] (.int x :: r) g := eb_iload_n hM_X1_agesOfAll rfl dX1_agesOfAll_4
theorem s_X1_agesOfAll_5 : den sc d MX1_agesOfAll 5 [some (.ref a), l1, l2] (r) g = den sc d MX1_agesOfAll 6 [some (.ref a), l1, l2] (.ref a :: r) g := eb_aload_n hM_X1_agesOfAll rfl dX1_agesOfAll_5
theorem s_X1_agesOfAll_6 : den sc d MX1_agesOfAll 6 [l0, l1, l2] (.ref a :: r) g = mx_gf (g.1 a) 1 7 (fun v => den sc d MX1_agesOfAll 9 [l0, l1, l2] (v :: r) g) := eb_gf hM_X1_agesOfAll hC_X1_agesOfAll rf_1_40 dX1_agesOfAll_6
theorem s_X1_agesOfAll_9 : den sc d MX1_agesOfAll 9 [l0, l1, l2] (.int y :: .int x :: r) g = if y ≤ x then den sc d MX1_agesOfAll 27 [l0, l1, l2] (r) g else den sc d MX1_agesOfAll 12 [l0, l1, l2] (r) g := eb_icmp_ge hM_X1_agesOfAll rfl dX1_agesOfAll_9
theorem s_X1_agesOfAll_12 : den sc d MX1_agesOfAll 12 [l0, some (.int x), l2] (r) g = den sc d MX1_agesOfAll 13 [l0, some (.int x), l2] (.int x :: r) g := eb_iload_n hM_X1_agesOfAll rfl dX1_agesOfAll_12
theorem s_X1_agesOfAll_13 : den sc d MX1_agesOfAll 13 [some (.ref a), l1, l2] (r) g = den sc d MX1_agesOfAll 14 [some (.ref a), l1, l2] (.ref a :: r) g := eb_aload_n hM_X1_agesOfAll rfl dX1_agesOfAll_13
theorem s_X1_agesOfAll_14 : den sc d MX1_agesOfAll 14 [l0, l1, l2] (.ref a :: r) g = mx_gf (g.1 a) 1 3 (fun v => den sc d MX1_agesOfAll 17 [l0, l1, l2] (v :: r) g) := eb_gf hM_X1_agesOfAll hC_X1_agesOfAll rf_1_18 dX1_agesOfAll_14
theorem s_X1_agesOfAll_17 : den sc d MX1_agesOfAll 17 [l0, l1, some (.int x)] (r) g = den sc d MX1_agesOfAll 18 [l0, l1, some (.int x)] (.int x :: r) g := eb_iload_n hM_X1_agesOfAll rfl dX1_agesOfAll_17
theorem s_X1_agesOfAll_18 : den sc d MX1_agesOfAll 18 [l0, l1, l2] (.int i :: .ref a :: r) g = mx_ai (mx_av sc g a) i (fun _ f => den sc d MX1_agesOfAll 19 [l0, l1, l2] (.int (f i.toNatClampNeg) :: r) g) := eb_iald hM_X1_agesOfAll dX1_agesOfAll_18
theorem s_X1_agesOfAll_19 : den sc d MX1_agesOfAll 19 [l0, l1, l2] (.int y :: .int x :: r) g = den sc d MX1_agesOfAll 20 [l0, l1, l2] (.int (x + y) :: r) g := eb_iadd hM_X1_agesOfAll dX1_agesOfAll_19
theorem s_X1_agesOfAll_20 {n0 : Nat} : den sc d MX1_agesOfAll 20 [some (.ref n0), l1, l2] (.int x :: r) g = den sc d MX1_agesOfAll 21 [some (.ref n0), some (.int x), l2] (r) g := eb_istore_n hM_X1_agesOfAll (Nat.le_of_ble_eq_true rfl) rfl dX1_agesOfAll_20
theorem s_X1_agesOfAll_21 {n1 : Int32} : den sc d MX1_agesOfAll 21 [l0, some (.int n1), some (.int x)] (r) g = den sc d MX1_agesOfAll 24 [l0, some (.int n1), some (.int (x + (1)))] (r) g := eb_iinc hM_X1_agesOfAll rfl rfl rfl dX1_agesOfAll_21
theorem s_X1_agesOfAll_24 : den sc d MX1_agesOfAll 24 [l0, l1, l2] (r) g = den sc d MX1_agesOfAll 4 [l0, l1, l2] (r) g := eb_goto hM_X1_agesOfAll rfl dX1_agesOfAll_24
theorem s_X1_agesOfAll_27 : den sc d MX1_agesOfAll 27 [l0, some (.int x), l2] (r) g = den sc d MX1_agesOfAll 28 [l0, some (.int x), l2] (.int x :: r) g := eb_iload_n hM_X1_agesOfAll rfl dX1_agesOfAll_27
theorem s_X1_agesOfAll_28 : den sc d MX1_agesOfAll 28 [l0, l1, l2] ([.int x]) g = some (some (.int x), g) := eb_reti hM_X1_agesOfAll hT_X1_agesOfAll rfl dX1_agesOfAll_28
end
section
variable {sc : mx_X} {d : Nat} {g : mx_G} {r : List Value} {x y i : Int32} {z x2 y2 : Int64} {a b : Nat} {l0 l1 l2 l3 l4 l5 l6 l7 l8 l9 l10 : Option Value}
theorem s_X1_thingsInPockets_0 : den sc d MX1_thingsInPockets 0 [l0, l1, l2] (r) g = den sc d MX1_thingsInPockets 1 [l0, l1, l2] (.int (0) :: r) g := eb_iconst hM_X1_thingsInPockets rfl dX1_thingsInPockets_0
theorem s_X1_thingsInPockets_1 {n0 : Nat} : den sc d MX1_thingsInPockets 1 [some (.ref n0), l1, l2] (.int x :: r) g = den sc d MX1_thingsInPockets 2 [some (.ref n0), some (.int x), l2] (r) g := eb_istore_n hM_X1_thingsInPockets (Nat.le_of_ble_eq_true rfl) rfl dX1_thingsInPockets_1
theorem s_X1_thingsInPockets_2 : den sc d MX1_thingsInPockets 2 [l0, l1, l2] (r) g = den sc d MX1_thingsInPockets 3 [l0, l1, l2] (.int (0) :: r) g := eb_iconst hM_X1_thingsInPockets rfl dX1_thingsInPockets_2
theorem s_X1_thingsInPockets_3 {n1 : Int32} : den sc d MX1_thingsInPockets 3 [l0, some (.int n1), l2] (.int x :: r) g = den sc d MX1_thingsInPockets 4 [l0, some (.int n1), some (.int x)] (r) g := eb_istore_n hM_X1_thingsInPockets (Nat.le_of_ble_eq_true rfl) rfl dX1_thingsInPockets_3
theorem s_X1_thingsInPockets_4 : den sc d MX1_thingsInPockets 4 [l0, l1, some (.int x)] (r) g = den sc d MX1_thingsInPockets 5 [l0, l1, some (.int x)] (.int x :: r) g := eb_iload_n hM_X1_thingsInPockets rfl dX1_thingsInPockets_4
theorem s_X1_thingsInPockets_5 : den sc d MX1_thingsInPockets 5 [some (.ref a), l1, l2] (r) g = den sc d MX1_thingsInPockets 6 [some (.ref a), l1, l2] (.ref a :: r) g := eb_aload_n hM_X1_thingsInPockets rfl dX1_thingsInPockets_5
theorem s_X1_thingsInPockets_6 : den sc d MX1_thingsInPockets 6 [l0, l1, l2] (.ref a :: r) g = mx_gf (g.1 a) 1 7 (fun v => den sc d MX1_thingsInPockets 9 [l0, l1, l2] (v :: r) g) := eb_gf hM_X1_thingsInPockets hC_X1_thingsInPockets rf_1_40 dX1_thingsInPockets_6
theorem s_X1_thingsInPockets_9 : den sc d MX1_thingsInPockets 9 [l0, l1, l2] (.int y :: .int x :: r) g = if y ≤ x then den sc d MX1_thingsInPockets 30 [l0, l1, l2] (r) g else den sc d MX1_thingsInPockets 12 [l0, l1, l2] (r) g := eb_icmp_ge hM_X1_thingsInPockets rfl dX1_thingsInPockets_9
theorem s_X1_thingsInPockets_12 : den sc d MX1_thingsInPockets 12 [l0, some (.int x), l2] (r) g = den sc d MX1_thingsInPockets 13 [l0, some (.int x), l2] (.int x :: r) g := eb_iload_n hM_X1_thingsInPockets rfl dX1_thingsInPockets_12
theorem s_X1_thingsInPockets_13 : den sc d MX1_thingsInPockets 13 [some (.ref a), l1, l2] (r) g = den sc d MX1_thingsInPockets 14 [some (.ref a), l1, l2] (.ref a :: r) g := eb_aload_n hM_X1_thingsInPockets rfl dX1_thingsInPockets_13
theorem s_X1_thingsInPockets_14 : den sc d MX1_thingsInPockets 14 [l0, l1, l2] (.ref a :: r) g = mx_gf (g.1 a) 1 4 (fun v => den sc d MX1_thingsInPockets 17 [l0, l1, l2] (v :: r) g) := eb_gf hM_X1_thingsInPockets hC_X1_thingsInPockets rf_1_21 dX1_thingsInPockets_14
theorem s_X1_thingsInPockets_17 : den sc d MX1_thingsInPockets 17 [l0, l1, some (.int x)] (r) g = den sc d MX1_thingsInPockets 18 [l0, l1, some (.int x)] (.int x :: r) g := eb_iload_n hM_X1_thingsInPockets rfl dX1_thingsInPockets_17
theorem s_X1_thingsInPockets_18 : den sc d MX1_thingsInPockets 18 [l0, l1, l2] (.int i :: .ref a :: r) g = mx_ai (mx_av sc g a) i (fun _ f => den sc d MX1_thingsInPockets 19 [l0, l1, l2] (.int (f i.toNatClampNeg) :: r) g) := eb_iald hM_X1_thingsInPockets dX1_thingsInPockets_18
theorem s_X1_thingsInPockets_19 {a0 : Int32} : den sc (d + 1) MX1_thingsInPockets 19 [l0, l1, l2] (.int a0 :: r) g = mx_ck r (call sc d MJ6_bitCount_0f7a4 [.int a0] g) (fun v g' => den sc (d + 1) MX1_thingsInPockets 22 [l0, l1, l2] (v.toList ++ r) g') := eb_static hM_X1_thingsInPockets hC_X1_thingsInPockets rc_1_89_100 rfl rfl rfl dX1_thingsInPockets_19 rfl rfl rfl rfl
theorem s_X1_thingsInPockets_22 : den sc d MX1_thingsInPockets 22 [l0, l1, l2] (.int y :: .int x :: r) g = den sc d MX1_thingsInPockets 23 [l0, l1, l2] (.int (x + y) :: r) g := eb_iadd hM_X1_thingsInPockets dX1_thingsInPockets_22
theorem s_X1_thingsInPockets_23 {n0 : Nat} : den sc d MX1_thingsInPockets 23 [some (.ref n0), l1, l2] (.int x :: r) g = den sc d MX1_thingsInPockets 24 [some (.ref n0), some (.int x), l2] (r) g := eb_istore_n hM_X1_thingsInPockets (Nat.le_of_ble_eq_true rfl) rfl dX1_thingsInPockets_23
theorem s_X1_thingsInPockets_24 {n1 : Int32} : den sc d MX1_thingsInPockets 24 [l0, some (.int n1), some (.int x)] (r) g = den sc d MX1_thingsInPockets 27 [l0, some (.int n1), some (.int (x + (1)))] (r) g := eb_iinc hM_X1_thingsInPockets rfl rfl rfl dX1_thingsInPockets_24
theorem s_X1_thingsInPockets_27 : den sc d MX1_thingsInPockets 27 [l0, l1, l2] (r) g = den sc d MX1_thingsInPockets 4 [l0, l1, l2] (r) g := eb_goto hM_X1_thingsInPockets rfl dX1_thingsInPockets_27
theorem s_X1_thingsInPockets_30 : den sc d MX1_thingsInPockets 30 [l0, some (.int x), l2] (r) g = den sc d MX1_thingsInPockets 31 [l0, some (.int x), l2] (.int x :: r) g := eb_iload_n hM_X1_thingsInPockets rfl dX1_thingsInPockets_30
theorem s_X1_thingsInPockets_31 : den sc d MX1_thingsInPockets 31 [l0, l1, l2] ([.int x]) g = some (some (.int x), g) := eb_reti hM_X1_thingsInPockets hT_X1_thingsInPockets rfl dX1_thingsInPockets_31
end
section
variable {sc : mx_X} {d : Nat} {g : mx_G} {r : List Value} {x y i : Int32} {z x2 y2 : Int64} {a b : Nat} {l0 l1 l2 l3 l4 l5 l6 l7 l8 l9 l10 : Option Value}
theorem s_X2_init_0 : den sc d MX2_init 0 [some (.ref a)] (r) g = den sc d MX2_init 1 [some (.ref a)] (.ref a :: r) g := eb_aload_n hM_X2_init rfl dX2_init_0
theorem s_X2_init_1 : den sc (d + 1) MX2_init 1 [l0] (.ref a :: r) g = mx_ob (g.1 a) (fun _ => mx_ck r (call sc d MX3_init [.ref a] g) (fun v g' => den sc (d + 1) MX2_init 4 [l0] (v.toList ++ r) g')) := eb_special hM_X2_init hC_X2_init rc_2_1_100 (by decide) rfl dX2_init_1 rfl rfl rfl rfl
theorem s_X2_init_4 : den sc d MX2_init 4 [l0] ([]) g = some (none, g) := eb_retv hM_X2_init hT_X2_init dX2_init_4
end
section
variable {sc : mx_X} {d : Nat} {g : mx_G} {r : List Value} {x y i : Int32} {z x2 y2 : Int64} {a b : Nat} {l0 l1 l2 l3 l4 l5 l6 l7 l8 l9 l10 : Option Value}
theorem s_X2_shows_0 : den sc d MX2_shows 0 [some (.ref a), l1, l2, l3, l4] (r) g = den sc d MX2_shows 1 [some (.ref a), l1, l2, l3, l4] (.ref a :: r) g := eb_aload_n hM_X2_shows rfl dX2_shows_0
theorem s_X2_shows_1 : den sc d MX2_shows 1 [l0, some (.int x), l2, l3, l4] (r) g = den sc d MX2_shows 2 [l0, some (.int x), l2, l3, l4] (.int x :: r) g := eb_iload_n hM_X2_shows rfl dX2_shows_1
theorem s_X2_shows_2 : den sc d MX2_shows 2 [l0, l1, some (.int x), l3, l4] (r) g = den sc d MX2_shows 3 [l0, l1, some (.int x), l3, l4] (.int x :: r) g := eb_iload_n hM_X2_shows rfl dX2_shows_2
theorem s_X2_shows_3 : den sc d MX2_shows 3 [l0, l1, l2, some (.ref a), l4] (r) g = den sc d MX2_shows 4 [l0, l1, l2, some (.ref a), l4] (.ref a :: r) g := eb_aload_n hM_X2_shows rfl dX2_shows_3
theorem s_X2_shows_4 {a0 : Int32} {a1 : Int32} {a2 : Nat} : den sc (d + 1) MX2_shows 4 [l0, l1, l2, l3, l4] (.ref a2 :: .int a1 :: .int a0 :: .ref a :: r) g = mx_ob (g.1 a) (fun _ => mx_ck r (call sc d MX3_shows [.ref a, .int a0, .int a1, .ref a2] g) (fun v g' => den sc (d + 1) MX2_shows 7 [l0, l1, l2, l3, l4] (v.toList ++ r) g')) := eb_special hM_X2_shows hC_X2_shows rc_2_7_100 (by decide) rfl dX2_shows_4 rfl rfl rfl rfl
theorem s_X2_shows_7 {n3 : Nat} : den sc d MX2_shows 7 [l0, l1, l2, some (.ref n3), l4] (.int x :: r) g = den sc d MX2_shows 9 [l0, l1, l2, some (.ref n3), some (.int x)] (r) g := eb_istore hM_X2_shows (Nat.le_of_ble_eq_true rfl) rfl dX2_shows_7
theorem s_X2_shows_9 : den sc d MX2_shows 9 [l0, l1, l2, l3, some (.int x)] (r) g = den sc d MX2_shows 11 [l0, l1, l2, l3, some (.int x)] (.int x :: r) g := eb_iload hM_X2_shows rfl dX2_shows_9
theorem s_X2_shows_11 : den sc d MX2_shows 11 [l0, l1, l2, l3, some (.int x)] (r) g = den sc d MX2_shows 13 [l0, l1, l2, l3, some (.int x)] (.int x :: r) g := eb_iload hM_X2_shows rfl dX2_shows_11
theorem s_X2_shows_13 : den sc d MX2_shows 13 [l0, l1, l2, some (.ref a), l4] (r) g = den sc d MX2_shows 14 [l0, l1, l2, some (.ref a), l4] (.ref a :: r) g := eb_aload_n hM_X2_shows rfl dX2_shows_13
theorem s_X2_shows_14 {a0 : Int32} {a1 : Nat} : den sc (d + 1) MX2_shows 14 [l0, l1, l2, l3, l4] (.ref a1 :: .int a0 :: r) g = mx_ck r (call sc d MX10_bestIn [.int a0, .ref a1] g) (fun v g' => den sc (d + 1) MX2_shows 17 [l0, l1, l2, l3, l4] (v.toList ++ r) g') := eb_static hM_X2_shows hC_X2_shows rc_2_11_100 rfl rfl rfl dX2_shows_14 rfl rfl rfl rfl
theorem s_X2_shows_17 {a0 : Int32} : den sc (d + 1) MX2_shows 17 [l0, l1, l2, l3, l4] (.int a0 :: r) g = mx_ck r (call sc d MX10_setOf [.int a0] g) (fun v g' => den sc (d + 1) MX2_shows 20 [l0, l1, l2, l3, l4] (v.toList ++ r) g') := eb_static hM_X2_shows hC_X2_shows rc_2_17_100 rfl rfl rfl dX2_shows_17 rfl rfl rfl rfl
theorem s_X2_shows_20 : den sc d MX2_shows 20 [l0, l1, l2, l3, l4] (r) g = den sc d MX2_shows 21 [l0, l1, l2, l3, l4] (.int (-1) :: r) g := eb_iconst hM_X2_shows rfl dX2_shows_20
theorem s_X2_shows_21 : den sc d MX2_shows 21 [l0, l1, l2, l3, l4] (.int y :: .int x :: r) g = den sc d MX2_shows 22 [l0, l1, l2, l3, l4] (.int (x ^^^ y) :: r) g := eb_ixor hM_X2_shows dX2_shows_21
theorem s_X2_shows_22 : den sc d MX2_shows 22 [l0, l1, l2, l3, l4] (.int y :: .int x :: r) g = den sc d MX2_shows 23 [l0, l1, l2, l3, l4] (.int (x &&& y) :: r) g := eb_iand hM_X2_shows dX2_shows_22
theorem s_X2_shows_23 : den sc d MX2_shows 23 [l0, l1, l2, l3, l4] ([.int x]) g = some (some (.int x), g) := eb_reti hM_X2_shows hT_X2_shows rfl dX2_shows_23
end
section
variable {sc : mx_X} {d : Nat} {g : mx_G} {r : List Value} {x y i : Int32} {z x2 y2 : Int64} {a b : Nat} {l0 l1 l2 l3 l4 l5 l6 l7 l8 l9 l10 : Option Value}
theorem s_X3_init_0 : den sc d MX3_init 0 [some (.ref a)] (r) g = den sc d MX3_init 1 [some (.ref a)] (.ref a :: r) g := eb_aload_n hM_X3_init rfl dX3_init_0
theorem s_X3_init_1 : den sc d MX3_init 1 [l0] (.ref a :: r) g = if r.length ≤ 4 ∧ a < 1000 then den sc d MX3_init 4 [l0] (r) g else none := eb_obj hM_X3_init hC_X3_init rfl rfl dX3_init_1
theorem s_X3_init_4 : den sc d MX3_init 4 [l0] ([]) g = some (none, g) := eb_retv hM_X3_init hT_X3_init dX3_init_4
end
section
variable {sc : mx_X} {d : Nat} {g : mx_G} {r : List Value} {x y i : Int32} {z x2 y2 : Int64} {a b : Nat} {l0 l1 l2 l3 l4 l5 l6 l7 l8 l9 l10 : Option Value}
theorem s_X3_shows_0 : den sc d MX3_shows 0 [l0, some (.int x), l2, l3] (r) g = den sc d MX3_shows 1 [l0, some (.int x), l2, l3] (.int x :: r) g := eb_iload_n hM_X3_shows rfl dX3_shows_0
theorem s_X3_shows_1 : den sc d MX3_shows 1 [l0, l1, l2, l3] ([.int x]) g = some (some (.int x), g) := eb_reti hM_X3_shows hT_X3_shows rfl dX3_shows_1
end
section
variable {sc : mx_X} {d : Nat} {g : mx_G} {r : List Value} {x y i : Int32} {z x2 y2 : Int64} {a b : Nat} {l0 l1 l2 l3 l4 l5 l6 l7 l8 l9 l10 : Option Value}
theorem s_X3_taken_0 : den sc d MX3_taken 0 [l0, some (.int x), l2] (r) g = den sc d MX3_taken 1 [l0, some (.int x), l2] (.int x :: r) g := eb_iload_n hM_X3_taken rfl dX3_taken_0
theorem s_X3_taken_1 : den sc d MX3_taken 1 [l0, l1, some (.ref a)] (r) g = den sc d MX3_taken 2 [l0, l1, some (.ref a)] (.ref a :: r) g := eb_aload_n hM_X3_taken rfl dX3_taken_1
theorem s_X3_taken_2 {a0 : Int32} {a1 : Nat} : den sc (d + 1) MX3_taken 2 [l0, l1, l2] (.ref a1 :: .int a0 :: r) g = mx_ck r (call sc d MX10_bestIn [.int a0, .ref a1] g) (fun v g' => den sc (d + 1) MX3_taken 5 [l0, l1, l2] (v.toList ++ r) g') := eb_static hM_X3_taken hC_X3_taken rc_3_9_100 rfl rfl rfl dX3_taken_2 rfl rfl rfl rfl
theorem s_X3_taken_5 : den sc d MX3_taken 5 [l0, l1, l2] ([.int x]) g = some (some (.int x), g) := eb_reti hM_X3_taken hT_X3_taken rfl dX3_taken_5
end
section
variable {sc : mx_X} {d : Nat} {g : mx_G} {r : List Value} {x y i : Int32} {z x2 y2 : Int64} {a b : Nat} {l0 l1 l2 l3 l4 l5 l6 l7 l8 l9 l10 : Option Value}
theorem s_X3_finds_0 : den sc d MX3_finds 0 [l0, l1] (r) g = den sc d MX3_finds 1 [l0, l1] (.int (5) :: r) g := eb_iconst hM_X3_finds rfl dX3_finds_0
theorem s_X3_finds_1 : den sc d MX3_finds 1 [l0, some (.int x)] (r) g = den sc d MX3_finds 2 [l0, some (.int x)] (.int x :: r) g := eb_iload_n hM_X3_finds rfl dX3_finds_1
theorem s_X3_finds_2 : den sc d MX3_finds 2 [l0, l1] (.int y :: .int x :: r) g = den sc d MX3_finds 3 [l0, l1] (.int (x * y) :: r) g := eb_imul hM_X3_finds dX3_finds_2
theorem s_X3_finds_3 : den sc d MX3_finds 3 [l0, l1] (r) g = den sc d MX3_finds 5 [l0, l1] (.int (16) :: r) g := eb_bipush hM_X3_finds rfl dX3_finds_3
theorem s_X3_finds_5 : den sc d MX3_finds 5 [l0, l1] (.int y :: .int x :: r) g = if y = 0 then none else den sc d MX3_finds 6 [l0, l1] (.int (x - x / y * y) :: r) g := eb_irem hM_X3_finds dX3_finds_5
theorem s_X3_finds_6 : den sc d MX3_finds 6 [l0, l1] ([.int x]) g = some (some (.int x), g) := eb_reti hM_X3_finds hT_X3_finds rfl dX3_finds_6
end
section
variable {sc : mx_X} {d : Nat} {g : mx_G} {r : List Value} {x y i : Int32} {z x2 y2 : Int64} {a b : Nat} {l0 l1 l2 l3 l4 l5 l6 l7 l8 l9 l10 : Option Value}
theorem s_X4_init_0 : den sc d MX4_init 0 [some (.ref a)] (r) g = den sc d MX4_init 1 [some (.ref a)] (.ref a :: r) g := eb_aload_n hM_X4_init rfl dX4_init_0
theorem s_X4_init_1 : den sc (d + 1) MX4_init 1 [l0] (.ref a :: r) g = mx_ob (g.1 a) (fun _ => mx_ck r (call sc d MX3_init [.ref a] g) (fun v g' => den sc (d + 1) MX4_init 4 [l0] (v.toList ++ r) g')) := eb_special hM_X4_init hC_X4_init rc_4_3_100 (by decide) rfl dX4_init_1 rfl rfl rfl rfl
theorem s_X4_init_4 : den sc d MX4_init 4 [l0] ([]) g = some (none, g) := eb_retv hM_X4_init hT_X4_init dX4_init_4
end
section
variable {sc : mx_X} {d : Nat} {g : mx_G} {r : List Value} {x y i : Int32} {z x2 y2 : Int64} {a b : Nat} {l0 l1 l2 l3 l4 l5 l6 l7 l8 l9 l10 : Option Value}
theorem s_X4_taken_0 : den sc d MX4_taken 0 [l0, some (.int x), l2] (r) g = den sc d MX4_taken 1 [l0, some (.int x), l2] (.int x :: r) g := eb_iload_n hM_X4_taken rfl dX4_taken_0
theorem s_X4_taken_1 : den sc d MX4_taken 1 [l0, l1, some (.ref a)] (r) g = den sc d MX4_taken 2 [l0, l1, some (.ref a)] (.ref a :: r) g := eb_aload_n hM_X4_taken rfl dX4_taken_1
theorem s_X4_taken_2 {a0 : Int32} {a1 : Nat} : den sc (d + 1) MX4_taken 2 [l0, l1, l2] (.ref a1 :: .int a0 :: r) g = mx_ck r (call sc d MX10_worstIn [.int a0, .ref a1] g) (fun v g' => den sc (d + 1) MX4_taken 5 [l0, l1, l2] (v.toList ++ r) g') := eb_static hM_X4_taken hC_X4_taken rc_4_9_100 rfl rfl rfl dX4_taken_2 rfl rfl rfl rfl
theorem s_X4_taken_5 : den sc d MX4_taken 5 [l0, l1, l2] ([.int x]) g = some (some (.int x), g) := eb_reti hM_X4_taken hT_X4_taken rfl dX4_taken_5
end
section
variable {sc : mx_X} {d : Nat} {g : mx_G} {r : List Value} {x y i : Int32} {z x2 y2 : Int64} {a b : Nat} {l0 l1 l2 l3 l4 l5 l6 l7 l8 l9 l10 : Option Value}
theorem s_X4_finds_0 : den sc d MX4_finds 0 [l0, some (.int x)] (r) g = den sc d MX4_finds 1 [l0, some (.int x)] (.int x :: r) g := eb_iload_n hM_X4_finds rfl dX4_finds_0
theorem s_X4_finds_1 : den sc d MX4_finds 1 [l0, l1] (r) g = den sc d MX4_finds 2 [l0, l1] (.int (2) :: r) g := eb_iconst hM_X4_finds rfl dX4_finds_1
theorem s_X4_finds_2 : den sc d MX4_finds 2 [l0, l1] (.int y :: .int x :: r) g = if y = 0 then none else den sc d MX4_finds 3 [l0, l1] (.int (x - x / y * y) :: r) g := eb_irem hM_X4_finds dX4_finds_2
theorem s_X4_finds_3 : den sc d MX4_finds 3 [l0, l1] (.int x :: r) g = if x = 0 then den sc d MX4_finds 10 [l0, l1] (r) g else den sc d MX4_finds 6 [l0, l1] (r) g := eb_if_eq hM_X4_finds rfl dX4_finds_3
theorem s_X4_finds_6 : den sc d MX4_finds 6 [l0, l1] (r) g = den sc d MX4_finds 7 [l0, l1] (.int (-1) :: r) g := eb_iconst hM_X4_finds rfl dX4_finds_6
theorem s_X4_finds_7 : den sc d MX4_finds 7 [l0, l1] (r) g = den sc d MX4_finds 15 [l0, l1] (r) g := eb_goto hM_X4_finds rfl dX4_finds_7
theorem s_X4_finds_10 : den sc d MX4_finds 10 [some (.ref a), l1] (r) g = den sc d MX4_finds 11 [some (.ref a), l1] (.ref a :: r) g := eb_aload_n hM_X4_finds rfl dX4_finds_10
theorem s_X4_finds_11 : den sc d MX4_finds 11 [l0, some (.int x)] (r) g = den sc d MX4_finds 12 [l0, some (.int x)] (.int x :: r) g := eb_iload_n hM_X4_finds rfl dX4_finds_11
theorem s_X4_finds_12 {a0 : Int32} : den sc (d + 1) MX4_finds 12 [l0, l1] (.int a0 :: .ref a :: r) g = mx_ob (g.1 a) (fun _ => mx_ck r (call sc d MX3_finds [.ref a, .int a0] g) (fun v g' => den sc (d + 1) MX4_finds 15 [l0, l1] (v.toList ++ r) g')) := eb_special hM_X4_finds hC_X4_finds rc_4_13_100 (by decide) rfl dX4_finds_12 rfl rfl rfl rfl
theorem s_X4_finds_15 : den sc d MX4_finds 15 [l0, l1] ([.int x]) g = some (some (.int x), g) := eb_reti hM_X4_finds hT_X4_finds rfl dX4_finds_15
end
section
variable {sc : mx_X} {d : Nat} {g : mx_G} {r : List Value} {x y i : Int32} {z x2 y2 : Int64} {a b : Nat} {l0 l1 l2 l3 l4 l5 l6 l7 l8 l9 l10 : Option Value}
theorem s_X5_init_0 : den sc d MX5_init 0 [some (.ref a)] (r) g = den sc d MX5_init 1 [some (.ref a)] (.ref a :: r) g := eb_aload_n hM_X5_init rfl dX5_init_0
theorem s_X5_init_1 : den sc d MX5_init 1 [l0] (.ref a :: r) g = if r.length ≤ 4 ∧ a < 1000 then den sc d MX5_init 4 [l0] (r) g else none := eb_obj hM_X5_init hC_X5_init rfl rfl dX5_init_1
theorem s_X5_init_4 : den sc d MX5_init 4 [some (.ref a)] (r) g = den sc d MX5_init 5 [some (.ref a)] (.ref a :: r) g := eb_aload_n hM_X5_init rfl dX5_init_4
theorem s_X5_init_5 : den sc d MX5_init 5 [l0] (r) g = den sc d MX5_init 7 [l0] (.int (40) :: r) g := eb_bipush hM_X5_init rfl dX5_init_5
theorem s_X5_init_7 : den sc d MX5_init 7 [l0] (.int x :: r) g = if ¬ x < 0 ∧ x.toNatClampNeg ≤ 1000 ∧ g.2.1 < 900 then den sc d MX5_init 9 [l0] (.ref g.2.1 :: r) (mx_nw g (.inl (.long, x.toNatClampNeg, .inr (.inl (fun _ => 0)))) x.toNatClampNeg) else none := eb_newl hM_X5_init dX5_init_7
theorem s_X5_init_9 : den sc d MX5_init 9 [l0] (.ref b :: .ref a :: r) g = mx_pf (g.1 a) 5 0 (fun fs => den sc d MX5_init 12 [l0] (r) (mx_up g a (.inr (5, fs.set 0 (.ref b))))) := eb_pfF hM_X5_init hC_X5_init rfl rf_5_9 rfl dX5_init_9
theorem s_X5_init_12 : den sc d MX5_init 12 [l0] ([]) g = some (none, g) := eb_retv hM_X5_init hT_X5_init dX5_init_12
end
section
variable {sc : mx_X} {d : Nat} {g : mx_G} {r : List Value} {x y i : Int32} {z x2 y2 : Int64} {a b : Nat} {l0 l1 l2 l3 l4 l5 l6 l7 l8 l9 l10 : Option Value}
theorem s_X5_begin_0 : den sc d MX5_begin 0 [some (.ref a), l1, l2] (r) g = den sc d MX5_begin 1 [some (.ref a), l1, l2] (.ref a :: r) g := eb_aload_n hM_X5_begin rfl dX5_begin_0
theorem s_X5_begin_1 : den sc d MX5_begin 1 [l0, some (.int x), l2] (r) g = den sc d MX5_begin 2 [l0, some (.int x), l2] (.int x :: r) g := eb_iload_n hM_X5_begin rfl dX5_begin_1
theorem s_X5_begin_2 : den sc d MX5_begin 2 [l0, l1, l2] (.int x :: .ref a :: r) g = mx_pf (g.1 a) 5 1 (fun fs => den sc d MX5_begin 5 [l0, l1, l2] (r) (mx_up g a (.inr (5, fs.set 1 (.int x))))) := eb_pf hM_X5_begin hC_X5_begin rf_5_15 rfl rfl dX5_begin_2
theorem s_X5_begin_5 : den sc d MX5_begin 5 [some (.ref a), l1, l2] (r) g = den sc d MX5_begin 6 [some (.ref a), l1, l2] (.ref a :: r) g := eb_aload_n hM_X5_begin rfl dX5_begin_5
theorem s_X5_begin_6 : den sc d MX5_begin 6 [l0, some (.int x), l2] (r) g = den sc d MX5_begin 7 [l0, some (.int x), l2] (.int x :: r) g := eb_iload_n hM_X5_begin rfl dX5_begin_6
theorem s_X5_begin_7 : den sc d MX5_begin 7 [l0, l1, l2] (.int x :: r) g = if x = 0 then den sc d MX5_begin 10 [l0, l1, l2] (r) g else den sc d MX5_begin 14 [l0, l1, l2] (r) g := eb_if_ne hM_X5_begin rfl dX5_begin_7
theorem s_X5_begin_10 : den sc d MX5_begin 10 [l0, l1, l2] (r) g = den sc d MX5_begin 11 [l0, l1, l2] (.int (0) :: r) g := eb_iconst hM_X5_begin rfl dX5_begin_10
theorem s_X5_begin_11 : den sc d MX5_begin 11 [l0, l1, l2] (r) g = den sc d MX5_begin 15 [l0, l1, l2] (r) g := eb_goto hM_X5_begin rfl dX5_begin_11
theorem s_X5_begin_14 : den sc d MX5_begin 14 [l0, l1, some (.int x)] (r) g = den sc d MX5_begin 15 [l0, l1, some (.int x)] (.int x :: r) g := eb_iload_n hM_X5_begin rfl dX5_begin_14
theorem s_X5_begin_15 : den sc d MX5_begin 15 [l0, l1, l2] (.int x :: .ref a :: r) g = mx_pf (g.1 a) 5 2 (fun fs => den sc d MX5_begin 18 [l0, l1, l2] (r) (mx_up g a (.inr (5, fs.set 2 (.int x))))) := eb_pf hM_X5_begin hC_X5_begin rf_5_19 rfl rfl dX5_begin_15
theorem s_X5_begin_18 : den sc d MX5_begin 18 [some (.ref a), l1, l2] (r) g = den sc d MX5_begin 19 [some (.ref a), l1, l2] (.ref a :: r) g := eb_aload_n hM_X5_begin rfl dX5_begin_18
theorem s_X5_begin_19 : den sc d MX5_begin 19 [l0, l1, l2] (.ref a :: r) g = mx_gf (g.1 a) 5 0 (fun v => den sc d MX5_begin 22 [l0, l1, l2] (v :: r) g) := eb_gf hM_X5_begin hC_X5_begin rf_5_9 dX5_begin_19
theorem s_X5_begin_22 : den sc d MX5_begin 22 [l0, l1, l2] (r) g = den sc d MX5_begin 23 [l0, l1, l2] (.long (0) :: r) g := eb_lconst hM_X5_begin rfl dX5_begin_22
theorem s_X5_begin_23 {a0 : Nat} {a1 : Int64} : den sc (d + 1) MX5_begin 23 [l0, l1, l2] (.long a1 :: .ref a0 :: r) g = mx_ck r (call sc d MJ7_fill_d0a16 [.ref a0, .long a1] g) (fun v g' => den sc (d + 1) MX5_begin 26 [l0, l1, l2] (v.toList ++ r) g') := eb_static hM_X5_begin hC_X5_begin rc_5_22_100 rfl rfl rfl dX5_begin_23 rfl rfl rfl rfl
theorem s_X5_begin_26 : den sc d MX5_begin 26 [l0, l1, l2] ([]) g = some (none, g) := eb_retv hM_X5_begin hT_X5_begin dX5_begin_26
end
section
variable {sc : mx_X} {d : Nat} {g : mx_G} {r : List Value} {x y i : Int32} {z x2 y2 : Int64} {a b : Nat} {l0 l1 l2 l3 l4 l5 l6 l7 l8 l9 l10 : Option Value}
theorem s_X5_isMissing_0 : den sc d MX5_isMissing 0 [some (.ref a)] (r) g = den sc d MX5_isMissing 1 [some (.ref a)] (.ref a :: r) g := eb_aload_n hM_X5_isMissing rfl dX5_isMissing_0
theorem s_X5_isMissing_1 : den sc d MX5_isMissing 1 [l0] (.ref a :: r) g = mx_gf (g.1 a) 5 1 (fun v => den sc d MX5_isMissing 4 [l0] (v :: r) g) := eb_gf hM_X5_isMissing hC_X5_isMissing rf_5_15 dX5_isMissing_1
theorem s_X5_isMissing_4 : den sc d MX5_isMissing 4 [l0] (.int x :: r) g = if x = 0 then den sc d MX5_isMissing 7 [l0] (r) g else den sc d MX5_isMissing 11 [l0] (r) g := eb_if_ne hM_X5_isMissing rfl dX5_isMissing_4
theorem s_X5_isMissing_7 : den sc d MX5_isMissing 7 [l0] (r) g = den sc d MX5_isMissing 8 [l0] (.int (1) :: r) g := eb_iconst hM_X5_isMissing rfl dX5_isMissing_7
theorem s_X5_isMissing_8 : den sc d MX5_isMissing 8 [l0] (r) g = den sc d MX5_isMissing 12 [l0] (r) g := eb_goto hM_X5_isMissing rfl dX5_isMissing_8
theorem s_X5_isMissing_11 : den sc d MX5_isMissing 11 [l0] (r) g = den sc d MX5_isMissing 12 [l0] (.int (0) :: r) g := eb_iconst hM_X5_isMissing rfl dX5_isMissing_11
theorem s_X5_isMissing_12 (hn : narrow .boolean (.int x) = .int x) : den sc d MX5_isMissing 12 [l0] ([.int x]) g = some (some (.int x), g) := eb_reti hM_X5_isMissing hT_X5_isMissing hn dX5_isMissing_12
theorem s_X5_isMissing_12_0 : den sc d MX5_isMissing 12 [l0] ([.int 0]) g = some (some (.int 0), g) := eb_reti hM_X5_isMissing hT_X5_isMissing rfl dX5_isMissing_12
theorem s_X5_isMissing_12_1 : den sc d MX5_isMissing 12 [l0] ([.int 1]) g = some (some (.int 1), g) := eb_reti hM_X5_isMissing hT_X5_isMissing rfl dX5_isMissing_12
end
section
variable {sc : mx_X} {d : Nat} {g : mx_G} {r : List Value} {x y i : Int32} {z x2 y2 : Int64} {a b : Nat} {l0 l1 l2 l3 l4 l5 l6 l7 l8 l9 l10 : Option Value}
theorem s_X5_put_0 : den sc d MX5_put 0 [some (.ref a), l1, l2, l3] (r) g = den sc d MX5_put 1 [some (.ref a), l1, l2, l3] (.ref a :: r) g := eb_aload_n hM_X5_put rfl dX5_put_0
theorem s_X5_put_1 : den sc d MX5_put 1 [l0, l1, l2, l3] (.ref a :: r) g = mx_gf (g.1 a) 5 1 (fun v => den sc d MX5_put 4 [l0, l1, l2, l3] (v :: r) g) := eb_gf hM_X5_put hC_X5_put rf_5_15 dX5_put_1
theorem s_X5_put_4 : den sc d MX5_put 4 [l0, l1, l2, l3] (r) g = den sc d MX5_put 6 [l0, l1, l2, l3] (.int (8) :: r) g := eb_bipush hM_X5_put rfl dX5_put_4
theorem s_X5_put_6 : den sc d MX5_put 6 [l0, l1, l2, l3] (.int y :: .int x :: r) g = if x = y then den sc d MX5_put 9 [l0, l1, l2, l3] (r) g else den sc d MX5_put 22 [l0, l1, l2, l3] (r) g := eb_icmp_ne hM_X5_put rfl dX5_put_6
theorem s_X5_put_9 : den sc d MX5_put 9 [some (.ref a), l1, l2, l3] (r) g = den sc d MX5_put 10 [some (.ref a), l1, l2, l3] (.ref a :: r) g := eb_aload_n hM_X5_put rfl dX5_put_9
theorem s_X5_put_10 : den sc d MX5_put 10 [l0, l1, l2, l3] (.ref a :: r) g = mx_gf (g.1 a) 5 0 (fun v => den sc d MX5_put 13 [l0, l1, l2, l3] (v :: r) g) := eb_gf hM_X5_put hC_X5_put rf_5_9 dX5_put_10
theorem s_X5_put_13 : den sc d MX5_put 13 [l0, some (.int x), l2, l3] (r) g = den sc d MX5_put 14 [l0, some (.int x), l2, l3] (.int x :: r) g := eb_iload_n hM_X5_put rfl dX5_put_13
theorem s_X5_put_14 : den sc d MX5_put 14 [l0, l1, some (.long z), l3] (r) g = den sc d MX5_put 15 [l0, l1, some (.long z), l3] (.long z :: r) g := eb_lload_n hM_X5_put rfl dX5_put_14
theorem s_X5_put_15 : den sc d MX5_put 15 [l0, l1, l2, l3] (.long z :: r) g = den sc d MX5_put 16 [l0, l1, l2, l3] (.int z.toInt32 :: r) g := eb_l2i hM_X5_put dX5_put_15
theorem s_X5_put_16 : den sc d MX5_put 16 [l0, l1, l2, l3] (.int x :: r) g = den sc d MX5_put 17 [l0, l1, l2, l3] (.int x.toInt8.toInt32 :: r) g := eb_i2b hM_X5_put dX5_put_16
theorem s_X5_put_17 : den sc d MX5_put 17 [l0, l1, l2, l3] (.int x :: r) g = den sc d MX5_put 18 [l0, l1, l2, l3] (.long x.toInt64 :: r) g := eb_i2l hM_X5_put dX5_put_17
theorem s_X5_put_18 : den sc d MX5_put 18 [l0, l1, l2, l3] (.long z :: .int i :: .ref a :: r) g = mx_al (g.1 a) i (fun n f => den sc d MX5_put 19 [l0, l1, l2, l3] (r) (mx_up g a (.inl (.long, n, .inr (.inl (vp_updL f i.toNatClampNeg z)))))) := eb_last hM_X5_put dX5_put_18
theorem s_X5_put_19 : den sc d MX5_put 19 [l0, l1, l2, l3] (r) g = den sc d MX5_put 51 [l0, l1, l2, l3] (r) g := eb_goto hM_X5_put rfl dX5_put_19
theorem s_X5_put_22 : den sc d MX5_put 22 [some (.ref a), l1, l2, l3] (r) g = den sc d MX5_put 23 [some (.ref a), l1, l2, l3] (.ref a :: r) g := eb_aload_n hM_X5_put rfl dX5_put_22
theorem s_X5_put_23 : den sc d MX5_put 23 [l0, l1, l2, l3] (.ref a :: r) g = mx_gf (g.1 a) 5 1 (fun v => den sc d MX5_put 26 [l0, l1, l2, l3] (v :: r) g) := eb_gf hM_X5_put hC_X5_put rf_5_15 dX5_put_23
theorem s_X5_put_26 : den sc d MX5_put 26 [l0, l1, l2, l3] (r) g = den sc d MX5_put 28 [l0, l1, l2, l3] (.int (16) :: r) g := eb_bipush hM_X5_put rfl dX5_put_26
theorem s_X5_put_28 : den sc d MX5_put 28 [l0, l1, l2, l3] (.int y :: .int x :: r) g = if x = y then den sc d MX5_put 31 [l0, l1, l2, l3] (r) g else den sc d MX5_put 44 [l0, l1, l2, l3] (r) g := eb_icmp_ne hM_X5_put rfl dX5_put_28
theorem s_X5_put_31 : den sc d MX5_put 31 [some (.ref a), l1, l2, l3] (r) g = den sc d MX5_put 32 [some (.ref a), l1, l2, l3] (.ref a :: r) g := eb_aload_n hM_X5_put rfl dX5_put_31
theorem s_X5_put_32 : den sc d MX5_put 32 [l0, l1, l2, l3] (.ref a :: r) g = mx_gf (g.1 a) 5 0 (fun v => den sc d MX5_put 35 [l0, l1, l2, l3] (v :: r) g) := eb_gf hM_X5_put hC_X5_put rf_5_9 dX5_put_32
theorem s_X5_put_35 : den sc d MX5_put 35 [l0, some (.int x), l2, l3] (r) g = den sc d MX5_put 36 [l0, some (.int x), l2, l3] (.int x :: r) g := eb_iload_n hM_X5_put rfl dX5_put_35
theorem s_X5_put_36 : den sc d MX5_put 36 [l0, l1, some (.long z), l3] (r) g = den sc d MX5_put 37 [l0, l1, some (.long z), l3] (.long z :: r) g := eb_lload_n hM_X5_put rfl dX5_put_36
theorem s_X5_put_37 : den sc d MX5_put 37 [l0, l1, l2, l3] (.long z :: r) g = den sc d MX5_put 38 [l0, l1, l2, l3] (.int z.toInt32 :: r) g := eb_l2i hM_X5_put dX5_put_37
theorem s_X5_put_38 : den sc d MX5_put 38 [l0, l1, l2, l3] (.int x :: r) g = den sc d MX5_put 39 [l0, l1, l2, l3] (.int x.toInt16.toInt32 :: r) g := eb_i2s hM_X5_put dX5_put_38
theorem s_X5_put_39 : den sc d MX5_put 39 [l0, l1, l2, l3] (.int x :: r) g = den sc d MX5_put 40 [l0, l1, l2, l3] (.long x.toInt64 :: r) g := eb_i2l hM_X5_put dX5_put_39
theorem s_X5_put_40 : den sc d MX5_put 40 [l0, l1, l2, l3] (.long z :: .int i :: .ref a :: r) g = mx_al (g.1 a) i (fun n f => den sc d MX5_put 41 [l0, l1, l2, l3] (r) (mx_up g a (.inl (.long, n, .inr (.inl (vp_updL f i.toNatClampNeg z)))))) := eb_last hM_X5_put dX5_put_40
theorem s_X5_put_41 : den sc d MX5_put 41 [l0, l1, l2, l3] (r) g = den sc d MX5_put 51 [l0, l1, l2, l3] (r) g := eb_goto hM_X5_put rfl dX5_put_41
theorem s_X5_put_44 : den sc d MX5_put 44 [some (.ref a), l1, l2, l3] (r) g = den sc d MX5_put 45 [some (.ref a), l1, l2, l3] (.ref a :: r) g := eb_aload_n hM_X5_put rfl dX5_put_44
theorem s_X5_put_45 : den sc d MX5_put 45 [l0, l1, l2, l3] (.ref a :: r) g = mx_gf (g.1 a) 5 0 (fun v => den sc d MX5_put 48 [l0, l1, l2, l3] (v :: r) g) := eb_gf hM_X5_put hC_X5_put rf_5_9 dX5_put_45
theorem s_X5_put_48 : den sc d MX5_put 48 [l0, some (.int x), l2, l3] (r) g = den sc d MX5_put 49 [l0, some (.int x), l2, l3] (.int x :: r) g := eb_iload_n hM_X5_put rfl dX5_put_48
theorem s_X5_put_49 : den sc d MX5_put 49 [l0, l1, some (.long z), l3] (r) g = den sc d MX5_put 50 [l0, l1, some (.long z), l3] (.long z :: r) g := eb_lload_n hM_X5_put rfl dX5_put_49
theorem s_X5_put_50 : den sc d MX5_put 50 [l0, l1, l2, l3] (.long z :: .int i :: .ref a :: r) g = mx_al (g.1 a) i (fun n f => den sc d MX5_put 51 [l0, l1, l2, l3] (r) (mx_up g a (.inl (.long, n, .inr (.inl (vp_updL f i.toNatClampNeg z)))))) := eb_last hM_X5_put dX5_put_50
theorem s_X5_put_51 : den sc d MX5_put 51 [l0, l1, l2, l3] ([]) g = some (none, g) := eb_retv hM_X5_put hT_X5_put dX5_put_51
end
section
variable {sc : mx_X} {d : Nat} {g : mx_G} {r : List Value} {x y i : Int32} {z x2 y2 : Int64} {a b : Nat} {l0 l1 l2 l3 l4 l5 l6 l7 l8 l9 l10 : Option Value}
theorem s_X5_reaches_0 : den sc d MX5_reaches 0 [l0, some (.int x), l2] (r) g = den sc d MX5_reaches 1 [l0, some (.int x), l2] (.int x :: r) g := eb_iload_n hM_X5_reaches rfl dX5_reaches_0
theorem s_X5_reaches_1 : den sc d MX5_reaches 1 [l0, l1, l2] (.int x :: r) g = if x < 0 then den sc d MX5_reaches 30 [l0, l1, l2] (r) g else den sc d MX5_reaches 4 [l0, l1, l2] (r) g := eb_if_lt hM_X5_reaches rfl dX5_reaches_1
theorem s_X5_reaches_4 : den sc d MX5_reaches 4 [l0, l1, some (.int x)] (r) g = den sc d MX5_reaches 5 [l0, l1, some (.int x)] (.int x :: r) g := eb_iload_n hM_X5_reaches rfl dX5_reaches_4
theorem s_X5_reaches_5 : den sc d MX5_reaches 5 [l0, l1, l2] (.int x :: r) g = if x < 0 then den sc d MX5_reaches 30 [l0, l1, l2] (r) g else den sc d MX5_reaches 8 [l0, l1, l2] (r) g := eb_if_lt hM_X5_reaches rfl dX5_reaches_5
theorem s_X5_reaches_8 : den sc d MX5_reaches 8 [l0, some (.int x), l2] (r) g = den sc d MX5_reaches 9 [l0, some (.int x), l2] (.int x :: r) g := eb_iload_n hM_X5_reaches rfl dX5_reaches_8
theorem s_X5_reaches_9 : den sc d MX5_reaches 9 [some (.ref a), l1, l2] (r) g = den sc d MX5_reaches 10 [some (.ref a), l1, l2] (.ref a :: r) g := eb_aload_n hM_X5_reaches rfl dX5_reaches_9
theorem s_X5_reaches_10 : den sc d MX5_reaches 10 [l0, l1, l2] (.ref a :: r) g = mx_gf (g.1 a) 5 2 (fun v => den sc d MX5_reaches 13 [l0, l1, l2] (v :: r) g) := eb_gf hM_X5_reaches hC_X5_reaches rf_5_19 dX5_reaches_10
theorem s_X5_reaches_13 : den sc d MX5_reaches 13 [l0, l1, l2] (.int y :: .int x :: r) g = if y < x then den sc d MX5_reaches 30 [l0, l1, l2] (r) g else den sc d MX5_reaches 16 [l0, l1, l2] (r) g := eb_icmp_gt hM_X5_reaches rfl dX5_reaches_13
theorem s_X5_reaches_16 : den sc d MX5_reaches 16 [l0, l1, some (.int x)] (r) g = den sc d MX5_reaches 17 [l0, l1, some (.int x)] (.int x :: r) g := eb_iload_n hM_X5_reaches rfl dX5_reaches_16
theorem s_X5_reaches_17 : den sc d MX5_reaches 17 [some (.ref a), l1, l2] (r) g = den sc d MX5_reaches 18 [some (.ref a), l1, l2] (.ref a :: r) g := eb_aload_n hM_X5_reaches rfl dX5_reaches_17
theorem s_X5_reaches_18 : den sc d MX5_reaches 18 [l0, l1, l2] (.ref a :: r) g = mx_gf (g.1 a) 5 2 (fun v => den sc d MX5_reaches 21 [l0, l1, l2] (v :: r) g) := eb_gf hM_X5_reaches hC_X5_reaches rf_5_19 dX5_reaches_18
theorem s_X5_reaches_21 : den sc d MX5_reaches 21 [l0, some (.int x), l2] (r) g = den sc d MX5_reaches 22 [l0, some (.int x), l2] (.int x :: r) g := eb_iload_n hM_X5_reaches rfl dX5_reaches_21
theorem s_X5_reaches_22 : den sc d MX5_reaches 22 [l0, l1, l2] (.int y :: .int x :: r) g = den sc d MX5_reaches 23 [l0, l1, l2] (.int (x - y) :: r) g := eb_isub hM_X5_reaches dX5_reaches_22
theorem s_X5_reaches_23 : den sc d MX5_reaches 23 [l0, l1, l2] (.int y :: .int x :: r) g = if y < x then den sc d MX5_reaches 30 [l0, l1, l2] (r) g else den sc d MX5_reaches 26 [l0, l1, l2] (r) g := eb_icmp_gt hM_X5_reaches rfl dX5_reaches_23
theorem s_X5_reaches_26 : den sc d MX5_reaches 26 [l0, l1, l2] (r) g = den sc d MX5_reaches 27 [l0, l1, l2] (.int (1) :: r) g := eb_iconst hM_X5_reaches rfl dX5_reaches_26
theorem s_X5_reaches_27 : den sc d MX5_reaches 27 [l0, l1, l2] (r) g = den sc d MX5_reaches 31 [l0, l1, l2] (r) g := eb_goto hM_X5_reaches rfl dX5_reaches_27
theorem s_X5_reaches_30 : den sc d MX5_reaches 30 [l0, l1, l2] (r) g = den sc d MX5_reaches 31 [l0, l1, l2] (.int (0) :: r) g := eb_iconst hM_X5_reaches rfl dX5_reaches_30
theorem s_X5_reaches_31 (hn : narrow .boolean (.int x) = .int x) : den sc d MX5_reaches 31 [l0, l1, l2] ([.int x]) g = some (some (.int x), g) := eb_reti hM_X5_reaches hT_X5_reaches hn dX5_reaches_31
theorem s_X5_reaches_31_0 : den sc d MX5_reaches 31 [l0, l1, l2] ([.int 0]) g = some (some (.int 0), g) := eb_reti hM_X5_reaches hT_X5_reaches rfl dX5_reaches_31
theorem s_X5_reaches_31_1 : den sc d MX5_reaches 31 [l0, l1, l2] ([.int 1]) g = some (some (.int 1), g) := eb_reti hM_X5_reaches hT_X5_reaches rfl dX5_reaches_31
end
section
variable {sc : mx_X} {d : Nat} {g : mx_G} {r : List Value} {x y i : Int32} {z x2 y2 : Int64} {a b : Nat} {l0 l1 l2 l3 l4 l5 l6 l7 l8 l9 l10 : Option Value}
theorem s_X6_init_0 : den sc d MX6_init 0 [some (.ref a)] (r) g = den sc d MX6_init 1 [some (.ref a)] (.ref a :: r) g := eb_aload_n hM_X6_init rfl dX6_init_0
theorem s_X6_init_1 : den sc (d + 1) MX6_init 1 [l0] (.ref a :: r) g = mx_ob (g.1 a) (fun _ => mx_ck r (call sc d MX2_init [.ref a] g) (fun v g' => den sc (d + 1) MX6_init 4 [l0] (v.toList ++ r) g')) := eb_special hM_X6_init hC_X6_init rc_6_1_100 (by decide) rfl dX6_init_1 rfl rfl rfl rfl
theorem s_X6_init_4 : den sc d MX6_init 4 [l0] ([]) g = some (none, g) := eb_retv hM_X6_init hT_X6_init dX6_init_4
end
section
variable {sc : mx_X} {d : Nat} {g : mx_G} {r : List Value} {x y i : Int32} {z x2 y2 : Int64} {a b : Nat} {l0 l1 l2 l3 l4 l5 l6 l7 l8 l9 l10 : Option Value}
theorem s_X6_shows_0 : den sc d MX6_shows 0 [some (.ref a), l1, l2, l3, l4] (r) g = den sc d MX6_shows 1 [some (.ref a), l1, l2, l3, l4] (.ref a :: r) g := eb_aload_n hM_X6_shows rfl dX6_shows_0
theorem s_X6_shows_1 : den sc d MX6_shows 1 [l0, some (.int x), l2, l3, l4] (r) g = den sc d MX6_shows 2 [l0, some (.int x), l2, l3, l4] (.int x :: r) g := eb_iload_n hM_X6_shows rfl dX6_shows_1
theorem s_X6_shows_2 : den sc d MX6_shows 2 [l0, l1, some (.int x), l3, l4] (r) g = den sc d MX6_shows 3 [l0, l1, some (.int x), l3, l4] (.int x :: r) g := eb_iload_n hM_X6_shows rfl dX6_shows_2
theorem s_X6_shows_3 : den sc d MX6_shows 3 [l0, l1, l2, some (.ref a), l4] (r) g = den sc d MX6_shows 4 [l0, l1, l2, some (.ref a), l4] (.ref a :: r) g := eb_aload_n hM_X6_shows rfl dX6_shows_3
theorem s_X6_shows_4 {a0 : Int32} {a1 : Int32} {a2 : Nat} : den sc (d + 1) MX6_shows 4 [l0, l1, l2, l3, l4] (.ref a2 :: .int a1 :: .int a0 :: .ref a :: r) g = mx_ob (g.1 a) (fun _ => mx_ck r (call sc d MX2_shows [.ref a, .int a0, .int a1, .ref a2] g) (fun v g' => den sc (d + 1) MX6_shows 7 [l0, l1, l2, l3, l4] (v.toList ++ r) g')) := eb_special hM_X6_shows hC_X6_shows rc_6_7_100 (by decide) rfl dX6_shows_4 rfl rfl rfl rfl
theorem s_X6_shows_7 {n3 : Nat} : den sc d MX6_shows 7 [l0, l1, l2, some (.ref n3), l4] (.int x :: r) g = den sc d MX6_shows 9 [l0, l1, l2, some (.ref n3), some (.int x)] (r) g := eb_istore hM_X6_shows (Nat.le_of_ble_eq_true rfl) rfl dX6_shows_7
theorem s_X6_shows_9 : den sc d MX6_shows 9 [l0, l1, l2, l3, some (.int x)] (r) g = den sc d MX6_shows 11 [l0, l1, l2, l3, some (.int x)] (.int x :: r) g := eb_iload hM_X6_shows rfl dX6_shows_9
theorem s_X6_shows_11 : den sc d MX6_shows 11 [l0, l1, l2, l3, some (.int x)] (r) g = den sc d MX6_shows 13 [l0, l1, l2, l3, some (.int x)] (.int x :: r) g := eb_iload hM_X6_shows rfl dX6_shows_11
theorem s_X6_shows_13 : den sc d MX6_shows 13 [l0, l1, l2, some (.ref a), l4] (r) g = den sc d MX6_shows 14 [l0, l1, l2, some (.ref a), l4] (.ref a :: r) g := eb_aload_n hM_X6_shows rfl dX6_shows_13
theorem s_X6_shows_14 {a0 : Int32} {a1 : Nat} : den sc (d + 1) MX6_shows 14 [l0, l1, l2, l3, l4] (.ref a1 :: .int a0 :: r) g = mx_ck r (call sc d MX10_bestIn [.int a0, .ref a1] g) (fun v g' => den sc (d + 1) MX6_shows 17 [l0, l1, l2, l3, l4] (v.toList ++ r) g') := eb_static hM_X6_shows hC_X6_shows rc_6_11_100 rfl rfl rfl dX6_shows_14 rfl rfl rfl rfl
theorem s_X6_shows_17 {a0 : Int32} : den sc (d + 1) MX6_shows 17 [l0, l1, l2, l3, l4] (.int a0 :: r) g = mx_ck r (call sc d MX10_setOf [.int a0] g) (fun v g' => den sc (d + 1) MX6_shows 20 [l0, l1, l2, l3, l4] (v.toList ++ r) g') := eb_static hM_X6_shows hC_X6_shows rc_6_17_100 rfl rfl rfl dX6_shows_17 rfl rfl rfl rfl
theorem s_X6_shows_20 : den sc d MX6_shows 20 [l0, l1, l2, l3, l4] (r) g = den sc d MX6_shows 21 [l0, l1, l2, l3, l4] (.int (-1) :: r) g := eb_iconst hM_X6_shows rfl dX6_shows_20
theorem s_X6_shows_21 : den sc d MX6_shows 21 [l0, l1, l2, l3, l4] (.int y :: .int x :: r) g = den sc d MX6_shows 22 [l0, l1, l2, l3, l4] (.int (x ^^^ y) :: r) g := eb_ixor hM_X6_shows dX6_shows_21
theorem s_X6_shows_22 : den sc d MX6_shows 22 [l0, l1, l2, l3, l4] (.int y :: .int x :: r) g = den sc d MX6_shows 23 [l0, l1, l2, l3, l4] (.int (x &&& y) :: r) g := eb_iand hM_X6_shows dX6_shows_22
theorem s_X6_shows_23 : den sc d MX6_shows 23 [l0, l1, l2, l3, l4] ([.int x]) g = some (some (.int x), g) := eb_reti hM_X6_shows hT_X6_shows rfl dX6_shows_23
end
section
variable {sc : mx_X} {d : Nat} {g : mx_G} {r : List Value} {x y i : Int32} {z x2 y2 : Int64} {a b : Nat} {l0 l1 l2 l3 l4 l5 l6 l7 l8 l9 l10 : Option Value}
theorem s_X7_init_0 : den sc d MX7_init 0 [some (.ref a)] (r) g = den sc d MX7_init 1 [some (.ref a)] (.ref a :: r) g := eb_aload_n hM_X7_init rfl dX7_init_0
theorem s_X7_init_1 : den sc d MX7_init 1 [l0] (.ref a :: r) g = if r.length ≤ 4 ∧ a < 1000 then den sc d MX7_init 4 [l0] (r) g else none := eb_obj hM_X7_init hC_X7_init rfl rfl dX7_init_1
theorem s_X7_init_4 : den sc d MX7_init 4 [some (.ref a)] (r) g = den sc d MX7_init 5 [some (.ref a)] (.ref a :: r) g := eb_aload_n hM_X7_init rfl dX7_init_4
theorem s_X7_init_5 : den sc d MX7_init 5 [l0] (r) g = den sc d MX7_init 7 [l0] (.int (120) :: r) g := eb_bipush hM_X7_init rfl dX7_init_5
theorem s_X7_init_7 : den sc d MX7_init 7 [l0] (.int x :: r) g = if ¬ x < 0 ∧ x.toNatClampNeg ≤ 1000 ∧ g.2.1 < 900 then den sc d MX7_init 9 [l0] (.ref g.2.1 :: r) (mx_nw g (.inl (.int, x.toNatClampNeg, .inl (fun _ => 0))) x.toNatClampNeg) else none := eb_newi hM_X7_init dX7_init_7
theorem s_X7_init_9 : den sc d MX7_init 9 [l0] (.ref b :: .ref a :: r) g = mx_pf (g.1 a) 7 0 (fun fs => den sc d MX7_init 12 [l0] (r) (mx_up g a (.inr (7, fs.set 0 (.ref b))))) := eb_pfF hM_X7_init hC_X7_init rfl rf_7_9 rfl dX7_init_9
theorem s_X7_init_12 : den sc d MX7_init 12 [l0] ([]) g = some (none, g) := eb_retv hM_X7_init hT_X7_init dX7_init_12
end
section
variable {sc : mx_X} {d : Nat} {g : mx_G} {r : List Value} {x y i : Int32} {z x2 y2 : Int64} {a b : Nat} {l0 l1 l2 l3 l4 l5 l6 l7 l8 l9 l10 : Option Value}
theorem s_X7_append_0 : den sc d MX7_append 0 [some (.ref a), l1] (r) g = den sc d MX7_append 1 [some (.ref a), l1] (.ref a :: r) g := eb_aload_n hM_X7_append rfl dX7_append_0
theorem s_X7_append_1 : den sc d MX7_append 1 [l0, l1] (.ref a :: r) g = mx_gf (g.1 a) 7 0 (fun v => den sc d MX7_append 4 [l0, l1] (v :: r) g) := eb_gf hM_X7_append hC_X7_append rf_7_9 dX7_append_1
theorem s_X7_append_4 : den sc d MX7_append 4 [some (.ref a), l1] (r) g = den sc d MX7_append 5 [some (.ref a), l1] (.ref a :: r) g := eb_aload_n hM_X7_append rfl dX7_append_4
theorem s_X7_append_5 : den sc d MX7_append 5 [l0, l1] (.ref a :: r) g = mx_gf (g.1 a) 7 1 (fun v => den sc d MX7_append 8 [l0, l1] (v :: r) g) := eb_gf hM_X7_append hC_X7_append rf_7_15 dX7_append_5
theorem s_X7_append_8 : den sc d MX7_append 8 [l0, some (.int x)] (r) g = den sc d MX7_append 9 [l0, some (.int x)] (.int x :: r) g := eb_iload_n hM_X7_append rfl dX7_append_8
theorem s_X7_append_9 : den sc d MX7_append 9 [l0, l1] (.int x :: .int i :: .ref a :: r) g = mx_ai (g.1 a) i (fun n f => den sc d MX7_append 10 [l0, l1] (r) (mx_up g a (.inl (.int, n, .inl (upd f i.toNatClampNeg x))))) := eb_iast hM_X7_append dX7_append_9
theorem s_X7_append_10 : den sc d MX7_append 10 [some (.ref a), l1] (r) g = den sc d MX7_append 11 [some (.ref a), l1] (.ref a :: r) g := eb_aload_n hM_X7_append rfl dX7_append_10
theorem s_X7_append_11 : den sc d MX7_append 11 [l0, l1] (.ref a :: r) g = den sc d MX7_append 12 [l0, l1] (.ref a :: .ref a :: r) g := eb_dupa hM_X7_append dX7_append_11
theorem s_X7_append_11i : den sc d MX7_append 11 [l0, l1] (.int x :: r) g = den sc d MX7_append 12 [l0, l1] (.int x :: .int x :: r) g := eb_dupi hM_X7_append dX7_append_11
theorem s_X7_append_12 : den sc d MX7_append 12 [l0, l1] (.ref a :: r) g = mx_gf (g.1 a) 7 1 (fun v => den sc d MX7_append 15 [l0, l1] (v :: r) g) := eb_gf hM_X7_append hC_X7_append rf_7_15 dX7_append_12
theorem s_X7_append_15 : den sc d MX7_append 15 [l0, l1] (r) g = den sc d MX7_append 16 [l0, l1] (.int (1) :: r) g := eb_iconst hM_X7_append rfl dX7_append_15
theorem s_X7_append_16 : den sc d MX7_append 16 [l0, l1] (.int y :: .int x :: r) g = den sc d MX7_append 17 [l0, l1] (.int (x + y) :: r) g := eb_iadd hM_X7_append dX7_append_16
theorem s_X7_append_17 : den sc d MX7_append 17 [l0, l1] (.int x :: .ref a :: r) g = mx_pf (g.1 a) 7 1 (fun fs => den sc d MX7_append 20 [l0, l1] (r) (mx_up g a (.inr (7, fs.set 1 (.int x))))) := eb_pf hM_X7_append hC_X7_append rf_7_15 rfl rfl dX7_append_17
theorem s_X7_append_20 : den sc d MX7_append 20 [l0, l1] ([]) g = some (none, g) := eb_retv hM_X7_append hT_X7_append dX7_append_20
end
section
variable {sc : mx_X} {d : Nat} {g : mx_G} {r : List Value} {x y i : Int32} {z x2 y2 : Int64} {a b : Nat} {l0 l1 l2 l3 l4 l5 l6 l7 l8 l9 l10 : Option Value}
theorem s_X8_init_0 : den sc d MX8_init 0 [some (.ref a), l1, l2] (r) g = den sc d MX8_init 1 [some (.ref a), l1, l2] (.ref a :: r) g := eb_aload_n hM_X8_init rfl dX8_init_0
theorem s_X8_init_1 : den sc d MX8_init 1 [l0, l1, l2] (.ref a :: r) g = if r.length ≤ 4 ∧ a < 1000 then den sc d MX8_init 4 [l0, l1, l2] (r) g else none := eb_obj hM_X8_init hC_X8_init rfl rfl dX8_init_1
theorem s_X8_init_4 : den sc d MX8_init 4 [some (.ref a), l1, l2] (r) g = den sc d MX8_init 5 [some (.ref a), l1, l2] (.ref a :: r) g := eb_aload_n hM_X8_init rfl dX8_init_4
theorem s_X8_init_5 : den sc d MX8_init 5 [l0, some (.ref a), l2] (r) g = den sc d MX8_init 6 [l0, some (.ref a), l2] (.ref a :: r) g := eb_aload_n hM_X8_init rfl dX8_init_5
theorem s_X8_init_6 : den sc d MX8_init 6 [l0, l1, l2] (.ref b :: .ref a :: r) g = mx_pf (g.1 a) 8 0 (fun fs => den sc d MX8_init 9 [l0, l1, l2] (r) (mx_up g a (.inr (8, fs.set 0 (.ref b))))) := eb_pfF hM_X8_init hC_X8_init rfl rf_8_9 rfl dX8_init_6
theorem s_X8_init_9 : den sc d MX8_init 9 [some (.ref a), l1, l2] (r) g = den sc d MX8_init 10 [some (.ref a), l1, l2] (.ref a :: r) g := eb_aload_n hM_X8_init rfl dX8_init_9
theorem s_X8_init_10 : den sc d MX8_init 10 [l0, l1, some (.ref a)] (r) g = den sc d MX8_init 11 [l0, l1, some (.ref a)] (.ref a :: r) g := eb_aload_n hM_X8_init rfl dX8_init_10
theorem s_X8_init_11 : den sc d MX8_init 11 [l0, l1, l2] (.ref b :: .ref a :: r) g = mx_pf (g.1 a) 8 1 (fun fs => den sc d MX8_init 14 [l0, l1, l2] (r) (mx_up g a (.inr (8, fs.set 1 (.ref b))))) := eb_pfF hM_X8_init hC_X8_init rfl rf_8_15 rfl dX8_init_11
theorem s_X8_init_14 : den sc d MX8_init 14 [l0, l1, l2] ([]) g = some (none, g) := eb_retv hM_X8_init hT_X8_init dX8_init_14
end
section
variable {sc : mx_X} {d : Nat} {g : mx_G} {r : List Value} {x y i : Int32} {z x2 y2 : Int64} {a b : Nat} {l0 l1 l2 l3 l4 l5 l6 l7 l8 l9 l10 : Option Value}
theorem s_X8_readText_0 : den sc d MX8_readText 0 [some (.ref a), l1] (r) g = den sc d MX8_readText 1 [some (.ref a), l1] (.ref a :: r) g := eb_aload_n hM_X8_readText rfl dX8_readText_0
theorem s_X8_readText_1 : den sc d MX8_readText 1 [l0, l1] (r) g = den sc d MX8_readText 2 [l0, l1] (.int (0) :: r) g := eb_iconst hM_X8_readText rfl dX8_readText_1
theorem s_X8_readText_2 : den sc d MX8_readText 2 [l0, l1] (.int x :: .ref a :: r) g = mx_pf (g.1 a) 8 4 (fun fs => den sc d MX8_readText 5 [l0, l1] (r) (mx_up g a (.inr (8, fs.set 4 (.int x))))) := eb_pf hM_X8_readText hC_X8_readText rf_8_19 rfl rfl dX8_readText_2
theorem s_X8_readText_5 : den sc d MX8_readText 5 [some (.ref a), l1] (r) g = den sc d MX8_readText 6 [some (.ref a), l1] (.ref a :: r) g := eb_aload_n hM_X8_readText rfl dX8_readText_5
theorem s_X8_readText_6  (hrc : mx_rc g a = some 8) : den sc (d + 1) MX8_readText 6 [l0, l1] (.ref a :: r) g = mx_ck r (call sc d MX8_next [.ref a] g) (fun v g' => den sc (d + 1) MX8_readText 9 [l0, l1] (v.toList ++ r) g') := eb_virtual hM_X8_readText hC_X8_readText rc_8_23_8 (by decide) rfl dX8_readText_6 rfl rfl rfl rfl hrc
theorem s_X8_readText_9 : den sc d MX8_readText 9 [l0, l1] (r) g = den sc d MX8_readText 10 [l0, l1] (.int (1) :: r) g := eb_iconst hM_X8_readText rfl dX8_readText_9
theorem s_X8_readText_10 {n0 : Nat} : den sc d MX8_readText 10 [some (.ref n0), l1] (.int x :: r) g = den sc d MX8_readText 11 [some (.ref n0), some (.int x)] (r) g := eb_istore_n hM_X8_readText (Nat.le_of_ble_eq_true rfl) rfl dX8_readText_10
theorem s_X8_readText_11 : den sc d MX8_readText 11 [l0, some (.int x)] (r) g = den sc d MX8_readText 12 [l0, some (.int x)] (.int x :: r) g := eb_iload_n hM_X8_readText rfl dX8_readText_11
theorem s_X8_readText_12 : den sc d MX8_readText 12 [l0, l1] (r) g = den sc d MX8_readText 14 [l0, l1] (.int (120) :: r) g := eb_bipush hM_X8_readText rfl dX8_readText_12
theorem s_X8_readText_14 : den sc d MX8_readText 14 [l0, l1] (.int y :: .int x :: r) g = if y < x then den sc d MX8_readText 65 [l0, l1] (r) g else den sc d MX8_readText 17 [l0, l1] (r) g := eb_icmp_gt hM_X8_readText rfl dX8_readText_14
theorem s_X8_readText_17 : den sc d MX8_readText 17 [some (.ref a), l1] (r) g = den sc d MX8_readText 18 [some (.ref a), l1] (.ref a :: r) g := eb_aload_n hM_X8_readText rfl dX8_readText_17
theorem s_X8_readText_18  (hrc : mx_rc g a = some 8) : den sc (d + 1) MX8_readText 18 [l0, l1] (.ref a :: r) g = mx_ck r (call sc d MX8_readItem [.ref a] g) (fun v g' => den sc (d + 1) MX8_readText 21 [l0, l1] (v.toList ++ r) g') := eb_virtual hM_X8_readText hC_X8_readText rc_8_26_8 (by decide) rfl dX8_readText_18 rfl rfl rfl rfl hrc
theorem s_X8_readText_21 : den sc d MX8_readText 21 [l0, l1] (.int x :: r) g = if x = 0 then den sc d MX8_readText 24 [l0, l1] (r) g else den sc d MX8_readText 31 [l0, l1] (r) g := eb_if_ne hM_X8_readText rfl dX8_readText_21
theorem s_X8_readText_24 : den sc d MX8_readText 24 [l0, l1] (r) g = den sc d MX8_readText 25 [l0, l1] (.int (-1) :: r) g := eb_iconst hM_X8_readText rfl dX8_readText_24
theorem s_X8_readText_25 : den sc d MX8_readText 25 [some (.ref a), l1] (r) g = den sc d MX8_readText 26 [some (.ref a), l1] (.ref a :: r) g := eb_aload_n hM_X8_readText rfl dX8_readText_25
theorem s_X8_readText_26 : den sc d MX8_readText 26 [l0, l1] (.ref a :: r) g = mx_gf (g.1 a) 8 3 (fun v => den sc d MX8_readText 29 [l0, l1] (v :: r) g) := eb_gf hM_X8_readText hC_X8_readText rf_8_30 dX8_readText_26
theorem s_X8_readText_29 : den sc d MX8_readText 29 [l0, l1] (.int y :: .int x :: r) g = den sc d MX8_readText 30 [l0, l1] (.int (x - y) :: r) g := eb_isub hM_X8_readText dX8_readText_29
theorem s_X8_readText_30 : den sc d MX8_readText 30 [l0, l1] ([.int x]) g = some (some (.int x), g) := eb_reti hM_X8_readText hT_X8_readText rfl dX8_readText_30
theorem s_X8_readText_31 : den sc d MX8_readText 31 [some (.ref a), l1] (r) g = den sc d MX8_readText 32 [some (.ref a), l1] (.ref a :: r) g := eb_aload_n hM_X8_readText rfl dX8_readText_31
theorem s_X8_readText_32 : den sc d MX8_readText 32 [l0, l1] (.ref a :: r) g = mx_gf (g.1 a) 8 2 (fun v => den sc d MX8_readText 35 [l0, l1] (v :: r) g) := eb_gf hM_X8_readText hC_X8_readText rf_8_33 dX8_readText_32
theorem s_X8_readText_35 : den sc d MX8_readText 35 [l0, l1] (.int x :: r) g = if x = 0 then den sc d MX8_readText 38 [l0, l1] (r) g else den sc d MX8_readText 40 [l0, l1] (r) g := eb_if_ne hM_X8_readText rfl dX8_readText_35
theorem s_X8_readText_38 : den sc d MX8_readText 38 [l0, some (.int x)] (r) g = den sc d MX8_readText 39 [l0, some (.int x)] (.int x :: r) g := eb_iload_n hM_X8_readText rfl dX8_readText_38
theorem s_X8_readText_39 : den sc d MX8_readText 39 [l0, l1] ([.int x]) g = some (some (.int x), g) := eb_reti hM_X8_readText hT_X8_readText rfl dX8_readText_39
theorem s_X8_readText_40 : den sc d MX8_readText 40 [some (.ref a), l1] (r) g = den sc d MX8_readText 41 [some (.ref a), l1] (.ref a :: r) g := eb_aload_n hM_X8_readText rfl dX8_readText_40
theorem s_X8_readText_41 : den sc d MX8_readText 41 [l0, l1] (.ref a :: r) g = mx_gf (g.1 a) 8 2 (fun v => den sc d MX8_readText 44 [l0, l1] (v :: r) g) := eb_gf hM_X8_readText hC_X8_readText rf_8_33 dX8_readText_41
theorem s_X8_readText_44 : den sc d MX8_readText 44 [l0, l1] (r) g = den sc d MX8_readText 45 [l0, l1] (.int (3) :: r) g := eb_iconst hM_X8_readText rfl dX8_readText_44
theorem s_X8_readText_45 : den sc d MX8_readText 45 [l0, l1] (.int y :: .int x :: r) g = if x = y then den sc d MX8_readText 55 [l0, l1] (r) g else den sc d MX8_readText 48 [l0, l1] (r) g := eb_icmp_eq hM_X8_readText rfl dX8_readText_45
theorem s_X8_readText_48 : den sc d MX8_readText 48 [l0, l1] (r) g = den sc d MX8_readText 49 [l0, l1] (.int (-1) :: r) g := eb_iconst hM_X8_readText rfl dX8_readText_48
theorem s_X8_readText_49 : den sc d MX8_readText 49 [some (.ref a), l1] (r) g = den sc d MX8_readText 50 [some (.ref a), l1] (.ref a :: r) g := eb_aload_n hM_X8_readText rfl dX8_readText_49
theorem s_X8_readText_50 : den sc d MX8_readText 50 [l0, l1] (.ref a :: r) g = mx_gf (g.1 a) 8 3 (fun v => den sc d MX8_readText 53 [l0, l1] (v :: r) g) := eb_gf hM_X8_readText hC_X8_readText rf_8_30 dX8_readText_50
theorem s_X8_readText_53 : den sc d MX8_readText 53 [l0, l1] (.int y :: .int x :: r) g = den sc d MX8_readText 54 [l0, l1] (.int (x - y) :: r) g := eb_isub hM_X8_readText dX8_readText_53
theorem s_X8_readText_54 : den sc d MX8_readText 54 [l0, l1] ([.int x]) g = some (some (.int x), g) := eb_reti hM_X8_readText hT_X8_readText rfl dX8_readText_54
theorem s_X8_readText_55 : den sc d MX8_readText 55 [some (.ref a), l1] (r) g = den sc d MX8_readText 56 [some (.ref a), l1] (.ref a :: r) g := eb_aload_n hM_X8_readText rfl dX8_readText_55
theorem s_X8_readText_56  (hrc : mx_rc g a = some 8) : den sc (d + 1) MX8_readText 56 [l0, l1] (.ref a :: r) g = mx_ck r (call sc d MX8_next [.ref a] g) (fun v g' => den sc (d + 1) MX8_readText 59 [l0, l1] (v.toList ++ r) g') := eb_virtual hM_X8_readText hC_X8_readText rc_8_23_8 (by decide) rfl dX8_readText_56 rfl rfl rfl rfl hrc
theorem s_X8_readText_59 {n0 : Nat} : den sc d MX8_readText 59 [some (.ref n0), some (.int x)] (r) g = den sc d MX8_readText 62 [some (.ref n0), some (.int (x + (1)))] (r) g := eb_iinc hM_X8_readText rfl rfl rfl dX8_readText_59
theorem s_X8_readText_62 : den sc d MX8_readText 62 [l0, l1] (r) g = den sc d MX8_readText 11 [l0, l1] (r) g := eb_goto hM_X8_readText rfl dX8_readText_62
theorem s_X8_readText_65 : den sc d MX8_readText 65 [l0, l1] (r) g = den sc d MX8_readText 66 [l0, l1] (.int (-1) :: r) g := eb_iconst hM_X8_readText rfl dX8_readText_65
theorem s_X8_readText_66 : den sc d MX8_readText 66 [some (.ref a), l1] (r) g = den sc d MX8_readText 67 [some (.ref a), l1] (.ref a :: r) g := eb_aload_n hM_X8_readText rfl dX8_readText_66
theorem s_X8_readText_67 : den sc d MX8_readText 67 [l0, l1] (.ref a :: r) g = mx_gf (g.1 a) 8 3 (fun v => den sc d MX8_readText 70 [l0, l1] (v :: r) g) := eb_gf hM_X8_readText hC_X8_readText rf_8_30 dX8_readText_67
theorem s_X8_readText_70 : den sc d MX8_readText 70 [l0, l1] (.int y :: .int x :: r) g = den sc d MX8_readText 71 [l0, l1] (.int (x - y) :: r) g := eb_isub hM_X8_readText dX8_readText_70
theorem s_X8_readText_71 : den sc d MX8_readText 71 [l0, l1] ([.int x]) g = some (some (.int x), g) := eb_reti hM_X8_readText hT_X8_readText rfl dX8_readText_71
end
section
variable {sc : mx_X} {d : Nat} {g : mx_G} {r : List Value} {x y i : Int32} {z x2 y2 : Int64} {a b : Nat} {l0 l1 l2 l3 l4 l5 l6 l7 l8 l9 l10 : Option Value}
theorem s_X8_readItem_0 : den sc d MX8_readItem 0 [some (.ref a), l1] (r) g = den sc d MX8_readItem 1 [some (.ref a), l1] (.ref a :: r) g := eb_aload_n hM_X8_readItem rfl dX8_readItem_0
theorem s_X8_readItem_1  (hrc : mx_rc g a = some 8) : den sc (d + 1) MX8_readItem 1 [l0, l1] (.ref a :: r) g = mx_ck r (call sc d MX8_kindNamed [.ref a] g) (fun v g' => den sc (d + 1) MX8_readItem 4 [l0, l1] (v.toList ++ r) g') := eb_virtual hM_X8_readItem hC_X8_readItem rc_8_36_8 (by decide) rfl dX8_readItem_1 rfl rfl rfl rfl hrc
theorem s_X8_readItem_4 {n0 : Nat} : den sc d MX8_readItem 4 [some (.ref n0), l1] (.int x :: r) g = den sc d MX8_readItem 5 [some (.ref n0), some (.int x)] (r) g := eb_istore_n hM_X8_readItem (Nat.le_of_ble_eq_true rfl) rfl dX8_readItem_4
theorem s_X8_readItem_5 : den sc d MX8_readItem 5 [l0, some (.int x)] (r) g = den sc d MX8_readItem 6 [l0, some (.int x)] (.int x :: r) g := eb_iload_n hM_X8_readItem rfl dX8_readItem_5
theorem s_X8_readItem_6 : den sc d MX8_readItem 6 [l0, l1] (.int x :: r) g = if x < 0 then den sc d MX8_readItem 15 [l0, l1] (r) g else den sc d MX8_readItem 9 [l0, l1] (r) g := eb_if_lt hM_X8_readItem rfl dX8_readItem_6
theorem s_X8_readItem_9 : den sc d MX8_readItem 9 [some (.ref a), l1] (r) g = den sc d MX8_readItem 10 [some (.ref a), l1] (.ref a :: r) g := eb_aload_n hM_X8_readItem rfl dX8_readItem_9
theorem s_X8_readItem_10 : den sc d MX8_readItem 10 [l0, some (.int x)] (r) g = den sc d MX8_readItem 11 [l0, some (.int x)] (.int x :: r) g := eb_iload_n hM_X8_readItem rfl dX8_readItem_10
theorem s_X8_readItem_11 {a0 : Int32} (hrc : mx_rc g a = some 8) : den sc (d + 1) MX8_readItem 11 [l0, l1] (.int a0 :: .ref a :: r) g = mx_ck r (call sc d MX8_readPerson [.ref a, .int a0] g) (fun v g' => den sc (d + 1) MX8_readItem 14 [l0, l1] (v.toList ++ r) g') := eb_virtual hM_X8_readItem hC_X8_readItem rc_8_40_8 (by decide) rfl dX8_readItem_11 rfl rfl rfl rfl hrc
theorem s_X8_readItem_14 (hn : narrow .boolean (.int x) = .int x) : den sc d MX8_readItem 14 [l0, l1] ([.int x]) g = some (some (.int x), g) := eb_reti hM_X8_readItem hT_X8_readItem hn dX8_readItem_14
theorem s_X8_readItem_14_0 : den sc d MX8_readItem 14 [l0, l1] ([.int 0]) g = some (some (.int 0), g) := eb_reti hM_X8_readItem hT_X8_readItem rfl dX8_readItem_14
theorem s_X8_readItem_14_1 : den sc d MX8_readItem 14 [l0, l1] ([.int 1]) g = some (some (.int 1), g) := eb_reti hM_X8_readItem hT_X8_readItem rfl dX8_readItem_14
theorem s_X8_readItem_15 : den sc d MX8_readItem 15 [some (.ref a), l1] (r) g = den sc d MX8_readItem 16 [some (.ref a), l1] (.ref a :: r) g := eb_aload_n hM_X8_readItem rfl dX8_readItem_15
theorem s_X8_readItem_16 : den sc d MX8_readItem 16 [l0, l1] (r) g = den sc d MX8_readItem 18 [l0, l1] (.ref 1009 :: r) g := eb_ldca hM_X8_readItem hC_X8_readItem rl_8_44 dX8_readItem_16
theorem s_X8_readItem_18 {a0 : Nat} (hrc : mx_rc g a = some 8) : den sc (d + 1) MX8_readItem 18 [l0, l1] (.ref a0 :: .ref a :: r) g = mx_ck r (call sc d MX8_isWord [.ref a, .ref a0] g) (fun v g' => den sc (d + 1) MX8_readItem 21 [l0, l1] (v.toList ++ r) g') := eb_virtual hM_X8_readItem hC_X8_readItem rc_8_46_8 (by decide) rfl dX8_readItem_18 rfl rfl rfl rfl hrc
theorem s_X8_readItem_21 : den sc d MX8_readItem 21 [l0, l1] (.int x :: r) g = if x = 0 then den sc d MX8_readItem 29 [l0, l1] (r) g else den sc d MX8_readItem 24 [l0, l1] (r) g := eb_if_eq hM_X8_readItem rfl dX8_readItem_21
theorem s_X8_readItem_24 : den sc d MX8_readItem 24 [some (.ref a), l1] (r) g = den sc d MX8_readItem 25 [some (.ref a), l1] (.ref a :: r) g := eb_aload_n hM_X8_readItem rfl dX8_readItem_24
theorem s_X8_readItem_25  (hrc : mx_rc g a = some 8) : den sc (d + 1) MX8_readItem 25 [l0, l1] (.ref a :: r) g = mx_ck r (call sc d MX8_readWorth [.ref a] g) (fun v g' => den sc (d + 1) MX8_readItem 28 [l0, l1] (v.toList ++ r) g') := eb_virtual hM_X8_readItem hC_X8_readItem rc_8_50_8 (by decide) rfl dX8_readItem_25 rfl rfl rfl rfl hrc
theorem s_X8_readItem_28 (hn : narrow .boolean (.int x) = .int x) : den sc d MX8_readItem 28 [l0, l1] ([.int x]) g = some (some (.int x), g) := eb_reti hM_X8_readItem hT_X8_readItem hn dX8_readItem_28
theorem s_X8_readItem_28_0 : den sc d MX8_readItem 28 [l0, l1] ([.int 0]) g = some (some (.int 0), g) := eb_reti hM_X8_readItem hT_X8_readItem rfl dX8_readItem_28
theorem s_X8_readItem_28_1 : den sc d MX8_readItem 28 [l0, l1] ([.int 1]) g = some (some (.int 1), g) := eb_reti hM_X8_readItem hT_X8_readItem rfl dX8_readItem_28
theorem s_X8_readItem_29 : den sc d MX8_readItem 29 [some (.ref a), l1] (r) g = den sc d MX8_readItem 30 [some (.ref a), l1] (.ref a :: r) g := eb_aload_n hM_X8_readItem rfl dX8_readItem_29
theorem s_X8_readItem_30 : den sc d MX8_readItem 30 [l0, l1] (r) g = den sc d MX8_readItem 32 [l0, l1] (.ref 1010 :: r) g := eb_ldca hM_X8_readItem hC_X8_readItem rl_8_53 dX8_readItem_30
theorem s_X8_readItem_32 {a0 : Nat} (hrc : mx_rc g a = some 8) : den sc (d + 1) MX8_readItem 32 [l0, l1] (.ref a0 :: .ref a :: r) g = mx_ck r (call sc d MX8_isWord [.ref a, .ref a0] g) (fun v g' => den sc (d + 1) MX8_readItem 35 [l0, l1] (v.toList ++ r) g') := eb_virtual hM_X8_readItem hC_X8_readItem rc_8_46_8 (by decide) rfl dX8_readItem_32 rfl rfl rfl rfl hrc
theorem s_X8_readItem_35 : den sc d MX8_readItem 35 [l0, l1] (.int x :: r) g = if x = 0 then den sc d MX8_readItem 43 [l0, l1] (r) g else den sc d MX8_readItem 38 [l0, l1] (r) g := eb_if_eq hM_X8_readItem rfl dX8_readItem_35
theorem s_X8_readItem_38 : den sc d MX8_readItem 38 [some (.ref a), l1] (r) g = den sc d MX8_readItem 39 [some (.ref a), l1] (.ref a :: r) g := eb_aload_n hM_X8_readItem rfl dX8_readItem_38
theorem s_X8_readItem_39  (hrc : mx_rc g a = some 8) : den sc (d + 1) MX8_readItem 39 [l0, l1] (.ref a :: r) g = mx_ck r (call sc d MX8_readBurned [.ref a] g) (fun v g' => den sc (d + 1) MX8_readItem 42 [l0, l1] (v.toList ++ r) g') := eb_virtual hM_X8_readItem hC_X8_readItem rc_8_55_8 (by decide) rfl dX8_readItem_39 rfl rfl rfl rfl hrc
theorem s_X8_readItem_42 (hn : narrow .boolean (.int x) = .int x) : den sc d MX8_readItem 42 [l0, l1] ([.int x]) g = some (some (.int x), g) := eb_reti hM_X8_readItem hT_X8_readItem hn dX8_readItem_42
theorem s_X8_readItem_42_0 : den sc d MX8_readItem 42 [l0, l1] ([.int 0]) g = some (some (.int 0), g) := eb_reti hM_X8_readItem hT_X8_readItem rfl dX8_readItem_42
theorem s_X8_readItem_42_1 : den sc d MX8_readItem 42 [l0, l1] ([.int 1]) g = some (some (.int 1), g) := eb_reti hM_X8_readItem hT_X8_readItem rfl dX8_readItem_42
theorem s_X8_readItem_43 : den sc d MX8_readItem 43 [l0, l1] (r) g = den sc d MX8_readItem 44 [l0, l1] (.int (0) :: r) g := eb_iconst hM_X8_readItem rfl dX8_readItem_43
theorem s_X8_readItem_44 (hn : narrow .boolean (.int x) = .int x) : den sc d MX8_readItem 44 [l0, l1] ([.int x]) g = some (some (.int x), g) := eb_reti hM_X8_readItem hT_X8_readItem hn dX8_readItem_44
theorem s_X8_readItem_44_0 : den sc d MX8_readItem 44 [l0, l1] ([.int 0]) g = some (some (.int 0), g) := eb_reti hM_X8_readItem hT_X8_readItem rfl dX8_readItem_44
theorem s_X8_readItem_44_1 : den sc d MX8_readItem 44 [l0, l1] ([.int 1]) g = some (some (.int 1), g) := eb_reti hM_X8_readItem hT_X8_readItem rfl dX8_readItem_44
end
section
variable {sc : mx_X} {d : Nat} {g : mx_G} {r : List Value} {x y i : Int32} {z x2 y2 : Int64} {a b : Nat} {l0 l1 l2 l3 l4 l5 l6 l7 l8 l9 l10 : Option Value}
theorem s_X8_readPerson_0 : den sc d MX8_readPerson 0 [some (.ref a), l1, l2] (r) g = den sc d MX8_readPerson 1 [some (.ref a), l1, l2] (.ref a :: r) g := eb_aload_n hM_X8_readPerson rfl dX8_readPerson_0
theorem s_X8_readPerson_1 : den sc d MX8_readPerson 1 [l0, l1, l2] (.ref a :: r) g = mx_gf (g.1 a) 8 1 (fun v => den sc d MX8_readPerson 4 [l0, l1, l2] (v :: r) g) := eb_gf hM_X8_readPerson hC_X8_readPerson rf_8_15 dX8_readPerson_1
theorem s_X8_readPerson_4 : den sc d MX8_readPerson 4 [l0, l1, l2] (.ref a :: r) g = mx_gf (g.1 a) 1 7 (fun v => den sc d MX8_readPerson 7 [l0, l1, l2] (v :: r) g) := eb_gf hM_X8_readPerson hC_X8_readPerson rf_8_58 dX8_readPerson_4
theorem s_X8_readPerson_7 : den sc d MX8_readPerson 7 [l0, l1, l2] (r) g = den sc d MX8_readPerson 9 [l0, l1, l2] (.int (8) :: r) g := eb_bipush hM_X8_readPerson rfl dX8_readPerson_7
theorem s_X8_readPerson_9 : den sc d MX8_readPerson 9 [l0, l1, l2] (.int y :: .int x :: r) g = if x < y then den sc d MX8_readPerson 14 [l0, l1, l2] (r) g else den sc d MX8_readPerson 12 [l0, l1, l2] (r) g := eb_icmp_lt hM_X8_readPerson rfl dX8_readPerson_9
theorem s_X8_readPerson_12 : den sc d MX8_readPerson 12 [l0, l1, l2] (r) g = den sc d MX8_readPerson 13 [l0, l1, l2] (.int (0) :: r) g := eb_iconst hM_X8_readPerson rfl dX8_readPerson_12
theorem s_X8_readPerson_13 (hn : narrow .boolean (.int x) = .int x) : den sc d MX8_readPerson 13 [l0, l1, l2] ([.int x]) g = some (some (.int x), g) := eb_reti hM_X8_readPerson hT_X8_readPerson hn dX8_readPerson_13
theorem s_X8_readPerson_13_0 : den sc d MX8_readPerson 13 [l0, l1, l2] ([.int 0]) g = some (some (.int 0), g) := eb_reti hM_X8_readPerson hT_X8_readPerson rfl dX8_readPerson_13
theorem s_X8_readPerson_13_1 : den sc d MX8_readPerson 13 [l0, l1, l2] ([.int 1]) g = some (some (.int 1), g) := eb_reti hM_X8_readPerson hT_X8_readPerson rfl dX8_readPerson_13
theorem s_X8_readPerson_14 : den sc d MX8_readPerson 14 [some (.ref a), l1, l2] (r) g = den sc d MX8_readPerson 15 [some (.ref a), l1, l2] (.ref a :: r) g := eb_aload_n hM_X8_readPerson rfl dX8_readPerson_14
theorem s_X8_readPerson_15 : den sc d MX8_readPerson 15 [l0, l1, l2] (.ref a :: r) g = mx_gf (g.1 a) 8 1 (fun v => den sc d MX8_readPerson 18 [l0, l1, l2] (v :: r) g) := eb_gf hM_X8_readPerson hC_X8_readPerson rf_8_15 dX8_readPerson_15
theorem s_X8_readPerson_18 : den sc d MX8_readPerson 18 [l0, some (.int x), l2] (r) g = den sc d MX8_readPerson 19 [l0, some (.int x), l2] (.int x :: r) g := eb_iload_n hM_X8_readPerson rfl dX8_readPerson_18
theorem s_X8_readPerson_19 {a0 : Int32} (hrc : mx_rc g a = some 1) : den sc (d + 1) MX8_readPerson 19 [l0, l1, l2] (.int a0 :: .ref a :: r) g = mx_ck r (call sc d MX1_addPerson [.ref a, .int a0] g) (fun v g' => den sc (d + 1) MX8_readPerson 22 [l0, l1, l2] (v.toList ++ r) g') := eb_virtual hM_X8_readPerson hC_X8_readPerson rc_8_63_1 (by decide) rfl dX8_readPerson_19 rfl rfl rfl rfl hrc
theorem s_X8_readPerson_22 {n1 : Int32} : den sc d MX8_readPerson 22 [l0, some (.int n1), l2] (.int x :: r) g = den sc d MX8_readPerson 23 [l0, some (.int n1), some (.int x)] (r) g := eb_istore_n hM_X8_readPerson (Nat.le_of_ble_eq_true rfl) rfl dX8_readPerson_22
theorem s_X8_readPerson_23 : den sc d MX8_readPerson 23 [some (.ref a), l1, l2] (r) g = den sc d MX8_readPerson 24 [some (.ref a), l1, l2] (.ref a :: r) g := eb_aload_n hM_X8_readPerson rfl dX8_readPerson_23
theorem s_X8_readPerson_24  (hrc : mx_rc g a = some 8) : den sc (d + 1) MX8_readPerson 24 [l0, l1, l2] (.ref a :: r) g = mx_ck r (call sc d MX8_next [.ref a] g) (fun v g' => den sc (d + 1) MX8_readPerson 27 [l0, l1, l2] (v.toList ++ r) g') := eb_virtual hM_X8_readPerson hC_X8_readPerson rc_8_23_8 (by decide) rfl dX8_readPerson_24 rfl rfl rfl rfl hrc
theorem s_X8_readPerson_27 : den sc d MX8_readPerson 27 [some (.ref a), l1, l2] (r) g = den sc d MX8_readPerson 28 [some (.ref a), l1, l2] (.ref a :: r) g := eb_aload_n hM_X8_readPerson rfl dX8_readPerson_27
theorem s_X8_readPerson_28 : den sc d MX8_readPerson 28 [l0, l1, l2] (r) g = den sc d MX8_readPerson 30 [l0, l1, l2] (.ref 1006 :: r) g := eb_ldca hM_X8_readPerson hC_X8_readPerson rl_8_67 dX8_readPerson_28
theorem s_X8_readPerson_30 {a0 : Nat} (hrc : mx_rc g a = some 8) : den sc (d + 1) MX8_readPerson 30 [l0, l1, l2] (.ref a0 :: .ref a :: r) g = mx_ck r (call sc d MX8_isWord [.ref a, .ref a0] g) (fun v g' => den sc (d + 1) MX8_readPerson 33 [l0, l1, l2] (v.toList ++ r) g') := eb_virtual hM_X8_readPerson hC_X8_readPerson rc_8_46_8 (by decide) rfl dX8_readPerson_30 rfl rfl rfl rfl hrc
theorem s_X8_readPerson_33 : den sc d MX8_readPerson 33 [l0, l1, l2] (.int x :: r) g = if x = 0 then den sc d MX8_readPerson 68 [l0, l1, l2] (r) g else den sc d MX8_readPerson 36 [l0, l1, l2] (r) g := eb_if_eq hM_X8_readPerson rfl dX8_readPerson_33
theorem s_X8_readPerson_36 : den sc d MX8_readPerson 36 [some (.ref a), l1, l2] (r) g = den sc d MX8_readPerson 37 [some (.ref a), l1, l2] (.ref a :: r) g := eb_aload_n hM_X8_readPerson rfl dX8_readPerson_36
theorem s_X8_readPerson_37  (hrc : mx_rc g a = some 8) : den sc (d + 1) MX8_readPerson 37 [l0, l1, l2] (.ref a :: r) g = mx_ck r (call sc d MX8_next [.ref a] g) (fun v g' => den sc (d + 1) MX8_readPerson 40 [l0, l1, l2] (v.toList ++ r) g') := eb_virtual hM_X8_readPerson hC_X8_readPerson rc_8_23_8 (by decide) rfl dX8_readPerson_37 rfl rfl rfl rfl hrc
theorem s_X8_readPerson_40 : den sc d MX8_readPerson 40 [some (.ref a), l1, l2] (r) g = den sc d MX8_readPerson 41 [some (.ref a), l1, l2] (.ref a :: r) g := eb_aload_n hM_X8_readPerson rfl dX8_readPerson_40
theorem s_X8_readPerson_41 : den sc d MX8_readPerson 41 [l0, l1, l2] (r) g = den sc d MX8_readPerson 43 [l0, l1, l2] (.int (70) :: r) g := eb_bipush hM_X8_readPerson rfl dX8_readPerson_41
theorem s_X8_readPerson_43 {a0 : Int32} (hrc : mx_rc g a = some 8) : den sc (d + 1) MX8_readPerson 43 [l0, l1, l2] (.int a0 :: .ref a :: r) g = mx_ck r (call sc d MX8_isNumber [.ref a, .int a0] g) (fun v g' => den sc (d + 1) MX8_readPerson 46 [l0, l1, l2] (v.toList ++ r) g') := eb_virtual hM_X8_readPerson hC_X8_readPerson rc_8_69_8 (by decide) rfl dX8_readPerson_43 rfl rfl rfl rfl hrc
theorem s_X8_readPerson_46 : den sc d MX8_readPerson 46 [l0, l1, l2] (.int x :: r) g = if x = 0 then den sc d MX8_readPerson 49 [l0, l1, l2] (r) g else den sc d MX8_readPerson 51 [l0, l1, l2] (r) g := eb_if_ne hM_X8_readPerson rfl dX8_readPerson_46
theorem s_X8_readPerson_49 : den sc d MX8_readPerson 49 [l0, l1, l2] (r) g = den sc d MX8_readPerson 50 [l0, l1, l2] (.int (0) :: r) g := eb_iconst hM_X8_readPerson rfl dX8_readPerson_49
theorem s_X8_readPerson_50 (hn : narrow .boolean (.int x) = .int x) : den sc d MX8_readPerson 50 [l0, l1, l2] ([.int x]) g = some (some (.int x), g) := eb_reti hM_X8_readPerson hT_X8_readPerson hn dX8_readPerson_50
theorem s_X8_readPerson_50_0 : den sc d MX8_readPerson 50 [l0, l1, l2] ([.int 0]) g = some (some (.int 0), g) := eb_reti hM_X8_readPerson hT_X8_readPerson rfl dX8_readPerson_50
theorem s_X8_readPerson_50_1 : den sc d MX8_readPerson 50 [l0, l1, l2] ([.int 1]) g = some (some (.int 1), g) := eb_reti hM_X8_readPerson hT_X8_readPerson rfl dX8_readPerson_50
theorem s_X8_readPerson_51 : den sc d MX8_readPerson 51 [some (.ref a), l1, l2] (r) g = den sc d MX8_readPerson 52 [some (.ref a), l1, l2] (.ref a :: r) g := eb_aload_n hM_X8_readPerson rfl dX8_readPerson_51
theorem s_X8_readPerson_52 : den sc d MX8_readPerson 52 [l0, l1, l2] (.ref a :: r) g = mx_gf (g.1 a) 8 1 (fun v => den sc d MX8_readPerson 55 [l0, l1, l2] (v :: r) g) := eb_gf hM_X8_readPerson hC_X8_readPerson rf_8_15 dX8_readPerson_52
theorem s_X8_readPerson_55 : den sc d MX8_readPerson 55 [l0, l1, l2] (.ref a :: r) g = mx_gf (g.1 a) 1 3 (fun v => den sc d MX8_readPerson 58 [l0, l1, l2] (v :: r) g) := eb_gf hM_X8_readPerson hC_X8_readPerson rf_8_72 dX8_readPerson_55
theorem s_X8_readPerson_58 : den sc d MX8_readPerson 58 [l0, l1, some (.int x)] (r) g = den sc d MX8_readPerson 59 [l0, l1, some (.int x)] (.int x :: r) g := eb_iload_n hM_X8_readPerson rfl dX8_readPerson_58
theorem s_X8_readPerson_59 : den sc d MX8_readPerson 59 [some (.ref a), l1, l2] (r) g = den sc d MX8_readPerson 60 [some (.ref a), l1, l2] (.ref a :: r) g := eb_aload_n hM_X8_readPerson rfl dX8_readPerson_59
theorem s_X8_readPerson_60 : den sc d MX8_readPerson 60 [l0, l1, l2] (.ref a :: r) g = mx_gf (g.1 a) 8 5 (fun v => den sc d MX8_readPerson 63 [l0, l1, l2] (v :: r) g) := eb_gf hM_X8_readPerson hC_X8_readPerson rf_8_76 dX8_readPerson_60
theorem s_X8_readPerson_63 : den sc d MX8_readPerson 63 [l0, l1, l2] (.int x :: .int i :: .ref a :: r) g = mx_ai (g.1 a) i (fun n f => den sc d MX8_readPerson 64 [l0, l1, l2] (r) (mx_up g a (.inl (.int, n, .inl (upd f i.toNatClampNeg x))))) := eb_iast hM_X8_readPerson dX8_readPerson_63
theorem s_X8_readPerson_64 : den sc d MX8_readPerson 64 [some (.ref a), l1, l2] (r) g = den sc d MX8_readPerson 65 [some (.ref a), l1, l2] (.ref a :: r) g := eb_aload_n hM_X8_readPerson rfl dX8_readPerson_64
theorem s_X8_readPerson_65  (hrc : mx_rc g a = some 8) : den sc (d + 1) MX8_readPerson 65 [l0, l1, l2] (.ref a :: r) g = mx_ck r (call sc d MX8_next [.ref a] g) (fun v g' => den sc (d + 1) MX8_readPerson 68 [l0, l1, l2] (v.toList ++ r) g') := eb_virtual hM_X8_readPerson hC_X8_readPerson rc_8_23_8 (by decide) rfl dX8_readPerson_65 rfl rfl rfl rfl hrc
theorem s_X8_readPerson_68 : den sc d MX8_readPerson 68 [some (.ref a), l1, l2] (r) g = den sc d MX8_readPerson 69 [some (.ref a), l1, l2] (.ref a :: r) g := eb_aload_n hM_X8_readPerson rfl dX8_readPerson_68
theorem s_X8_readPerson_69 : den sc d MX8_readPerson 69 [l0, l1, l2] (r) g = den sc d MX8_readPerson 71 [l0, l1, l2] (.ref 1007 :: r) g := eb_ldca hM_X8_readPerson hC_X8_readPerson rl_8_79 dX8_readPerson_69
theorem s_X8_readPerson_71 {a0 : Nat} (hrc : mx_rc g a = some 8) : den sc (d + 1) MX8_readPerson 71 [l0, l1, l2] (.ref a0 :: .ref a :: r) g = mx_ck r (call sc d MX8_isWord [.ref a, .ref a0] g) (fun v g' => den sc (d + 1) MX8_readPerson 74 [l0, l1, l2] (v.toList ++ r) g') := eb_virtual hM_X8_readPerson hC_X8_readPerson rc_8_46_8 (by decide) rfl dX8_readPerson_71 rfl rfl rfl rfl hrc
theorem s_X8_readPerson_74 : den sc d MX8_readPerson 74 [l0, l1, l2] (.int x :: r) g = if x = 0 then den sc d MX8_readPerson 91 [l0, l1, l2] (r) g else den sc d MX8_readPerson 77 [l0, l1, l2] (r) g := eb_if_eq hM_X8_readPerson rfl dX8_readPerson_74
theorem s_X8_readPerson_77 : den sc d MX8_readPerson 77 [some (.ref a), l1, l2] (r) g = den sc d MX8_readPerson 78 [some (.ref a), l1, l2] (.ref a :: r) g := eb_aload_n hM_X8_readPerson rfl dX8_readPerson_77
theorem s_X8_readPerson_78  (hrc : mx_rc g a = some 8) : den sc (d + 1) MX8_readPerson 78 [l0, l1, l2] (.ref a :: r) g = mx_ck r (call sc d MX8_next [.ref a] g) (fun v g' => den sc (d + 1) MX8_readPerson 81 [l0, l1, l2] (v.toList ++ r) g') := eb_virtual hM_X8_readPerson hC_X8_readPerson rc_8_23_8 (by decide) rfl dX8_readPerson_78 rfl rfl rfl rfl hrc
theorem s_X8_readPerson_81 : den sc d MX8_readPerson 81 [some (.ref a), l1, l2] (r) g = den sc d MX8_readPerson 82 [some (.ref a), l1, l2] (.ref a :: r) g := eb_aload_n hM_X8_readPerson rfl dX8_readPerson_81
theorem s_X8_readPerson_82 : den sc d MX8_readPerson 82 [l0, l1, some (.int x)] (r) g = den sc d MX8_readPerson 83 [l0, l1, some (.int x)] (.int x :: r) g := eb_iload_n hM_X8_readPerson rfl dX8_readPerson_82
theorem s_X8_readPerson_83 {a0 : Int32} (hrc : mx_rc g a = some 8) : den sc (d + 1) MX8_readPerson 83 [l0, l1, l2] (.int a0 :: .ref a :: r) g = mx_ck r (call sc d MX8_readThings [.ref a, .int a0] g) (fun v g' => den sc (d + 1) MX8_readPerson 86 [l0, l1, l2] (v.toList ++ r) g') := eb_virtual hM_X8_readPerson hC_X8_readPerson rc_8_81_8 (by decide) rfl dX8_readPerson_83 rfl rfl rfl rfl hrc
theorem s_X8_readPerson_86 : den sc d MX8_readPerson 86 [l0, l1, l2] (.int x :: r) g = if x = 0 then den sc d MX8_readPerson 89 [l0, l1, l2] (r) g else den sc d MX8_readPerson 91 [l0, l1, l2] (r) g := eb_if_ne hM_X8_readPerson rfl dX8_readPerson_86
theorem s_X8_readPerson_89 : den sc d MX8_readPerson 89 [l0, l1, l2] (r) g = den sc d MX8_readPerson 90 [l0, l1, l2] (.int (0) :: r) g := eb_iconst hM_X8_readPerson rfl dX8_readPerson_89
theorem s_X8_readPerson_90 (hn : narrow .boolean (.int x) = .int x) : den sc d MX8_readPerson 90 [l0, l1, l2] ([.int x]) g = some (some (.int x), g) := eb_reti hM_X8_readPerson hT_X8_readPerson hn dX8_readPerson_90
theorem s_X8_readPerson_90_0 : den sc d MX8_readPerson 90 [l0, l1, l2] ([.int 0]) g = some (some (.int 0), g) := eb_reti hM_X8_readPerson hT_X8_readPerson rfl dX8_readPerson_90
theorem s_X8_readPerson_90_1 : den sc d MX8_readPerson 90 [l0, l1, l2] ([.int 1]) g = some (some (.int 1), g) := eb_reti hM_X8_readPerson hT_X8_readPerson rfl dX8_readPerson_90
theorem s_X8_readPerson_91 : den sc d MX8_readPerson 91 [some (.ref a), l1, l2] (r) g = den sc d MX8_readPerson 92 [some (.ref a), l1, l2] (.ref a :: r) g := eb_aload_n hM_X8_readPerson rfl dX8_readPerson_91
theorem s_X8_readPerson_92 : den sc d MX8_readPerson 92 [l0, l1, l2] (r) g = den sc d MX8_readPerson 94 [l0, l1, l2] (.ref 1008 :: r) g := eb_ldca hM_X8_readPerson hC_X8_readPerson rl_8_84 dX8_readPerson_92
theorem s_X8_readPerson_94 {a0 : Nat} (hrc : mx_rc g a = some 8) : den sc (d + 1) MX8_readPerson 94 [l0, l1, l2] (.ref a0 :: .ref a :: r) g = mx_ck r (call sc d MX8_isWord [.ref a, .ref a0] g) (fun v g' => den sc (d + 1) MX8_readPerson 97 [l0, l1, l2] (v.toList ++ r) g') := eb_virtual hM_X8_readPerson hC_X8_readPerson rc_8_46_8 (by decide) rfl dX8_readPerson_94 rfl rfl rfl rfl hrc
theorem s_X8_readPerson_97 : den sc d MX8_readPerson 97 [l0, l1, l2] (.int x :: r) g = if x = 0 then den sc d MX8_readPerson 131 [l0, l1, l2] (r) g else den sc d MX8_readPerson 100 [l0, l1, l2] (r) g := eb_if_eq hM_X8_readPerson rfl dX8_readPerson_97
theorem s_X8_readPerson_100 : den sc d MX8_readPerson 100 [some (.ref a), l1, l2] (r) g = den sc d MX8_readPerson 101 [some (.ref a), l1, l2] (.ref a :: r) g := eb_aload_n hM_X8_readPerson rfl dX8_readPerson_100
theorem s_X8_readPerson_101  (hrc : mx_rc g a = some 8) : den sc (d + 1) MX8_readPerson 101 [l0, l1, l2] (.ref a :: r) g = mx_ck r (call sc d MX8_next [.ref a] g) (fun v g' => den sc (d + 1) MX8_readPerson 104 [l0, l1, l2] (v.toList ++ r) g') := eb_virtual hM_X8_readPerson hC_X8_readPerson rc_8_23_8 (by decide) rfl dX8_readPerson_101 rfl rfl rfl rfl hrc
theorem s_X8_readPerson_104 : den sc d MX8_readPerson 104 [some (.ref a), l1, l2] (r) g = den sc d MX8_readPerson 105 [some (.ref a), l1, l2] (.ref a :: r) g := eb_aload_n hM_X8_readPerson rfl dX8_readPerson_104
theorem s_X8_readPerson_105 : den sc d MX8_readPerson 105 [l0, l1, some (.int x)] (r) g = den sc d MX8_readPerson 106 [l0, l1, some (.int x)] (.int x :: r) g := eb_iload_n hM_X8_readPerson rfl dX8_readPerson_105
theorem s_X8_readPerson_106 {a0 : Int32} (hrc : mx_rc g a = some 8) : den sc (d + 1) MX8_readPerson 106 [l0, l1, l2] (.int a0 :: .ref a :: r) g = mx_ck r (call sc d MX8_isNumber [.ref a, .int a0] g) (fun v g' => den sc (d + 1) MX8_readPerson 109 [l0, l1, l2] (v.toList ++ r) g') := eb_virtual hM_X8_readPerson hC_X8_readPerson rc_8_69_8 (by decide) rfl dX8_readPerson_106 rfl rfl rfl rfl hrc
theorem s_X8_readPerson_109 : den sc d MX8_readPerson 109 [l0, l1, l2] (.int x :: r) g = if x = 0 then den sc d MX8_readPerson 112 [l0, l1, l2] (r) g else den sc d MX8_readPerson 114 [l0, l1, l2] (r) g := eb_if_ne hM_X8_readPerson rfl dX8_readPerson_109
theorem s_X8_readPerson_112 : den sc d MX8_readPerson 112 [l0, l1, l2] (r) g = den sc d MX8_readPerson 113 [l0, l1, l2] (.int (0) :: r) g := eb_iconst hM_X8_readPerson rfl dX8_readPerson_112
theorem s_X8_readPerson_113 (hn : narrow .boolean (.int x) = .int x) : den sc d MX8_readPerson 113 [l0, l1, l2] ([.int x]) g = some (some (.int x), g) := eb_reti hM_X8_readPerson hT_X8_readPerson hn dX8_readPerson_113
theorem s_X8_readPerson_113_0 : den sc d MX8_readPerson 113 [l0, l1, l2] ([.int 0]) g = some (some (.int 0), g) := eb_reti hM_X8_readPerson hT_X8_readPerson rfl dX8_readPerson_113
theorem s_X8_readPerson_113_1 : den sc d MX8_readPerson 113 [l0, l1, l2] ([.int 1]) g = some (some (.int 1), g) := eb_reti hM_X8_readPerson hT_X8_readPerson rfl dX8_readPerson_113
theorem s_X8_readPerson_114 : den sc d MX8_readPerson 114 [some (.ref a), l1, l2] (r) g = den sc d MX8_readPerson 115 [some (.ref a), l1, l2] (.ref a :: r) g := eb_aload_n hM_X8_readPerson rfl dX8_readPerson_114
theorem s_X8_readPerson_115 : den sc d MX8_readPerson 115 [l0, l1, l2] (.ref a :: r) g = mx_gf (g.1 a) 8 1 (fun v => den sc d MX8_readPerson 118 [l0, l1, l2] (v :: r) g) := eb_gf hM_X8_readPerson hC_X8_readPerson rf_8_15 dX8_readPerson_115
theorem s_X8_readPerson_118 : den sc d MX8_readPerson 118 [l0, l1, l2] (.ref a :: r) g = mx_gf (g.1 a) 1 5 (fun v => den sc d MX8_readPerson 121 [l0, l1, l2] (v :: r) g) := eb_gf hM_X8_readPerson hC_X8_readPerson rf_8_86 dX8_readPerson_118
theorem s_X8_readPerson_121 : den sc d MX8_readPerson 121 [l0, l1, some (.int x)] (r) g = den sc d MX8_readPerson 122 [l0, l1, some (.int x)] (.int x :: r) g := eb_iload_n hM_X8_readPerson rfl dX8_readPerson_121
theorem s_X8_readPerson_122 : den sc d MX8_readPerson 122 [some (.ref a), l1, l2] (r) g = den sc d MX8_readPerson 123 [some (.ref a), l1, l2] (.ref a :: r) g := eb_aload_n hM_X8_readPerson rfl dX8_readPerson_122
theorem s_X8_readPerson_123 : den sc d MX8_readPerson 123 [l0, l1, l2] (.ref a :: r) g = mx_gf (g.1 a) 8 5 (fun v => den sc d MX8_readPerson 126 [l0, l1, l2] (v :: r) g) := eb_gf hM_X8_readPerson hC_X8_readPerson rf_8_76 dX8_readPerson_123
theorem s_X8_readPerson_126 : den sc d MX8_readPerson 126 [l0, l1, l2] (.int x :: .int i :: .ref a :: r) g = mx_ai (g.1 a) i (fun n f => den sc d MX8_readPerson 127 [l0, l1, l2] (r) (mx_up g a (.inl (.int, n, .inl (upd f i.toNatClampNeg x))))) := eb_iast hM_X8_readPerson dX8_readPerson_126
theorem s_X8_readPerson_127 : den sc d MX8_readPerson 127 [some (.ref a), l1, l2] (r) g = den sc d MX8_readPerson 128 [some (.ref a), l1, l2] (.ref a :: r) g := eb_aload_n hM_X8_readPerson rfl dX8_readPerson_127
theorem s_X8_readPerson_128  (hrc : mx_rc g a = some 8) : den sc (d + 1) MX8_readPerson 128 [l0, l1, l2] (.ref a :: r) g = mx_ck r (call sc d MX8_next [.ref a] g) (fun v g' => den sc (d + 1) MX8_readPerson 131 [l0, l1, l2] (v.toList ++ r) g') := eb_virtual hM_X8_readPerson hC_X8_readPerson rc_8_23_8 (by decide) rfl dX8_readPerson_128 rfl rfl rfl rfl hrc
theorem s_X8_readPerson_131 : den sc d MX8_readPerson 131 [l0, l1, l2] (r) g = den sc d MX8_readPerson 132 [l0, l1, l2] (.int (1) :: r) g := eb_iconst hM_X8_readPerson rfl dX8_readPerson_131
theorem s_X8_readPerson_132 (hn : narrow .boolean (.int x) = .int x) : den sc d MX8_readPerson 132 [l0, l1, l2] ([.int x]) g = some (some (.int x), g) := eb_reti hM_X8_readPerson hT_X8_readPerson hn dX8_readPerson_132
theorem s_X8_readPerson_132_0 : den sc d MX8_readPerson 132 [l0, l1, l2] ([.int 0]) g = some (some (.int 0), g) := eb_reti hM_X8_readPerson hT_X8_readPerson rfl dX8_readPerson_132
theorem s_X8_readPerson_132_1 : den sc d MX8_readPerson 132 [l0, l1, l2] ([.int 1]) g = some (some (.int 1), g) := eb_reti hM_X8_readPerson hT_X8_readPerson rfl dX8_readPerson_132
end
section
variable {sc : mx_X} {d : Nat} {g : mx_G} {r : List Value} {x y i : Int32} {z x2 y2 : Int64} {a b : Nat} {l0 l1 l2 l3 l4 l5 l6 l7 l8 l9 l10 : Option Value}
theorem s_X8_readThings_0 : den sc d MX8_readThings 0 [l0, l1, l2] (r) g = den sc d MX8_readThings 1 [l0, l1, l2] (.int (0) :: r) g := eb_iconst hM_X8_readThings rfl dX8_readThings_0
theorem s_X8_readThings_1 {n1 : Int32} : den sc d MX8_readThings 1 [l0, some (.int n1), l2] (.int x :: r) g = den sc d MX8_readThings 2 [l0, some (.int n1), some (.int x)] (r) g := eb_istore_n hM_X8_readThings (Nat.le_of_ble_eq_true rfl) rfl dX8_readThings_1
theorem s_X8_readThings_2 : den sc d MX8_readThings 2 [l0, l1, some (.int x)] (r) g = den sc d MX8_readThings 3 [l0, l1, some (.int x)] (.int x :: r) g := eb_iload_n hM_X8_readThings rfl dX8_readThings_2
theorem s_X8_readThings_3 : den sc d MX8_readThings 3 [l0, l1, l2] (r) g = den sc d MX8_readThings 4 [l0, l1, l2] (.int (4) :: r) g := eb_iconst hM_X8_readThings rfl dX8_readThings_3
theorem s_X8_readThings_4 : den sc d MX8_readThings 4 [l0, l1, l2] (.int y :: .int x :: r) g = if y ≤ x then den sc d MX8_readThings 65 [l0, l1, l2] (r) g else den sc d MX8_readThings 7 [l0, l1, l2] (r) g := eb_icmp_ge hM_X8_readThings rfl dX8_readThings_4
theorem s_X8_readThings_7 : den sc d MX8_readThings 7 [some (.ref a), l1, l2] (r) g = den sc d MX8_readThings 8 [some (.ref a), l1, l2] (.ref a :: r) g := eb_aload_n hM_X8_readThings rfl dX8_readThings_7
theorem s_X8_readThings_8 : den sc d MX8_readThings 8 [l0, l1, l2] (.ref a :: r) g = mx_gf (g.1 a) 8 2 (fun v => den sc d MX8_readThings 11 [l0, l1, l2] (v :: r) g) := eb_gf hM_X8_readThings hC_X8_readThings rf_8_33 dX8_readThings_8
theorem s_X8_readThings_11 : den sc d MX8_readThings 11 [l0, l1, l2] (r) g = den sc d MX8_readThings 12 [l0, l1, l2] (.int (2) :: r) g := eb_iconst hM_X8_readThings rfl dX8_readThings_11
theorem s_X8_readThings_12 : den sc d MX8_readThings 12 [l0, l1, l2] (.int y :: .int x :: r) g = if x = y then den sc d MX8_readThings 25 [l0, l1, l2] (r) g else den sc d MX8_readThings 15 [l0, l1, l2] (r) g := eb_icmp_eq hM_X8_readThings rfl dX8_readThings_12
theorem s_X8_readThings_15 : den sc d MX8_readThings 15 [l0, l1, some (.int x)] (r) g = den sc d MX8_readThings 16 [l0, l1, some (.int x)] (.int x :: r) g := eb_iload_n hM_X8_readThings rfl dX8_readThings_15
theorem s_X8_readThings_16 : den sc d MX8_readThings 16 [l0, l1, l2] (.int x :: r) g = if x ≤ 0 then den sc d MX8_readThings 23 [l0, l1, l2] (r) g else den sc d MX8_readThings 19 [l0, l1, l2] (r) g := eb_if_le hM_X8_readThings rfl dX8_readThings_16
theorem s_X8_readThings_19 : den sc d MX8_readThings 19 [l0, l1, l2] (r) g = den sc d MX8_readThings 20 [l0, l1, l2] (.int (1) :: r) g := eb_iconst hM_X8_readThings rfl dX8_readThings_19
theorem s_X8_readThings_20 : den sc d MX8_readThings 20 [l0, l1, l2] (r) g = den sc d MX8_readThings 24 [l0, l1, l2] (r) g := eb_goto hM_X8_readThings rfl dX8_readThings_20
theorem s_X8_readThings_23 : den sc d MX8_readThings 23 [l0, l1, l2] (r) g = den sc d MX8_readThings 24 [l0, l1, l2] (.int (0) :: r) g := eb_iconst hM_X8_readThings rfl dX8_readThings_23
theorem s_X8_readThings_24 (hn : narrow .boolean (.int x) = .int x) : den sc d MX8_readThings 24 [l0, l1, l2] ([.int x]) g = some (some (.int x), g) := eb_reti hM_X8_readThings hT_X8_readThings hn dX8_readThings_24
theorem s_X8_readThings_24_0 : den sc d MX8_readThings 24 [l0, l1, l2] ([.int 0]) g = some (some (.int 0), g) := eb_reti hM_X8_readThings hT_X8_readThings rfl dX8_readThings_24
theorem s_X8_readThings_24_1 : den sc d MX8_readThings 24 [l0, l1, l2] ([.int 1]) g = some (some (.int 1), g) := eb_reti hM_X8_readThings hT_X8_readThings rfl dX8_readThings_24
theorem s_X8_readThings_25 : den sc d MX8_readThings 25 [some (.ref a), l1, l2] (r) g = den sc d MX8_readThings 26 [some (.ref a), l1, l2] (.ref a :: r) g := eb_aload_n hM_X8_readThings rfl dX8_readThings_25
theorem s_X8_readThings_26 : den sc d MX8_readThings 26 [l0, l1, l2] (r) g = den sc d MX8_readThings 28 [l0, l1, l2] (.int (15) :: r) g := eb_bipush hM_X8_readThings rfl dX8_readThings_26
theorem s_X8_readThings_28 {a0 : Int32} (hrc : mx_rc g a = some 8) : den sc (d + 1) MX8_readThings 28 [l0, l1, l2] (.int a0 :: .ref a :: r) g = mx_ck r (call sc d MX8_isNumber [.ref a, .int a0] g) (fun v g' => den sc (d + 1) MX8_readThings 31 [l0, l1, l2] (v.toList ++ r) g') := eb_virtual hM_X8_readThings hC_X8_readThings rc_8_69_8 (by decide) rfl dX8_readThings_28 rfl rfl rfl rfl hrc
theorem s_X8_readThings_31 : den sc d MX8_readThings 31 [l0, l1, l2] (.int x :: r) g = if x = 0 then den sc d MX8_readThings 34 [l0, l1, l2] (r) g else den sc d MX8_readThings 36 [l0, l1, l2] (r) g := eb_if_ne hM_X8_readThings rfl dX8_readThings_31
theorem s_X8_readThings_34 : den sc d MX8_readThings 34 [l0, l1, l2] (r) g = den sc d MX8_readThings 35 [l0, l1, l2] (.int (0) :: r) g := eb_iconst hM_X8_readThings rfl dX8_readThings_34
theorem s_X8_readThings_35 (hn : narrow .boolean (.int x) = .int x) : den sc d MX8_readThings 35 [l0, l1, l2] ([.int x]) g = some (some (.int x), g) := eb_reti hM_X8_readThings hT_X8_readThings hn dX8_readThings_35
theorem s_X8_readThings_35_0 : den sc d MX8_readThings 35 [l0, l1, l2] ([.int 0]) g = some (some (.int 0), g) := eb_reti hM_X8_readThings hT_X8_readThings rfl dX8_readThings_35
theorem s_X8_readThings_35_1 : den sc d MX8_readThings 35 [l0, l1, l2] ([.int 1]) g = some (some (.int 1), g) := eb_reti hM_X8_readThings hT_X8_readThings rfl dX8_readThings_35
theorem s_X8_readThings_36 : den sc d MX8_readThings 36 [some (.ref a), l1, l2] (r) g = den sc d MX8_readThings 37 [some (.ref a), l1, l2] (.ref a :: r) g := eb_aload_n hM_X8_readThings rfl dX8_readThings_36
theorem s_X8_readThings_37 : den sc d MX8_readThings 37 [l0, l1, l2] (.ref a :: r) g = mx_gf (g.1 a) 8 1 (fun v => den sc d MX8_readThings 40 [l0, l1, l2] (v :: r) g) := eb_gf hM_X8_readThings hC_X8_readThings rf_8_15 dX8_readThings_37
theorem s_X8_readThings_40 : den sc d MX8_readThings 40 [l0, l1, l2] (.ref a :: r) g = mx_gf (g.1 a) 1 4 (fun v => den sc d MX8_readThings 43 [l0, l1, l2] (v :: r) g) := eb_gf hM_X8_readThings hC_X8_readThings rf_8_89 dX8_readThings_40
theorem s_X8_readThings_43 : den sc d MX8_readThings 43 [l0, some (.int x), l2] (r) g = den sc d MX8_readThings 44 [l0, some (.int x), l2] (.int x :: r) g := eb_iload_n hM_X8_readThings rfl dX8_readThings_43
theorem s_X8_readThings_44 : den sc d MX8_readThings 44 [l0, l1, l2] (.int x :: .ref a :: r) g = den sc d MX8_readThings 45 [l0, l1, l2] (.int x :: .ref a :: .int x :: .ref a :: r) g := eb_dup2 hM_X8_readThings dX8_readThings_44
theorem s_X8_readThings_45 : den sc d MX8_readThings 45 [l0, l1, l2] (.int i :: .ref a :: r) g = mx_ai (mx_av sc g a) i (fun _ f => den sc d MX8_readThings 46 [l0, l1, l2] (.int (f i.toNatClampNeg) :: r) g) := eb_iald hM_X8_readThings dX8_readThings_45
theorem s_X8_readThings_46 : den sc d MX8_readThings 46 [some (.ref a), l1, l2] (r) g = den sc d MX8_readThings 47 [some (.ref a), l1, l2] (.ref a :: r) g := eb_aload_n hM_X8_readThings rfl dX8_readThings_46
theorem s_X8_readThings_47 : den sc d MX8_readThings 47 [l0, l1, l2] (.ref a :: r) g = mx_gf (g.1 a) 8 5 (fun v => den sc d MX8_readThings 50 [l0, l1, l2] (v :: r) g) := eb_gf hM_X8_readThings hC_X8_readThings rf_8_76 dX8_readThings_47
theorem s_X8_readThings_50 {a0 : Int32} : den sc (d + 1) MX8_readThings 50 [l0, l1, l2] (.int a0 :: r) g = mx_ck r (call sc d MX10_setOf [.int a0] g) (fun v g' => den sc (d + 1) MX8_readThings 53 [l0, l1, l2] (v.toList ++ r) g') := eb_static hM_X8_readThings hC_X8_readThings rc_8_92_100 rfl rfl rfl dX8_readThings_50 rfl rfl rfl rfl
theorem s_X8_readThings_53 : den sc d MX8_readThings 53 [l0, l1, l2] (.int y :: .int x :: r) g = den sc d MX8_readThings 54 [l0, l1, l2] (.int (x ||| y) :: r) g := eb_ior hM_X8_readThings dX8_readThings_53
theorem s_X8_readThings_54 : den sc d MX8_readThings 54 [l0, l1, l2] (.int x :: .int i :: .ref a :: r) g = mx_ai (g.1 a) i (fun n f => den sc d MX8_readThings 55 [l0, l1, l2] (r) (mx_up g a (.inl (.int, n, .inl (upd f i.toNatClampNeg x))))) := eb_iast hM_X8_readThings dX8_readThings_54
theorem s_X8_readThings_55 : den sc d MX8_readThings 55 [some (.ref a), l1, l2] (r) g = den sc d MX8_readThings 56 [some (.ref a), l1, l2] (.ref a :: r) g := eb_aload_n hM_X8_readThings rfl dX8_readThings_55
theorem s_X8_readThings_56  (hrc : mx_rc g a = some 8) : den sc (d + 1) MX8_readThings 56 [l0, l1, l2] (.ref a :: r) g = mx_ck r (call sc d MX8_next [.ref a] g) (fun v g' => den sc (d + 1) MX8_readThings 59 [l0, l1, l2] (v.toList ++ r) g') := eb_virtual hM_X8_readThings hC_X8_readThings rc_8_23_8 (by decide) rfl dX8_readThings_56 rfl rfl rfl rfl hrc
theorem s_X8_readThings_59 {n1 : Int32} : den sc d MX8_readThings 59 [l0, some (.int n1), some (.int x)] (r) g = den sc d MX8_readThings 62 [l0, some (.int n1), some (.int (x + (1)))] (r) g := eb_iinc hM_X8_readThings rfl rfl rfl dX8_readThings_59
theorem s_X8_readThings_62 : den sc d MX8_readThings 62 [l0, l1, l2] (r) g = den sc d MX8_readThings 2 [l0, l1, l2] (r) g := eb_goto hM_X8_readThings rfl dX8_readThings_62
theorem s_X8_readThings_65 : den sc d MX8_readThings 65 [l0, l1, l2] (r) g = den sc d MX8_readThings 66 [l0, l1, l2] (.int (1) :: r) g := eb_iconst hM_X8_readThings rfl dX8_readThings_65
theorem s_X8_readThings_66 (hn : narrow .boolean (.int x) = .int x) : den sc d MX8_readThings 66 [l0, l1, l2] ([.int x]) g = some (some (.int x), g) := eb_reti hM_X8_readThings hT_X8_readThings hn dX8_readThings_66
theorem s_X8_readThings_66_0 : den sc d MX8_readThings 66 [l0, l1, l2] ([.int 0]) g = some (some (.int 0), g) := eb_reti hM_X8_readThings hT_X8_readThings rfl dX8_readThings_66
theorem s_X8_readThings_66_1 : den sc d MX8_readThings 66 [l0, l1, l2] ([.int 1]) g = some (some (.int 1), g) := eb_reti hM_X8_readThings hT_X8_readThings rfl dX8_readThings_66
end
section
variable {sc : mx_X} {d : Nat} {g : mx_G} {r : List Value} {x y i : Int32} {z x2 y2 : Int64} {a b : Nat} {l0 l1 l2 l3 l4 l5 l6 l7 l8 l9 l10 : Option Value}
theorem s_X8_readWorth_0 : den sc d MX8_readWorth 0 [some (.ref a), l1] (r) g = den sc d MX8_readWorth 1 [some (.ref a), l1] (.ref a :: r) g := eb_aload_n hM_X8_readWorth rfl dX8_readWorth_0
theorem s_X8_readWorth_1  (hrc : mx_rc g a = some 8) : den sc (d + 1) MX8_readWorth 1 [l0, l1] (.ref a :: r) g = mx_ck r (call sc d MX8_next [.ref a] g) (fun v g' => den sc (d + 1) MX8_readWorth 4 [l0, l1] (v.toList ++ r) g') := eb_virtual hM_X8_readWorth hC_X8_readWorth rc_8_23_8 (by decide) rfl dX8_readWorth_1 rfl rfl rfl rfl hrc
theorem s_X8_readWorth_4 : den sc d MX8_readWorth 4 [some (.ref a), l1] (r) g = den sc d MX8_readWorth 5 [some (.ref a), l1] (.ref a :: r) g := eb_aload_n hM_X8_readWorth rfl dX8_readWorth_4
theorem s_X8_readWorth_5 : den sc d MX8_readWorth 5 [l0, l1] (r) g = den sc d MX8_readWorth 7 [l0, l1] (.int (15) :: r) g := eb_bipush hM_X8_readWorth rfl dX8_readWorth_5
theorem s_X8_readWorth_7 {a0 : Int32} (hrc : mx_rc g a = some 8) : den sc (d + 1) MX8_readWorth 7 [l0, l1] (.int a0 :: .ref a :: r) g = mx_ck r (call sc d MX8_isNumber [.ref a, .int a0] g) (fun v g' => den sc (d + 1) MX8_readWorth 10 [l0, l1] (v.toList ++ r) g') := eb_virtual hM_X8_readWorth hC_X8_readWorth rc_8_69_8 (by decide) rfl dX8_readWorth_7 rfl rfl rfl rfl hrc
theorem s_X8_readWorth_10 : den sc d MX8_readWorth 10 [l0, l1] (.int x :: r) g = if x = 0 then den sc d MX8_readWorth 13 [l0, l1] (r) g else den sc d MX8_readWorth 15 [l0, l1] (r) g := eb_if_ne hM_X8_readWorth rfl dX8_readWorth_10
theorem s_X8_readWorth_13 : den sc d MX8_readWorth 13 [l0, l1] (r) g = den sc d MX8_readWorth 14 [l0, l1] (.int (0) :: r) g := eb_iconst hM_X8_readWorth rfl dX8_readWorth_13
theorem s_X8_readWorth_14 (hn : narrow .boolean (.int x) = .int x) : den sc d MX8_readWorth 14 [l0, l1] ([.int x]) g = some (some (.int x), g) := eb_reti hM_X8_readWorth hT_X8_readWorth hn dX8_readWorth_14
theorem s_X8_readWorth_14_0 : den sc d MX8_readWorth 14 [l0, l1] ([.int 0]) g = some (some (.int 0), g) := eb_reti hM_X8_readWorth hT_X8_readWorth rfl dX8_readWorth_14
theorem s_X8_readWorth_14_1 : den sc d MX8_readWorth 14 [l0, l1] ([.int 1]) g = some (some (.int 1), g) := eb_reti hM_X8_readWorth hT_X8_readWorth rfl dX8_readWorth_14
theorem s_X8_readWorth_15 : den sc d MX8_readWorth 15 [some (.ref a), l1] (r) g = den sc d MX8_readWorth 16 [some (.ref a), l1] (.ref a :: r) g := eb_aload_n hM_X8_readWorth rfl dX8_readWorth_15
theorem s_X8_readWorth_16 : den sc d MX8_readWorth 16 [l0, l1] (.ref a :: r) g = mx_gf (g.1 a) 8 5 (fun v => den sc d MX8_readWorth 19 [l0, l1] (v :: r) g) := eb_gf hM_X8_readWorth hC_X8_readWorth rf_8_76 dX8_readWorth_16
theorem s_X8_readWorth_19 {n0 : Nat} : den sc d MX8_readWorth 19 [some (.ref n0), l1] (.int x :: r) g = den sc d MX8_readWorth 20 [some (.ref n0), some (.int x)] (r) g := eb_istore_n hM_X8_readWorth (Nat.le_of_ble_eq_true rfl) rfl dX8_readWorth_19
theorem s_X8_readWorth_20 : den sc d MX8_readWorth 20 [some (.ref a), l1] (r) g = den sc d MX8_readWorth 21 [some (.ref a), l1] (.ref a :: r) g := eb_aload_n hM_X8_readWorth rfl dX8_readWorth_20
theorem s_X8_readWorth_21  (hrc : mx_rc g a = some 8) : den sc (d + 1) MX8_readWorth 21 [l0, l1] (.ref a :: r) g = mx_ck r (call sc d MX8_next [.ref a] g) (fun v g' => den sc (d + 1) MX8_readWorth 24 [l0, l1] (v.toList ++ r) g') := eb_virtual hM_X8_readWorth hC_X8_readWorth rc_8_23_8 (by decide) rfl dX8_readWorth_21 rfl rfl rfl rfl hrc
theorem s_X8_readWorth_24 : den sc d MX8_readWorth 24 [some (.ref a), l1] (r) g = den sc d MX8_readWorth 25 [some (.ref a), l1] (.ref a :: r) g := eb_aload_n hM_X8_readWorth rfl dX8_readWorth_24
theorem s_X8_readWorth_25 : den sc d MX8_readWorth 25 [l0, l1] (r) g = den sc d MX8_readWorth 27 [l0, l1] (.int (99) :: r) g := eb_bipush hM_X8_readWorth rfl dX8_readWorth_25
theorem s_X8_readWorth_27 {a0 : Int32} (hrc : mx_rc g a = some 8) : den sc (d + 1) MX8_readWorth 27 [l0, l1] (.int a0 :: .ref a :: r) g = mx_ck r (call sc d MX8_isNumber [.ref a, .int a0] g) (fun v g' => den sc (d + 1) MX8_readWorth 30 [l0, l1] (v.toList ++ r) g') := eb_virtual hM_X8_readWorth hC_X8_readWorth rc_8_69_8 (by decide) rfl dX8_readWorth_27 rfl rfl rfl rfl hrc
theorem s_X8_readWorth_30 : den sc d MX8_readWorth 30 [l0, l1] (.int x :: r) g = if x = 0 then den sc d MX8_readWorth 33 [l0, l1] (r) g else den sc d MX8_readWorth 35 [l0, l1] (r) g := eb_if_ne hM_X8_readWorth rfl dX8_readWorth_30
theorem s_X8_readWorth_33 : den sc d MX8_readWorth 33 [l0, l1] (r) g = den sc d MX8_readWorth 34 [l0, l1] (.int (0) :: r) g := eb_iconst hM_X8_readWorth rfl dX8_readWorth_33
theorem s_X8_readWorth_34 (hn : narrow .boolean (.int x) = .int x) : den sc d MX8_readWorth 34 [l0, l1] ([.int x]) g = some (some (.int x), g) := eb_reti hM_X8_readWorth hT_X8_readWorth hn dX8_readWorth_34
theorem s_X8_readWorth_34_0 : den sc d MX8_readWorth 34 [l0, l1] ([.int 0]) g = some (some (.int 0), g) := eb_reti hM_X8_readWorth hT_X8_readWorth rfl dX8_readWorth_34
theorem s_X8_readWorth_34_1 : den sc d MX8_readWorth 34 [l0, l1] ([.int 1]) g = some (some (.int 1), g) := eb_reti hM_X8_readWorth hT_X8_readWorth rfl dX8_readWorth_34
theorem s_X8_readWorth_35 : den sc d MX8_readWorth 35 [some (.ref a), l1] (r) g = den sc d MX8_readWorth 36 [some (.ref a), l1] (.ref a :: r) g := eb_aload_n hM_X8_readWorth rfl dX8_readWorth_35
theorem s_X8_readWorth_36 : den sc d MX8_readWorth 36 [l0, l1] (.ref a :: r) g = mx_gf (g.1 a) 8 1 (fun v => den sc d MX8_readWorth 39 [l0, l1] (v :: r) g) := eb_gf hM_X8_readWorth hC_X8_readWorth rf_8_15 dX8_readWorth_36
theorem s_X8_readWorth_39 : den sc d MX8_readWorth 39 [l0, l1] (.ref a :: r) g = mx_gf (g.1 a) 1 1 (fun v => den sc d MX8_readWorth 42 [l0, l1] (v :: r) g) := eb_gf hM_X8_readWorth hC_X8_readWorth rf_8_95 dX8_readWorth_39
theorem s_X8_readWorth_42 : den sc d MX8_readWorth 42 [l0, some (.int x)] (r) g = den sc d MX8_readWorth 43 [l0, some (.int x)] (.int x :: r) g := eb_iload_n hM_X8_readWorth rfl dX8_readWorth_42
theorem s_X8_readWorth_43 : den sc d MX8_readWorth 43 [some (.ref a), l1] (r) g = den sc d MX8_readWorth 44 [some (.ref a), l1] (.ref a :: r) g := eb_aload_n hM_X8_readWorth rfl dX8_readWorth_43
theorem s_X8_readWorth_44 : den sc d MX8_readWorth 44 [l0, l1] (.ref a :: r) g = mx_gf (g.1 a) 8 5 (fun v => den sc d MX8_readWorth 47 [l0, l1] (v :: r) g) := eb_gf hM_X8_readWorth hC_X8_readWorth rf_8_76 dX8_readWorth_44
theorem s_X8_readWorth_47 : den sc d MX8_readWorth 47 [l0, l1] (.int x :: .int i :: .ref a :: r) g = mx_ai (g.1 a) i (fun n f => den sc d MX8_readWorth 48 [l0, l1] (r) (mx_up g a (.inl (.int, n, .inl (upd f i.toNatClampNeg x))))) := eb_iast hM_X8_readWorth dX8_readWorth_47
theorem s_X8_readWorth_48 : den sc d MX8_readWorth 48 [some (.ref a), l1] (r) g = den sc d MX8_readWorth 49 [some (.ref a), l1] (.ref a :: r) g := eb_aload_n hM_X8_readWorth rfl dX8_readWorth_48
theorem s_X8_readWorth_49  (hrc : mx_rc g a = some 8) : den sc (d + 1) MX8_readWorth 49 [l0, l1] (.ref a :: r) g = mx_ck r (call sc d MX8_next [.ref a] g) (fun v g' => den sc (d + 1) MX8_readWorth 52 [l0, l1] (v.toList ++ r) g') := eb_virtual hM_X8_readWorth hC_X8_readWorth rc_8_23_8 (by decide) rfl dX8_readWorth_49 rfl rfl rfl rfl hrc
theorem s_X8_readWorth_52 : den sc d MX8_readWorth 52 [l0, l1] (r) g = den sc d MX8_readWorth 53 [l0, l1] (.int (1) :: r) g := eb_iconst hM_X8_readWorth rfl dX8_readWorth_52
theorem s_X8_readWorth_53 (hn : narrow .boolean (.int x) = .int x) : den sc d MX8_readWorth 53 [l0, l1] ([.int x]) g = some (some (.int x), g) := eb_reti hM_X8_readWorth hT_X8_readWorth hn dX8_readWorth_53
theorem s_X8_readWorth_53_0 : den sc d MX8_readWorth 53 [l0, l1] ([.int 0]) g = some (some (.int 0), g) := eb_reti hM_X8_readWorth hT_X8_readWorth rfl dX8_readWorth_53
theorem s_X8_readWorth_53_1 : den sc d MX8_readWorth 53 [l0, l1] ([.int 1]) g = some (some (.int 1), g) := eb_reti hM_X8_readWorth hT_X8_readWorth rfl dX8_readWorth_53
end
section
variable {sc : mx_X} {d : Nat} {g : mx_G} {r : List Value} {x y i : Int32} {z x2 y2 : Int64} {a b : Nat} {l0 l1 l2 l3 l4 l5 l6 l7 l8 l9 l10 : Option Value}
theorem s_X8_readBurned_0 : den sc d MX8_readBurned 0 [some (.ref a)] (r) g = den sc d MX8_readBurned 1 [some (.ref a)] (.ref a :: r) g := eb_aload_n hM_X8_readBurned rfl dX8_readBurned_0
theorem s_X8_readBurned_1  (hrc : mx_rc g a = some 8) : den sc (d + 1) MX8_readBurned 1 [l0] (.ref a :: r) g = mx_ck r (call sc d MX8_next [.ref a] g) (fun v g' => den sc (d + 1) MX8_readBurned 4 [l0] (v.toList ++ r) g') := eb_virtual hM_X8_readBurned hC_X8_readBurned rc_8_23_8 (by decide) rfl dX8_readBurned_1 rfl rfl rfl rfl hrc
theorem s_X8_readBurned_4 : den sc d MX8_readBurned 4 [some (.ref a)] (r) g = den sc d MX8_readBurned 5 [some (.ref a)] (.ref a :: r) g := eb_aload_n hM_X8_readBurned rfl dX8_readBurned_4
theorem s_X8_readBurned_5 : den sc d MX8_readBurned 5 [l0] (r) g = den sc d MX8_readBurned 7 [l0] (.int (15) :: r) g := eb_bipush hM_X8_readBurned rfl dX8_readBurned_5
theorem s_X8_readBurned_7 {a0 : Int32} (hrc : mx_rc g a = some 8) : den sc (d + 1) MX8_readBurned 7 [l0] (.int a0 :: .ref a :: r) g = mx_ck r (call sc d MX8_isNumber [.ref a, .int a0] g) (fun v g' => den sc (d + 1) MX8_readBurned 10 [l0] (v.toList ++ r) g') := eb_virtual hM_X8_readBurned hC_X8_readBurned rc_8_69_8 (by decide) rfl dX8_readBurned_7 rfl rfl rfl rfl hrc
theorem s_X8_readBurned_10 : den sc d MX8_readBurned 10 [l0] (.int x :: r) g = if x = 0 then den sc d MX8_readBurned 13 [l0] (r) g else den sc d MX8_readBurned 15 [l0] (r) g := eb_if_ne hM_X8_readBurned rfl dX8_readBurned_10
theorem s_X8_readBurned_13 : den sc d MX8_readBurned 13 [l0] (r) g = den sc d MX8_readBurned 14 [l0] (.int (0) :: r) g := eb_iconst hM_X8_readBurned rfl dX8_readBurned_13
theorem s_X8_readBurned_14 (hn : narrow .boolean (.int x) = .int x) : den sc d MX8_readBurned 14 [l0] ([.int x]) g = some (some (.int x), g) := eb_reti hM_X8_readBurned hT_X8_readBurned hn dX8_readBurned_14
theorem s_X8_readBurned_14_0 : den sc d MX8_readBurned 14 [l0] ([.int 0]) g = some (some (.int 0), g) := eb_reti hM_X8_readBurned hT_X8_readBurned rfl dX8_readBurned_14
theorem s_X8_readBurned_14_1 : den sc d MX8_readBurned 14 [l0] ([.int 1]) g = some (some (.int 1), g) := eb_reti hM_X8_readBurned hT_X8_readBurned rfl dX8_readBurned_14
theorem s_X8_readBurned_15 : den sc d MX8_readBurned 15 [some (.ref a)] (r) g = den sc d MX8_readBurned 16 [some (.ref a)] (.ref a :: r) g := eb_aload_n hM_X8_readBurned rfl dX8_readBurned_15
theorem s_X8_readBurned_16 : den sc d MX8_readBurned 16 [l0] (.ref a :: r) g = mx_gf (g.1 a) 8 1 (fun v => den sc d MX8_readBurned 19 [l0] (v :: r) g) := eb_gf hM_X8_readBurned hC_X8_readBurned rf_8_15 dX8_readBurned_16
theorem s_X8_readBurned_19 : den sc d MX8_readBurned 19 [l0] (.ref a :: r) g = den sc d MX8_readBurned 20 [l0] (.ref a :: .ref a :: r) g := eb_dupa hM_X8_readBurned dX8_readBurned_19
theorem s_X8_readBurned_19i : den sc d MX8_readBurned 19 [l0] (.int x :: r) g = den sc d MX8_readBurned 20 [l0] (.int x :: .int x :: r) g := eb_dupi hM_X8_readBurned dX8_readBurned_19
theorem s_X8_readBurned_20 : den sc d MX8_readBurned 20 [l0] (.ref a :: r) g = mx_gf (g.1 a) 1 8 (fun v => den sc d MX8_readBurned 23 [l0] (v :: r) g) := eb_gf hM_X8_readBurned hC_X8_readBurned rf_8_98 dX8_readBurned_20
theorem s_X8_readBurned_23 : den sc d MX8_readBurned 23 [some (.ref a)] (r) g = den sc d MX8_readBurned 24 [some (.ref a)] (.ref a :: r) g := eb_aload_n hM_X8_readBurned rfl dX8_readBurned_23
theorem s_X8_readBurned_24 : den sc d MX8_readBurned 24 [l0] (.ref a :: r) g = mx_gf (g.1 a) 8 5 (fun v => den sc d MX8_readBurned 27 [l0] (v :: r) g) := eb_gf hM_X8_readBurned hC_X8_readBurned rf_8_76 dX8_readBurned_24
theorem s_X8_readBurned_27 {a0 : Int32} : den sc (d + 1) MX8_readBurned 27 [l0] (.int a0 :: r) g = mx_ck r (call sc d MX10_setOf [.int a0] g) (fun v g' => den sc (d + 1) MX8_readBurned 30 [l0] (v.toList ++ r) g') := eb_static hM_X8_readBurned hC_X8_readBurned rc_8_92_100 rfl rfl rfl dX8_readBurned_27 rfl rfl rfl rfl
theorem s_X8_readBurned_30 : den sc d MX8_readBurned 30 [l0] (.int y :: .int x :: r) g = den sc d MX8_readBurned 31 [l0] (.int (x ||| y) :: r) g := eb_ior hM_X8_readBurned dX8_readBurned_30
theorem s_X8_readBurned_31 : den sc d MX8_readBurned 31 [l0] (.int x :: .ref a :: r) g = mx_pf (g.1 a) 1 8 (fun fs => den sc d MX8_readBurned 34 [l0] (r) (mx_up g a (.inr (1, fs.set 8 (.int x))))) := eb_pf hM_X8_readBurned hC_X8_readBurned rf_8_98 rfl rfl dX8_readBurned_31
theorem s_X8_readBurned_34 : den sc d MX8_readBurned 34 [some (.ref a)] (r) g = den sc d MX8_readBurned 35 [some (.ref a)] (.ref a :: r) g := eb_aload_n hM_X8_readBurned rfl dX8_readBurned_34
theorem s_X8_readBurned_35  (hrc : mx_rc g a = some 8) : den sc (d + 1) MX8_readBurned 35 [l0] (.ref a :: r) g = mx_ck r (call sc d MX8_next [.ref a] g) (fun v g' => den sc (d + 1) MX8_readBurned 38 [l0] (v.toList ++ r) g') := eb_virtual hM_X8_readBurned hC_X8_readBurned rc_8_23_8 (by decide) rfl dX8_readBurned_35 rfl rfl rfl rfl hrc
theorem s_X8_readBurned_38 : den sc d MX8_readBurned 38 [l0] (r) g = den sc d MX8_readBurned 39 [l0] (.int (1) :: r) g := eb_iconst hM_X8_readBurned rfl dX8_readBurned_38
theorem s_X8_readBurned_39 (hn : narrow .boolean (.int x) = .int x) : den sc d MX8_readBurned 39 [l0] ([.int x]) g = some (some (.int x), g) := eb_reti hM_X8_readBurned hT_X8_readBurned hn dX8_readBurned_39
theorem s_X8_readBurned_39_0 : den sc d MX8_readBurned 39 [l0] ([.int 0]) g = some (some (.int 0), g) := eb_reti hM_X8_readBurned hT_X8_readBurned rfl dX8_readBurned_39
theorem s_X8_readBurned_39_1 : den sc d MX8_readBurned 39 [l0] ([.int 1]) g = some (some (.int 1), g) := eb_reti hM_X8_readBurned hT_X8_readBurned rfl dX8_readBurned_39
end
section
variable {sc : mx_X} {d : Nat} {g : mx_G} {r : List Value} {x y i : Int32} {z x2 y2 : Int64} {a b : Nat} {l0 l1 l2 l3 l4 l5 l6 l7 l8 l9 l10 : Option Value}
theorem s_X8_isNumber_0 : den sc d MX8_isNumber 0 [some (.ref a), l1] (r) g = den sc d MX8_isNumber 1 [some (.ref a), l1] (.ref a :: r) g := eb_aload_n hM_X8_isNumber rfl dX8_isNumber_0
theorem s_X8_isNumber_1 : den sc d MX8_isNumber 1 [l0, l1] (.ref a :: r) g = mx_gf (g.1 a) 8 2 (fun v => den sc d MX8_isNumber 4 [l0, l1] (v :: r) g) := eb_gf hM_X8_isNumber hC_X8_isNumber rf_8_33 dX8_isNumber_1
theorem s_X8_isNumber_4 : den sc d MX8_isNumber 4 [l0, l1] (r) g = den sc d MX8_isNumber 5 [l0, l1] (.int (2) :: r) g := eb_iconst hM_X8_isNumber rfl dX8_isNumber_4
theorem s_X8_isNumber_5 : den sc d MX8_isNumber 5 [l0, l1] (.int y :: .int x :: r) g = if x = y then den sc d MX8_isNumber 8 [l0, l1] (r) g else den sc d MX8_isNumber 20 [l0, l1] (r) g := eb_icmp_ne hM_X8_isNumber rfl dX8_isNumber_5
theorem s_X8_isNumber_8 : den sc d MX8_isNumber 8 [some (.ref a), l1] (r) g = den sc d MX8_isNumber 9 [some (.ref a), l1] (.ref a :: r) g := eb_aload_n hM_X8_isNumber rfl dX8_isNumber_8
theorem s_X8_isNumber_9 : den sc d MX8_isNumber 9 [l0, l1] (.ref a :: r) g = mx_gf (g.1 a) 8 5 (fun v => den sc d MX8_isNumber 12 [l0, l1] (v :: r) g) := eb_gf hM_X8_isNumber hC_X8_isNumber rf_8_76 dX8_isNumber_9
theorem s_X8_isNumber_12 : den sc d MX8_isNumber 12 [l0, some (.int x)] (r) g = den sc d MX8_isNumber 13 [l0, some (.int x)] (.int x :: r) g := eb_iload_n hM_X8_isNumber rfl dX8_isNumber_12
theorem s_X8_isNumber_13 : den sc d MX8_isNumber 13 [l0, l1] (.int y :: .int x :: r) g = if y < x then den sc d MX8_isNumber 20 [l0, l1] (r) g else den sc d MX8_isNumber 16 [l0, l1] (r) g := eb_icmp_gt hM_X8_isNumber rfl dX8_isNumber_13
theorem s_X8_isNumber_16 : den sc d MX8_isNumber 16 [l0, l1] (r) g = den sc d MX8_isNumber 17 [l0, l1] (.int (1) :: r) g := eb_iconst hM_X8_isNumber rfl dX8_isNumber_16
theorem s_X8_isNumber_17 : den sc d MX8_isNumber 17 [l0, l1] (r) g = den sc d MX8_isNumber 21 [l0, l1] (r) g := eb_goto hM_X8_isNumber rfl dX8_isNumber_17
theorem s_X8_isNumber_20 : den sc d MX8_isNumber 20 [l0, l1] (r) g = den sc d MX8_isNumber 21 [l0, l1] (.int (0) :: r) g := eb_iconst hM_X8_isNumber rfl dX8_isNumber_20
theorem s_X8_isNumber_21 (hn : narrow .boolean (.int x) = .int x) : den sc d MX8_isNumber 21 [l0, l1] ([.int x]) g = some (some (.int x), g) := eb_reti hM_X8_isNumber hT_X8_isNumber hn dX8_isNumber_21
theorem s_X8_isNumber_21_0 : den sc d MX8_isNumber 21 [l0, l1] ([.int 0]) g = some (some (.int 0), g) := eb_reti hM_X8_isNumber hT_X8_isNumber rfl dX8_isNumber_21
theorem s_X8_isNumber_21_1 : den sc d MX8_isNumber 21 [l0, l1] ([.int 1]) g = some (some (.int 1), g) := eb_reti hM_X8_isNumber hT_X8_isNumber rfl dX8_isNumber_21
end
section
variable {sc : mx_X} {d : Nat} {g : mx_G} {r : List Value} {x y i : Int32} {z x2 y2 : Int64} {a b : Nat} {l0 l1 l2 l3 l4 l5 l6 l7 l8 l9 l10 : Option Value}
theorem s_X8_isWord_0 : den sc d MX8_isWord 0 [some (.ref a), l1, l2] (r) g = den sc d MX8_isWord 1 [some (.ref a), l1, l2] (.ref a :: r) g := eb_aload_n hM_X8_isWord rfl dX8_isWord_0
theorem s_X8_isWord_1 : den sc d MX8_isWord 1 [l0, l1, l2] (.ref a :: r) g = mx_gf (g.1 a) 8 2 (fun v => den sc d MX8_isWord 4 [l0, l1, l2] (v :: r) g) := eb_gf hM_X8_isWord hC_X8_isWord rf_8_33 dX8_isWord_1
theorem s_X8_isWord_4 : den sc d MX8_isWord 4 [l0, l1, l2] (r) g = den sc d MX8_isWord 5 [l0, l1, l2] (.int (1) :: r) g := eb_iconst hM_X8_isWord rfl dX8_isWord_4
theorem s_X8_isWord_5 : den sc d MX8_isWord 5 [l0, l1, l2] (.int y :: .int x :: r) g = if x = y then den sc d MX8_isWord 8 [l0, l1, l2] (r) g else den sc d MX8_isWord 24 [l0, l1, l2] (r) g := eb_icmp_ne hM_X8_isWord rfl dX8_isWord_5
theorem s_X8_isWord_8 : den sc d MX8_isWord 8 [some (.ref a), l1, l2] (r) g = den sc d MX8_isWord 9 [some (.ref a), l1, l2] (.ref a :: r) g := eb_aload_n hM_X8_isWord rfl dX8_isWord_8
theorem s_X8_isWord_9 : den sc d MX8_isWord 9 [l0, l1, l2] (.ref a :: r) g = mx_gf (g.1 a) 8 4 (fun v => den sc d MX8_isWord 12 [l0, l1, l2] (v :: r) g) := eb_gf hM_X8_isWord hC_X8_isWord rf_8_19 dX8_isWord_9
theorem s_X8_isWord_12 : den sc d MX8_isWord 12 [some (.ref a), l1, l2] (r) g = den sc d MX8_isWord 13 [some (.ref a), l1, l2] (.ref a :: r) g := eb_aload_n hM_X8_isWord rfl dX8_isWord_12
theorem s_X8_isWord_13 : den sc d MX8_isWord 13 [l0, l1, l2] (.ref a :: r) g = mx_gf (g.1 a) 8 3 (fun v => den sc d MX8_isWord 16 [l0, l1, l2] (v :: r) g) := eb_gf hM_X8_isWord hC_X8_isWord rf_8_30 dX8_isWord_13
theorem s_X8_isWord_16 : den sc d MX8_isWord 16 [l0, l1, l2] (.int y :: .int x :: r) g = den sc d MX8_isWord 17 [l0, l1, l2] (.int (x - y) :: r) g := eb_isub hM_X8_isWord dX8_isWord_16
theorem s_X8_isWord_17 : den sc d MX8_isWord 17 [l0, some (.ref a), l2] (r) g = den sc d MX8_isWord 18 [l0, some (.ref a), l2] (.ref a :: r) g := eb_aload_n hM_X8_isWord rfl dX8_isWord_17
theorem s_X8_isWord_18  (hrc : mx_rc g a = some 20) : den sc (d + 1) MX8_isWord 18 [l0, l1, l2] (.ref a :: r) g = mx_ck r (call sc d MJ0_length_8abf5 [.ref a] g) (fun v g' => den sc (d + 1) MX8_isWord 21 [l0, l1, l2] (v.toList ++ r) g') := eb_virtual hM_X8_isWord hC_X8_isWord rc_8_100_20 (by decide) rfl dX8_isWord_18 rfl rfl rfl rfl hrc
theorem s_X8_isWord_21 : den sc d MX8_isWord 21 [l0, l1, l2] (.int y :: .int x :: r) g = if x = y then den sc d MX8_isWord 26 [l0, l1, l2] (r) g else den sc d MX8_isWord 24 [l0, l1, l2] (r) g := eb_icmp_eq hM_X8_isWord rfl dX8_isWord_21
theorem s_X8_isWord_24 : den sc d MX8_isWord 24 [l0, l1, l2] (r) g = den sc d MX8_isWord 25 [l0, l1, l2] (.int (0) :: r) g := eb_iconst hM_X8_isWord rfl dX8_isWord_24
theorem s_X8_isWord_25 (hn : narrow .boolean (.int x) = .int x) : den sc d MX8_isWord 25 [l0, l1, l2] ([.int x]) g = some (some (.int x), g) := eb_reti hM_X8_isWord hT_X8_isWord hn dX8_isWord_25
theorem s_X8_isWord_25_0 : den sc d MX8_isWord 25 [l0, l1, l2] ([.int 0]) g = some (some (.int 0), g) := eb_reti hM_X8_isWord hT_X8_isWord rfl dX8_isWord_25
theorem s_X8_isWord_25_1 : den sc d MX8_isWord 25 [l0, l1, l2] ([.int 1]) g = some (some (.int 1), g) := eb_reti hM_X8_isWord hT_X8_isWord rfl dX8_isWord_25
theorem s_X8_isWord_26 : den sc d MX8_isWord 26 [l0, l1, l2] (r) g = den sc d MX8_isWord 27 [l0, l1, l2] (.int (0) :: r) g := eb_iconst hM_X8_isWord rfl dX8_isWord_26
theorem s_X8_isWord_27 {n1 : Nat} : den sc d MX8_isWord 27 [l0, some (.ref n1), l2] (.int x :: r) g = den sc d MX8_isWord 28 [l0, some (.ref n1), some (.int x)] (r) g := eb_istore_n hM_X8_isWord (Nat.le_of_ble_eq_true rfl) rfl dX8_isWord_27
theorem s_X8_isWord_28 : den sc d MX8_isWord 28 [l0, l1, some (.int x)] (r) g = den sc d MX8_isWord 29 [l0, l1, some (.int x)] (.int x :: r) g := eb_iload_n hM_X8_isWord rfl dX8_isWord_28
theorem s_X8_isWord_29 : den sc d MX8_isWord 29 [l0, some (.ref a), l2] (r) g = den sc d MX8_isWord 30 [l0, some (.ref a), l2] (.ref a :: r) g := eb_aload_n hM_X8_isWord rfl dX8_isWord_29
theorem s_X8_isWord_30  (hrc : mx_rc g a = some 20) : den sc (d + 1) MX8_isWord 30 [l0, l1, l2] (.ref a :: r) g = mx_ck r (call sc d MJ0_length_8abf5 [.ref a] g) (fun v g' => den sc (d + 1) MX8_isWord 33 [l0, l1, l2] (v.toList ++ r) g') := eb_virtual hM_X8_isWord hC_X8_isWord rc_8_100_20 (by decide) rfl dX8_isWord_30 rfl rfl rfl rfl hrc
theorem s_X8_isWord_33 : den sc d MX8_isWord 33 [l0, l1, l2] (.int y :: .int x :: r) g = if y ≤ x then den sc d MX8_isWord 66 [l0, l1, l2] (r) g else den sc d MX8_isWord 36 [l0, l1, l2] (r) g := eb_icmp_ge hM_X8_isWord rfl dX8_isWord_33
theorem s_X8_isWord_36 : den sc d MX8_isWord 36 [some (.ref a), l1, l2] (r) g = den sc d MX8_isWord 37 [some (.ref a), l1, l2] (.ref a :: r) g := eb_aload_n hM_X8_isWord rfl dX8_isWord_36
theorem s_X8_isWord_37 : den sc d MX8_isWord 37 [l0, l1, l2] (.ref a :: r) g = mx_gf (g.1 a) 8 0 (fun v => den sc d MX8_isWord 40 [l0, l1, l2] (v :: r) g) := eb_gf hM_X8_isWord hC_X8_isWord rf_8_9 dX8_isWord_37
theorem s_X8_isWord_40 : den sc d MX8_isWord 40 [l0, l1, l2] (.ref a :: r) g = mx_gf (g.1 a) 7 0 (fun v => den sc d MX8_isWord 43 [l0, l1, l2] (v :: r) g) := eb_gf hM_X8_isWord hC_X8_isWord rf_8_105 dX8_isWord_40
theorem s_X8_isWord_43 : den sc d MX8_isWord 43 [some (.ref a), l1, l2] (r) g = den sc d MX8_isWord 44 [some (.ref a), l1, l2] (.ref a :: r) g := eb_aload_n hM_X8_isWord rfl dX8_isWord_43
theorem s_X8_isWord_44 : den sc d MX8_isWord 44 [l0, l1, l2] (.ref a :: r) g = mx_gf (g.1 a) 8 3 (fun v => den sc d MX8_isWord 47 [l0, l1, l2] (v :: r) g) := eb_gf hM_X8_isWord hC_X8_isWord rf_8_30 dX8_isWord_44
theorem s_X8_isWord_47 : den sc d MX8_isWord 47 [l0, l1, some (.int x)] (r) g = den sc d MX8_isWord 48 [l0, l1, some (.int x)] (.int x :: r) g := eb_iload_n hM_X8_isWord rfl dX8_isWord_47
theorem s_X8_isWord_48 : den sc d MX8_isWord 48 [l0, l1, l2] (.int y :: .int x :: r) g = den sc d MX8_isWord 49 [l0, l1, l2] (.int (x + y) :: r) g := eb_iadd hM_X8_isWord dX8_isWord_48
theorem s_X8_isWord_49 : den sc d MX8_isWord 49 [l0, l1, l2] (.int i :: .ref a :: r) g = mx_ai (mx_av sc g a) i (fun _ f => den sc d MX8_isWord 50 [l0, l1, l2] (.int (f i.toNatClampNeg) :: r) g) := eb_iald hM_X8_isWord dX8_isWord_49
theorem s_X8_isWord_50 : den sc d MX8_isWord 50 [l0, some (.ref a), l2] (r) g = den sc d MX8_isWord 51 [l0, some (.ref a), l2] (.ref a :: r) g := eb_aload_n hM_X8_isWord rfl dX8_isWord_50
theorem s_X8_isWord_51 : den sc d MX8_isWord 51 [l0, l1, some (.int x)] (r) g = den sc d MX8_isWord 52 [l0, l1, some (.int x)] (.int x :: r) g := eb_iload_n hM_X8_isWord rfl dX8_isWord_51
theorem s_X8_isWord_52 {a0 : Int32} (hrc : mx_rc g a = some 20) : den sc (d + 1) MX8_isWord 52 [l0, l1, l2] (.int a0 :: .ref a :: r) g = mx_ck r (call sc d MJ0_charAt_5068e [.ref a, .int a0] g) (fun v g' => den sc (d + 1) MX8_isWord 55 [l0, l1, l2] (v.toList ++ r) g') := eb_virtual hM_X8_isWord hC_X8_isWord rc_8_110_20 (by decide) rfl dX8_isWord_52 rfl rfl rfl rfl hrc
theorem s_X8_isWord_55 : den sc d MX8_isWord 55 [l0, l1, l2] (.int y :: .int x :: r) g = if x = y then den sc d MX8_isWord 60 [l0, l1, l2] (r) g else den sc d MX8_isWord 58 [l0, l1, l2] (r) g := eb_icmp_eq hM_X8_isWord rfl dX8_isWord_55
theorem s_X8_isWord_58 : den sc d MX8_isWord 58 [l0, l1, l2] (r) g = den sc d MX8_isWord 59 [l0, l1, l2] (.int (0) :: r) g := eb_iconst hM_X8_isWord rfl dX8_isWord_58
theorem s_X8_isWord_59 (hn : narrow .boolean (.int x) = .int x) : den sc d MX8_isWord 59 [l0, l1, l2] ([.int x]) g = some (some (.int x), g) := eb_reti hM_X8_isWord hT_X8_isWord hn dX8_isWord_59
theorem s_X8_isWord_59_0 : den sc d MX8_isWord 59 [l0, l1, l2] ([.int 0]) g = some (some (.int 0), g) := eb_reti hM_X8_isWord hT_X8_isWord rfl dX8_isWord_59
theorem s_X8_isWord_59_1 : den sc d MX8_isWord 59 [l0, l1, l2] ([.int 1]) g = some (some (.int 1), g) := eb_reti hM_X8_isWord hT_X8_isWord rfl dX8_isWord_59
theorem s_X8_isWord_60 {n1 : Nat} : den sc d MX8_isWord 60 [l0, some (.ref n1), some (.int x)] (r) g = den sc d MX8_isWord 63 [l0, some (.ref n1), some (.int (x + (1)))] (r) g := eb_iinc hM_X8_isWord rfl rfl rfl dX8_isWord_60
theorem s_X8_isWord_63 : den sc d MX8_isWord 63 [l0, l1, l2] (r) g = den sc d MX8_isWord 28 [l0, l1, l2] (r) g := eb_goto hM_X8_isWord rfl dX8_isWord_63
theorem s_X8_isWord_66 : den sc d MX8_isWord 66 [l0, l1, l2] (r) g = den sc d MX8_isWord 67 [l0, l1, l2] (.int (1) :: r) g := eb_iconst hM_X8_isWord rfl dX8_isWord_66
theorem s_X8_isWord_67 (hn : narrow .boolean (.int x) = .int x) : den sc d MX8_isWord 67 [l0, l1, l2] ([.int x]) g = some (some (.int x), g) := eb_reti hM_X8_isWord hT_X8_isWord hn dX8_isWord_67
theorem s_X8_isWord_67_0 : den sc d MX8_isWord 67 [l0, l1, l2] ([.int 0]) g = some (some (.int 0), g) := eb_reti hM_X8_isWord hT_X8_isWord rfl dX8_isWord_67
theorem s_X8_isWord_67_1 : den sc d MX8_isWord 67 [l0, l1, l2] ([.int 1]) g = some (some (.int 1), g) := eb_reti hM_X8_isWord hT_X8_isWord rfl dX8_isWord_67
end
section
variable {sc : mx_X} {d : Nat} {g : mx_G} {r : List Value} {x y i : Int32} {z x2 y2 : Int64} {a b : Nat} {l0 l1 l2 l3 l4 l5 l6 l7 l8 l9 l10 : Option Value}
theorem s_X8_kindNamed_0 : den sc d MX8_kindNamed 0 [l0, l1] (r) g = den sc d MX8_kindNamed 1 [l0, l1] (.int (0) :: r) g := eb_iconst hM_X8_kindNamed rfl dX8_kindNamed_0
theorem s_X8_kindNamed_1 {n0 : Nat} : den sc d MX8_kindNamed 1 [some (.ref n0), l1] (.int x :: r) g = den sc d MX8_kindNamed 2 [some (.ref n0), some (.int x)] (r) g := eb_istore_n hM_X8_kindNamed (Nat.le_of_ble_eq_true rfl) rfl dX8_kindNamed_1
theorem s_X8_kindNamed_2 : den sc d MX8_kindNamed 2 [l0, some (.int x)] (r) g = den sc d MX8_kindNamed 3 [l0, some (.int x)] (.int x :: r) g := eb_iload_n hM_X8_kindNamed rfl dX8_kindNamed_2
theorem s_X8_kindNamed_3 : den sc d MX8_kindNamed 3 [l0, l1] (r) g = den sc d MX8_kindNamed 5 [l0, l1] (.int (6) :: r) g := eb_bipush hM_X8_kindNamed rfl dX8_kindNamed_3
theorem s_X8_kindNamed_5 : den sc d MX8_kindNamed 5 [l0, l1] (.int y :: .int x :: r) g = if y ≤ x then den sc d MX8_kindNamed 27 [l0, l1] (r) g else den sc d MX8_kindNamed 8 [l0, l1] (r) g := eb_icmp_ge hM_X8_kindNamed rfl dX8_kindNamed_5
theorem s_X8_kindNamed_8 : den sc d MX8_kindNamed 8 [some (.ref a), l1] (r) g = den sc d MX8_kindNamed 9 [some (.ref a), l1] (.ref a :: r) g := eb_aload_n hM_X8_kindNamed rfl dX8_kindNamed_8
theorem s_X8_kindNamed_9 : den sc d MX8_kindNamed 9 [l0, some (.int x)] (r) g = den sc d MX8_kindNamed 10 [l0, some (.int x)] (.int x :: r) g := eb_iload_n hM_X8_kindNamed rfl dX8_kindNamed_9
theorem s_X8_kindNamed_10 {a0 : Int32} : den sc (d + 1) MX8_kindNamed 10 [l0, l1] (.int a0 :: r) g = mx_ck r (call sc d MX8_nameOfKind [.int a0] g) (fun v g' => den sc (d + 1) MX8_kindNamed 13 [l0, l1] (v.toList ++ r) g') := eb_static hM_X8_kindNamed hC_X8_kindNamed rc_8_114_100 rfl rfl rfl dX8_kindNamed_10 rfl rfl rfl rfl
theorem s_X8_kindNamed_13 {a0 : Nat} (hrc : mx_rc g a = some 8) : den sc (d + 1) MX8_kindNamed 13 [l0, l1] (.ref a0 :: .ref a :: r) g = mx_ck r (call sc d MX8_isWord [.ref a, .ref a0] g) (fun v g' => den sc (d + 1) MX8_kindNamed 16 [l0, l1] (v.toList ++ r) g') := eb_virtual hM_X8_kindNamed hC_X8_kindNamed rc_8_46_8 (by decide) rfl dX8_kindNamed_13 rfl rfl rfl rfl hrc
theorem s_X8_kindNamed_16 : den sc d MX8_kindNamed 16 [l0, l1] (.int x :: r) g = if x = 0 then den sc d MX8_kindNamed 21 [l0, l1] (r) g else den sc d MX8_kindNamed 19 [l0, l1] (r) g := eb_if_eq hM_X8_kindNamed rfl dX8_kindNamed_16
theorem s_X8_kindNamed_19 : den sc d MX8_kindNamed 19 [l0, some (.int x)] (r) g = den sc d MX8_kindNamed 20 [l0, some (.int x)] (.int x :: r) g := eb_iload_n hM_X8_kindNamed rfl dX8_kindNamed_19
theorem s_X8_kindNamed_20 : den sc d MX8_kindNamed 20 [l0, l1] ([.int x]) g = some (some (.int x), g) := eb_reti hM_X8_kindNamed hT_X8_kindNamed rfl dX8_kindNamed_20
theorem s_X8_kindNamed_21 {n0 : Nat} : den sc d MX8_kindNamed 21 [some (.ref n0), some (.int x)] (r) g = den sc d MX8_kindNamed 24 [some (.ref n0), some (.int (x + (1)))] (r) g := eb_iinc hM_X8_kindNamed rfl rfl rfl dX8_kindNamed_21
theorem s_X8_kindNamed_24 : den sc d MX8_kindNamed 24 [l0, l1] (r) g = den sc d MX8_kindNamed 2 [l0, l1] (r) g := eb_goto hM_X8_kindNamed rfl dX8_kindNamed_24
theorem s_X8_kindNamed_27 : den sc d MX8_kindNamed 27 [l0, l1] (r) g = den sc d MX8_kindNamed 28 [l0, l1] (.int (-1) :: r) g := eb_iconst hM_X8_kindNamed rfl dX8_kindNamed_27
theorem s_X8_kindNamed_28 : den sc d MX8_kindNamed 28 [l0, l1] ([.int x]) g = some (some (.int x), g) := eb_reti hM_X8_kindNamed hT_X8_kindNamed rfl dX8_kindNamed_28
end
section
variable {sc : mx_X} {d : Nat} {g : mx_G} {r : List Value} {x y i : Int32} {z x2 y2 : Int64} {a b : Nat} {l0 l1 l2 l3 l4 l5 l6 l7 l8 l9 l10 : Option Value}
theorem s_X8_nameOfKind_0 : den sc d MX8_nameOfKind 0 [some (.int x)] (r) g = den sc d MX8_nameOfKind 1 [some (.int x)] (.int x :: r) g := eb_iload_n hM_X8_nameOfKind rfl dX8_nameOfKind_0
theorem s_X8_nameOfKind_1_0 : den sc d MX8_nameOfKind 1 [l0] (.int (0) :: r) g = den sc d MX8_nameOfKind 36 [l0] (r) g := eb_table hM_X8_nameOfKind dX8_nameOfKind_1 rfl rfl
theorem s_X8_nameOfKind_1_1 : den sc d MX8_nameOfKind 1 [l0] (.int (1) :: r) g = den sc d MX8_nameOfKind 39 [l0] (r) g := eb_table hM_X8_nameOfKind dX8_nameOfKind_1 rfl rfl
theorem s_X8_nameOfKind_1_2 : den sc d MX8_nameOfKind 1 [l0] (.int (2) :: r) g = den sc d MX8_nameOfKind 42 [l0] (r) g := eb_table hM_X8_nameOfKind dX8_nameOfKind_1 rfl rfl
theorem s_X8_nameOfKind_1_3 : den sc d MX8_nameOfKind 1 [l0] (.int (3) :: r) g = den sc d MX8_nameOfKind 45 [l0] (r) g := eb_table hM_X8_nameOfKind dX8_nameOfKind_1 rfl rfl
theorem s_X8_nameOfKind_1_4 : den sc d MX8_nameOfKind 1 [l0] (.int (4) :: r) g = den sc d MX8_nameOfKind 48 [l0] (r) g := eb_table hM_X8_nameOfKind dX8_nameOfKind_1 rfl rfl
theorem s_X8_nameOfKind_1_d (h : x.toInt < 0 ∨ 4 < x.toInt) : den sc d MX8_nameOfKind 1 [l0] (.int x :: r) g = den sc d MX8_nameOfKind 51 [l0] (r) g := eb_table hM_X8_nameOfKind dX8_nameOfKind_1 (if_pos h) rfl
theorem s_X8_nameOfKind_36 : den sc d MX8_nameOfKind 36 [l0] (r) g = den sc d MX8_nameOfKind 38 [l0] (.ref 1000 :: r) g := eb_ldca hM_X8_nameOfKind hC_X8_nameOfKind rl_8_118 dX8_nameOfKind_36
theorem s_X8_nameOfKind_38 : den sc d MX8_nameOfKind 38 [l0] ([.ref a]) g = some (some (.ref a), g) := eb_reta hM_X8_nameOfKind hT_X8_nameOfKind dX8_nameOfKind_38
theorem s_X8_nameOfKind_39 : den sc d MX8_nameOfKind 39 [l0] (r) g = den sc d MX8_nameOfKind 41 [l0] (.ref 1001 :: r) g := eb_ldca hM_X8_nameOfKind hC_X8_nameOfKind rl_8_120 dX8_nameOfKind_39
theorem s_X8_nameOfKind_41 : den sc d MX8_nameOfKind 41 [l0] ([.ref a]) g = some (some (.ref a), g) := eb_reta hM_X8_nameOfKind hT_X8_nameOfKind dX8_nameOfKind_41
theorem s_X8_nameOfKind_42 : den sc d MX8_nameOfKind 42 [l0] (r) g = den sc d MX8_nameOfKind 44 [l0] (.ref 1002 :: r) g := eb_ldca hM_X8_nameOfKind hC_X8_nameOfKind rl_8_122 dX8_nameOfKind_42
theorem s_X8_nameOfKind_44 : den sc d MX8_nameOfKind 44 [l0] ([.ref a]) g = some (some (.ref a), g) := eb_reta hM_X8_nameOfKind hT_X8_nameOfKind dX8_nameOfKind_44
theorem s_X8_nameOfKind_45 : den sc d MX8_nameOfKind 45 [l0] (r) g = den sc d MX8_nameOfKind 47 [l0] (.ref 1003 :: r) g := eb_ldca hM_X8_nameOfKind hC_X8_nameOfKind rl_8_124 dX8_nameOfKind_45
theorem s_X8_nameOfKind_47 : den sc d MX8_nameOfKind 47 [l0] ([.ref a]) g = some (some (.ref a), g) := eb_reta hM_X8_nameOfKind hT_X8_nameOfKind dX8_nameOfKind_47
theorem s_X8_nameOfKind_48 : den sc d MX8_nameOfKind 48 [l0] (r) g = den sc d MX8_nameOfKind 50 [l0] (.ref 1004 :: r) g := eb_ldca hM_X8_nameOfKind hC_X8_nameOfKind rl_8_126 dX8_nameOfKind_48
theorem s_X8_nameOfKind_50 : den sc d MX8_nameOfKind 50 [l0] ([.ref a]) g = some (some (.ref a), g) := eb_reta hM_X8_nameOfKind hT_X8_nameOfKind dX8_nameOfKind_50
theorem s_X8_nameOfKind_51 : den sc d MX8_nameOfKind 51 [l0] (r) g = den sc d MX8_nameOfKind 53 [l0] (.ref 1005 :: r) g := eb_ldca hM_X8_nameOfKind hC_X8_nameOfKind rl_8_128 dX8_nameOfKind_51
theorem s_X8_nameOfKind_53 : den sc d MX8_nameOfKind 53 [l0] ([.ref a]) g = some (some (.ref a), g) := eb_reta hM_X8_nameOfKind hT_X8_nameOfKind dX8_nameOfKind_53
end
section
variable {sc : mx_X} {d : Nat} {g : mx_G} {r : List Value} {x y i : Int32} {z x2 y2 : Int64} {a b : Nat} {l0 l1 l2 l3 l4 l5 l6 l7 l8 l9 l10 : Option Value}
theorem s_X8_next_0 : den sc d MX8_next 0 [some (.ref a)] (r) g = den sc d MX8_next 1 [some (.ref a)] (.ref a :: r) g := eb_aload_n hM_X8_next rfl dX8_next_0
theorem s_X8_next_1 : den sc d MX8_next 1 [some (.ref a)] (r) g = den sc d MX8_next 2 [some (.ref a)] (.ref a :: r) g := eb_aload_n hM_X8_next rfl dX8_next_1
theorem s_X8_next_2 : den sc d MX8_next 2 [l0] (.ref a :: r) g = mx_gf (g.1 a) 8 4 (fun v => den sc d MX8_next 5 [l0] (v :: r) g) := eb_gf hM_X8_next hC_X8_next rf_8_19 dX8_next_2
theorem s_X8_next_5 : den sc d MX8_next 5 [l0] (.int x :: .ref a :: r) g = mx_pf (g.1 a) 8 3 (fun fs => den sc d MX8_next 8 [l0] (r) (mx_up g a (.inr (8, fs.set 3 (.int x))))) := eb_pf hM_X8_next hC_X8_next rf_8_30 rfl rfl dX8_next_5
theorem s_X8_next_8 : den sc d MX8_next 8 [some (.ref a)] (r) g = den sc d MX8_next 9 [some (.ref a)] (.ref a :: r) g := eb_aload_n hM_X8_next rfl dX8_next_8
theorem s_X8_next_9 : den sc d MX8_next 9 [l0] (.ref a :: r) g = mx_gf (g.1 a) 8 3 (fun v => den sc d MX8_next 12 [l0] (v :: r) g) := eb_gf hM_X8_next hC_X8_next rf_8_30 dX8_next_9
theorem s_X8_next_12 : den sc d MX8_next 12 [some (.ref a)] (r) g = den sc d MX8_next 13 [some (.ref a)] (.ref a :: r) g := eb_aload_n hM_X8_next rfl dX8_next_12
theorem s_X8_next_13 : den sc d MX8_next 13 [l0] (.ref a :: r) g = mx_gf (g.1 a) 8 0 (fun v => den sc d MX8_next 16 [l0] (v :: r) g) := eb_gf hM_X8_next hC_X8_next rf_8_9 dX8_next_13
theorem s_X8_next_16 : den sc d MX8_next 16 [l0] (.ref a :: r) g = mx_gf (g.1 a) 7 1 (fun v => den sc d MX8_next 19 [l0] (v :: r) g) := eb_gf hM_X8_next hC_X8_next rf_8_130 dX8_next_16
theorem s_X8_next_19 : den sc d MX8_next 19 [l0] (.int y :: .int x :: r) g = if y ≤ x then den sc d MX8_next 52 [l0] (r) g else den sc d MX8_next 22 [l0] (r) g := eb_icmp_ge hM_X8_next rfl dX8_next_19
theorem s_X8_next_22 : den sc d MX8_next 22 [some (.ref a)] (r) g = den sc d MX8_next 23 [some (.ref a)] (.ref a :: r) g := eb_aload_n hM_X8_next rfl dX8_next_22
theorem s_X8_next_23 : den sc d MX8_next 23 [l0] (.ref a :: r) g = mx_gf (g.1 a) 8 0 (fun v => den sc d MX8_next 26 [l0] (v :: r) g) := eb_gf hM_X8_next hC_X8_next rf_8_9 dX8_next_23
theorem s_X8_next_26 : den sc d MX8_next 26 [l0] (.ref a :: r) g = mx_gf (g.1 a) 7 0 (fun v => den sc d MX8_next 29 [l0] (v :: r) g) := eb_gf hM_X8_next hC_X8_next rf_8_105 dX8_next_26
theorem s_X8_next_29 : den sc d MX8_next 29 [some (.ref a)] (r) g = den sc d MX8_next 30 [some (.ref a)] (.ref a :: r) g := eb_aload_n hM_X8_next rfl dX8_next_29
theorem s_X8_next_30 : den sc d MX8_next 30 [l0] (.ref a :: r) g = mx_gf (g.1 a) 8 3 (fun v => den sc d MX8_next 33 [l0] (v :: r) g) := eb_gf hM_X8_next hC_X8_next rf_8_30 dX8_next_30
theorem s_X8_next_33 : den sc d MX8_next 33 [l0] (.int i :: .ref a :: r) g = mx_ai (mx_av sc g a) i (fun _ f => den sc d MX8_next 34 [l0] (.int (f i.toNatClampNeg) :: r) g) := eb_iald hM_X8_next dX8_next_33
theorem s_X8_next_34 : den sc d MX8_next 34 [l0] (r) g = den sc d MX8_next 36 [l0] (.int (32) :: r) g := eb_bipush hM_X8_next rfl dX8_next_34
theorem s_X8_next_36 : den sc d MX8_next 36 [l0] (.int y :: .int x :: r) g = if x = y then den sc d MX8_next 39 [l0] (r) g else den sc d MX8_next 52 [l0] (r) g := eb_icmp_ne hM_X8_next rfl dX8_next_36
theorem s_X8_next_39 : den sc d MX8_next 39 [some (.ref a)] (r) g = den sc d MX8_next 40 [some (.ref a)] (.ref a :: r) g := eb_aload_n hM_X8_next rfl dX8_next_39
theorem s_X8_next_40 : den sc d MX8_next 40 [l0] (.ref a :: r) g = den sc d MX8_next 41 [l0] (.ref a :: .ref a :: r) g := eb_dupa hM_X8_next dX8_next_40
theorem s_X8_next_40i : den sc d MX8_next 40 [l0] (.int x :: r) g = den sc d MX8_next 41 [l0] (.int x :: .int x :: r) g := eb_dupi hM_X8_next dX8_next_40
theorem s_X8_next_41 : den sc d MX8_next 41 [l0] (.ref a :: r) g = mx_gf (g.1 a) 8 3 (fun v => den sc d MX8_next 44 [l0] (v :: r) g) := eb_gf hM_X8_next hC_X8_next rf_8_30 dX8_next_41
theorem s_X8_next_44 : den sc d MX8_next 44 [l0] (r) g = den sc d MX8_next 45 [l0] (.int (1) :: r) g := eb_iconst hM_X8_next rfl dX8_next_44
theorem s_X8_next_45 : den sc d MX8_next 45 [l0] (.int y :: .int x :: r) g = den sc d MX8_next 46 [l0] (.int (x + y) :: r) g := eb_iadd hM_X8_next dX8_next_45
theorem s_X8_next_46 : den sc d MX8_next 46 [l0] (.int x :: .ref a :: r) g = mx_pf (g.1 a) 8 3 (fun fs => den sc d MX8_next 49 [l0] (r) (mx_up g a (.inr (8, fs.set 3 (.int x))))) := eb_pf hM_X8_next hC_X8_next rf_8_30 rfl rfl dX8_next_46
theorem s_X8_next_49 : den sc d MX8_next 49 [l0] (r) g = den sc d MX8_next 8 [l0] (r) g := eb_goto hM_X8_next rfl dX8_next_49
theorem s_X8_next_52 : den sc d MX8_next 52 [some (.ref a)] (r) g = den sc d MX8_next 53 [some (.ref a)] (.ref a :: r) g := eb_aload_n hM_X8_next rfl dX8_next_52
theorem s_X8_next_53 : den sc d MX8_next 53 [some (.ref a)] (r) g = den sc d MX8_next 54 [some (.ref a)] (.ref a :: r) g := eb_aload_n hM_X8_next rfl dX8_next_53
theorem s_X8_next_54 : den sc d MX8_next 54 [l0] (.ref a :: r) g = mx_gf (g.1 a) 8 3 (fun v => den sc d MX8_next 57 [l0] (v :: r) g) := eb_gf hM_X8_next hC_X8_next rf_8_30 dX8_next_54
theorem s_X8_next_57 : den sc d MX8_next 57 [l0] (.int x :: .ref a :: r) g = mx_pf (g.1 a) 8 4 (fun fs => den sc d MX8_next 60 [l0] (r) (mx_up g a (.inr (8, fs.set 4 (.int x))))) := eb_pf hM_X8_next hC_X8_next rf_8_19 rfl rfl dX8_next_57
theorem s_X8_next_60 : den sc d MX8_next 60 [some (.ref a)] (r) g = den sc d MX8_next 61 [some (.ref a)] (.ref a :: r) g := eb_aload_n hM_X8_next rfl dX8_next_60
theorem s_X8_next_61 : den sc d MX8_next 61 [l0] (.ref a :: r) g = mx_gf (g.1 a) 8 3 (fun v => den sc d MX8_next 64 [l0] (v :: r) g) := eb_gf hM_X8_next hC_X8_next rf_8_30 dX8_next_61
theorem s_X8_next_64 : den sc d MX8_next 64 [some (.ref a)] (r) g = den sc d MX8_next 65 [some (.ref a)] (.ref a :: r) g := eb_aload_n hM_X8_next rfl dX8_next_64
theorem s_X8_next_65 : den sc d MX8_next 65 [l0] (.ref a :: r) g = mx_gf (g.1 a) 8 0 (fun v => den sc d MX8_next 68 [l0] (v :: r) g) := eb_gf hM_X8_next hC_X8_next rf_8_9 dX8_next_65
theorem s_X8_next_68 : den sc d MX8_next 68 [l0] (.ref a :: r) g = mx_gf (g.1 a) 7 1 (fun v => den sc d MX8_next 71 [l0] (v :: r) g) := eb_gf hM_X8_next hC_X8_next rf_8_130 dX8_next_68
theorem s_X8_next_71 : den sc d MX8_next 71 [l0] (.int y :: .int x :: r) g = if x < y then den sc d MX8_next 82 [l0] (r) g else den sc d MX8_next 74 [l0] (r) g := eb_icmp_lt hM_X8_next rfl dX8_next_71
theorem s_X8_next_74 : den sc d MX8_next 74 [some (.ref a)] (r) g = den sc d MX8_next 75 [some (.ref a)] (.ref a :: r) g := eb_aload_n hM_X8_next rfl dX8_next_74
theorem s_X8_next_75 : den sc d MX8_next 75 [l0] (r) g = den sc d MX8_next 76 [l0] (.int (0) :: r) g := eb_iconst hM_X8_next rfl dX8_next_75
theorem s_X8_next_76 : den sc d MX8_next 76 [l0] (.int x :: .ref a :: r) g = mx_pf (g.1 a) 8 2 (fun fs => den sc d MX8_next 79 [l0] (r) (mx_up g a (.inr (8, fs.set 2 (.int x))))) := eb_pf hM_X8_next hC_X8_next rf_8_33 rfl rfl dX8_next_76
theorem s_X8_next_79 : den sc d MX8_next 79 [l0] (r) g = den sc d MX8_next 164 [l0] (r) g := eb_goto hM_X8_next rfl dX8_next_79
theorem s_X8_next_82 : den sc d MX8_next 82 [some (.ref a)] (r) g = den sc d MX8_next 83 [some (.ref a)] (.ref a :: r) g := eb_aload_n hM_X8_next rfl dX8_next_82
theorem s_X8_next_83 : den sc d MX8_next 83 [some (.ref a)] (r) g = den sc d MX8_next 84 [some (.ref a)] (.ref a :: r) g := eb_aload_n hM_X8_next rfl dX8_next_83
theorem s_X8_next_84 : den sc d MX8_next 84 [l0] (.ref a :: r) g = mx_gf (g.1 a) 8 3 (fun v => den sc d MX8_next 87 [l0] (v :: r) g) := eb_gf hM_X8_next hC_X8_next rf_8_30 dX8_next_84
theorem s_X8_next_87 {a0 : Int32} (hrc : mx_rc g a = some 8) : den sc (d + 1) MX8_next 87 [l0] (.int a0 :: .ref a :: r) g = mx_ck r (call sc d MX8_isLetter [.ref a, .int a0] g) (fun v g' => den sc (d + 1) MX8_next 90 [l0] (v.toList ++ r) g') := eb_virtual hM_X8_next hC_X8_next rc_8_132_8 (by decide) rfl dX8_next_87 rfl rfl rfl rfl hrc
theorem s_X8_next_90 : den sc d MX8_next 90 [l0] (.int x :: r) g = if x = 0 then den sc d MX8_next 105 [l0] (r) g else den sc d MX8_next 93 [l0] (r) g := eb_if_eq hM_X8_next rfl dX8_next_90
theorem s_X8_next_93 : den sc d MX8_next 93 [some (.ref a)] (r) g = den sc d MX8_next 94 [some (.ref a)] (.ref a :: r) g := eb_aload_n hM_X8_next rfl dX8_next_93
theorem s_X8_next_94 : den sc d MX8_next 94 [l0] (r) g = den sc d MX8_next 95 [l0] (.int (1) :: r) g := eb_iconst hM_X8_next rfl dX8_next_94
theorem s_X8_next_95 : den sc d MX8_next 95 [l0] (.int x :: .ref a :: r) g = mx_pf (g.1 a) 8 2 (fun fs => den sc d MX8_next 98 [l0] (r) (mx_up g a (.inr (8, fs.set 2 (.int x))))) := eb_pf hM_X8_next hC_X8_next rf_8_33 rfl rfl dX8_next_95
theorem s_X8_next_98 : den sc d MX8_next 98 [some (.ref a)] (r) g = den sc d MX8_next 99 [some (.ref a)] (.ref a :: r) g := eb_aload_n hM_X8_next rfl dX8_next_98
theorem s_X8_next_99  (hrc : mx_rc g a = some 8) : den sc (d + 1) MX8_next 99 [l0] (.ref a :: r) g = mx_ck r (call sc d MX8_passWord [.ref a] g) (fun v g' => den sc (d + 1) MX8_next 102 [l0] (v.toList ++ r) g') := eb_virtual hM_X8_next hC_X8_next rc_8_135_8 (by decide) rfl dX8_next_99 rfl rfl rfl rfl hrc
theorem s_X8_next_102 : den sc d MX8_next 102 [l0] (r) g = den sc d MX8_next 164 [l0] (r) g := eb_goto hM_X8_next rfl dX8_next_102
theorem s_X8_next_105 : den sc d MX8_next 105 [some (.ref a)] (r) g = den sc d MX8_next 106 [some (.ref a)] (.ref a :: r) g := eb_aload_n hM_X8_next rfl dX8_next_105
theorem s_X8_next_106 : den sc d MX8_next 106 [some (.ref a)] (r) g = den sc d MX8_next 107 [some (.ref a)] (.ref a :: r) g := eb_aload_n hM_X8_next rfl dX8_next_106
theorem s_X8_next_107 : den sc d MX8_next 107 [l0] (.ref a :: r) g = mx_gf (g.1 a) 8 3 (fun v => den sc d MX8_next 110 [l0] (v :: r) g) := eb_gf hM_X8_next hC_X8_next rf_8_30 dX8_next_107
theorem s_X8_next_110 {a0 : Int32} (hrc : mx_rc g a = some 8) : den sc (d + 1) MX8_next 110 [l0] (.int a0 :: .ref a :: r) g = mx_ck r (call sc d MX8_isDigit [.ref a, .int a0] g) (fun v g' => den sc (d + 1) MX8_next 113 [l0] (v.toList ++ r) g') := eb_virtual hM_X8_next hC_X8_next rc_8_138_8 (by decide) rfl dX8_next_110 rfl rfl rfl rfl hrc
theorem s_X8_next_113 : den sc d MX8_next 113 [l0] (.int x :: r) g = if x = 0 then den sc d MX8_next 128 [l0] (r) g else den sc d MX8_next 116 [l0] (r) g := eb_if_eq hM_X8_next rfl dX8_next_113
theorem s_X8_next_116 : den sc d MX8_next 116 [some (.ref a)] (r) g = den sc d MX8_next 117 [some (.ref a)] (.ref a :: r) g := eb_aload_n hM_X8_next rfl dX8_next_116
theorem s_X8_next_117 : den sc d MX8_next 117 [l0] (r) g = den sc d MX8_next 118 [l0] (.int (2) :: r) g := eb_iconst hM_X8_next rfl dX8_next_117
theorem s_X8_next_118 : den sc d MX8_next 118 [l0] (.int x :: .ref a :: r) g = mx_pf (g.1 a) 8 2 (fun fs => den sc d MX8_next 121 [l0] (r) (mx_up g a (.inr (8, fs.set 2 (.int x))))) := eb_pf hM_X8_next hC_X8_next rf_8_33 rfl rfl dX8_next_118
theorem s_X8_next_121 : den sc d MX8_next 121 [some (.ref a)] (r) g = den sc d MX8_next 122 [some (.ref a)] (.ref a :: r) g := eb_aload_n hM_X8_next rfl dX8_next_121
theorem s_X8_next_122  (hrc : mx_rc g a = some 8) : den sc (d + 1) MX8_next 122 [l0] (.ref a :: r) g = mx_ck r (call sc d MX8_passNumber [.ref a] g) (fun v g' => den sc (d + 1) MX8_next 125 [l0] (v.toList ++ r) g') := eb_virtual hM_X8_next hC_X8_next rc_8_141_8 (by decide) rfl dX8_next_122 rfl rfl rfl rfl hrc
theorem s_X8_next_125 : den sc d MX8_next 125 [l0] (r) g = den sc d MX8_next 164 [l0] (r) g := eb_goto hM_X8_next rfl dX8_next_125
theorem s_X8_next_128 : den sc d MX8_next 128 [some (.ref a)] (r) g = den sc d MX8_next 129 [some (.ref a)] (.ref a :: r) g := eb_aload_n hM_X8_next rfl dX8_next_128
theorem s_X8_next_129 : den sc d MX8_next 129 [some (.ref a)] (r) g = den sc d MX8_next 130 [some (.ref a)] (.ref a :: r) g := eb_aload_n hM_X8_next rfl dX8_next_129
theorem s_X8_next_130 : den sc d MX8_next 130 [l0] (.ref a :: r) g = mx_gf (g.1 a) 8 0 (fun v => den sc d MX8_next 133 [l0] (v :: r) g) := eb_gf hM_X8_next hC_X8_next rf_8_9 dX8_next_130
theorem s_X8_next_133 : den sc d MX8_next 133 [l0] (.ref a :: r) g = mx_gf (g.1 a) 7 0 (fun v => den sc d MX8_next 136 [l0] (v :: r) g) := eb_gf hM_X8_next hC_X8_next rf_8_105 dX8_next_133
theorem s_X8_next_136 : den sc d MX8_next 136 [some (.ref a)] (r) g = den sc d MX8_next 137 [some (.ref a)] (.ref a :: r) g := eb_aload_n hM_X8_next rfl dX8_next_136
theorem s_X8_next_137 : den sc d MX8_next 137 [l0] (.ref a :: r) g = mx_gf (g.1 a) 8 3 (fun v => den sc d MX8_next 140 [l0] (v :: r) g) := eb_gf hM_X8_next hC_X8_next rf_8_30 dX8_next_137
theorem s_X8_next_140 : den sc d MX8_next 140 [l0] (.int i :: .ref a :: r) g = mx_ai (mx_av sc g a) i (fun _ f => den sc d MX8_next 141 [l0] (.int (f i.toNatClampNeg) :: r) g) := eb_iald hM_X8_next dX8_next_140
theorem s_X8_next_141 : den sc d MX8_next 141 [l0] (r) g = den sc d MX8_next 143 [l0] (.int (59) :: r) g := eb_bipush hM_X8_next rfl dX8_next_141
theorem s_X8_next_143 : den sc d MX8_next 143 [l0] (.int y :: .int x :: r) g = if x = y then den sc d MX8_next 146 [l0] (r) g else den sc d MX8_next 150 [l0] (r) g := eb_icmp_ne hM_X8_next rfl dX8_next_143
theorem s_X8_next_146 : den sc d MX8_next 146 [l0] (r) g = den sc d MX8_next 147 [l0] (.int (3) :: r) g := eb_iconst hM_X8_next rfl dX8_next_146
theorem s_X8_next_147 : den sc d MX8_next 147 [l0] (r) g = den sc d MX8_next 151 [l0] (r) g := eb_goto hM_X8_next rfl dX8_next_147
theorem s_X8_next_150 : den sc d MX8_next 150 [l0] (r) g = den sc d MX8_next 151 [l0] (.int (4) :: r) g := eb_iconst hM_X8_next rfl dX8_next_150
theorem s_X8_next_151 : den sc d MX8_next 151 [l0] (.int x :: .ref a :: r) g = mx_pf (g.1 a) 8 2 (fun fs => den sc d MX8_next 154 [l0] (r) (mx_up g a (.inr (8, fs.set 2 (.int x))))) := eb_pf hM_X8_next hC_X8_next rf_8_33 rfl rfl dX8_next_151
theorem s_X8_next_154 : den sc d MX8_next 154 [some (.ref a)] (r) g = den sc d MX8_next 155 [some (.ref a)] (.ref a :: r) g := eb_aload_n hM_X8_next rfl dX8_next_154
theorem s_X8_next_155 : den sc d MX8_next 155 [some (.ref a)] (r) g = den sc d MX8_next 156 [some (.ref a)] (.ref a :: r) g := eb_aload_n hM_X8_next rfl dX8_next_155
theorem s_X8_next_156 : den sc d MX8_next 156 [l0] (.ref a :: r) g = mx_gf (g.1 a) 8 3 (fun v => den sc d MX8_next 159 [l0] (v :: r) g) := eb_gf hM_X8_next hC_X8_next rf_8_30 dX8_next_156
theorem s_X8_next_159 : den sc d MX8_next 159 [l0] (r) g = den sc d MX8_next 160 [l0] (.int (1) :: r) g := eb_iconst hM_X8_next rfl dX8_next_159
theorem s_X8_next_160 : den sc d MX8_next 160 [l0] (.int y :: .int x :: r) g = den sc d MX8_next 161 [l0] (.int (x + y) :: r) g := eb_iadd hM_X8_next dX8_next_160
theorem s_X8_next_161 : den sc d MX8_next 161 [l0] (.int x :: .ref a :: r) g = mx_pf (g.1 a) 8 4 (fun fs => den sc d MX8_next 164 [l0] (r) (mx_up g a (.inr (8, fs.set 4 (.int x))))) := eb_pf hM_X8_next hC_X8_next rf_8_19 rfl rfl dX8_next_161
theorem s_X8_next_164 : den sc d MX8_next 164 [l0] ([]) g = some (none, g) := eb_retv hM_X8_next hT_X8_next dX8_next_164
end
section
variable {sc : mx_X} {d : Nat} {g : mx_G} {r : List Value} {x y i : Int32} {z x2 y2 : Int64} {a b : Nat} {l0 l1 l2 l3 l4 l5 l6 l7 l8 l9 l10 : Option Value}
theorem s_X8_passWord_0 : den sc d MX8_passWord 0 [some (.ref a)] (r) g = den sc d MX8_passWord 1 [some (.ref a)] (.ref a :: r) g := eb_aload_n hM_X8_passWord rfl dX8_passWord_0
theorem s_X8_passWord_1 : den sc d MX8_passWord 1 [l0] (.ref a :: r) g = mx_gf (g.1 a) 8 4 (fun v => den sc d MX8_passWord 4 [l0] (v :: r) g) := eb_gf hM_X8_passWord hC_X8_passWord rf_8_19 dX8_passWord_1
theorem s_X8_passWord_4 : den sc d MX8_passWord 4 [some (.ref a)] (r) g = den sc d MX8_passWord 5 [some (.ref a)] (.ref a :: r) g := eb_aload_n hM_X8_passWord rfl dX8_passWord_4
theorem s_X8_passWord_5 : den sc d MX8_passWord 5 [l0] (.ref a :: r) g = mx_gf (g.1 a) 8 0 (fun v => den sc d MX8_passWord 8 [l0] (v :: r) g) := eb_gf hM_X8_passWord hC_X8_passWord rf_8_9 dX8_passWord_5
theorem s_X8_passWord_8 : den sc d MX8_passWord 8 [l0] (.ref a :: r) g = mx_gf (g.1 a) 7 1 (fun v => den sc d MX8_passWord 11 [l0] (v :: r) g) := eb_gf hM_X8_passWord hC_X8_passWord rf_8_130 dX8_passWord_8
theorem s_X8_passWord_11 : den sc d MX8_passWord 11 [l0] (.int y :: .int x :: r) g = if y ≤ x then den sc d MX8_passWord 38 [l0] (r) g else den sc d MX8_passWord 14 [l0] (r) g := eb_icmp_ge hM_X8_passWord rfl dX8_passWord_11
theorem s_X8_passWord_14 : den sc d MX8_passWord 14 [some (.ref a)] (r) g = den sc d MX8_passWord 15 [some (.ref a)] (.ref a :: r) g := eb_aload_n hM_X8_passWord rfl dX8_passWord_14
theorem s_X8_passWord_15 : den sc d MX8_passWord 15 [some (.ref a)] (r) g = den sc d MX8_passWord 16 [some (.ref a)] (.ref a :: r) g := eb_aload_n hM_X8_passWord rfl dX8_passWord_15
theorem s_X8_passWord_16 : den sc d MX8_passWord 16 [l0] (.ref a :: r) g = mx_gf (g.1 a) 8 4 (fun v => den sc d MX8_passWord 19 [l0] (v :: r) g) := eb_gf hM_X8_passWord hC_X8_passWord rf_8_19 dX8_passWord_16
theorem s_X8_passWord_19 {a0 : Int32} (hrc : mx_rc g a = some 8) : den sc (d + 1) MX8_passWord 19 [l0] (.int a0 :: .ref a :: r) g = mx_ck r (call sc d MX8_isLetter [.ref a, .int a0] g) (fun v g' => den sc (d + 1) MX8_passWord 22 [l0] (v.toList ++ r) g') := eb_virtual hM_X8_passWord hC_X8_passWord rc_8_132_8 (by decide) rfl dX8_passWord_19 rfl rfl rfl rfl hrc
theorem s_X8_passWord_22 : den sc d MX8_passWord 22 [l0] (.int x :: r) g = if x = 0 then den sc d MX8_passWord 38 [l0] (r) g else den sc d MX8_passWord 25 [l0] (r) g := eb_if_eq hM_X8_passWord rfl dX8_passWord_22
theorem s_X8_passWord_25 : den sc d MX8_passWord 25 [some (.ref a)] (r) g = den sc d MX8_passWord 26 [some (.ref a)] (.ref a :: r) g := eb_aload_n hM_X8_passWord rfl dX8_passWord_25
theorem s_X8_passWord_26 : den sc d MX8_passWord 26 [l0] (.ref a :: r) g = den sc d MX8_passWord 27 [l0] (.ref a :: .ref a :: r) g := eb_dupa hM_X8_passWord dX8_passWord_26
theorem s_X8_passWord_26i : den sc d MX8_passWord 26 [l0] (.int x :: r) g = den sc d MX8_passWord 27 [l0] (.int x :: .int x :: r) g := eb_dupi hM_X8_passWord dX8_passWord_26
theorem s_X8_passWord_27 : den sc d MX8_passWord 27 [l0] (.ref a :: r) g = mx_gf (g.1 a) 8 4 (fun v => den sc d MX8_passWord 30 [l0] (v :: r) g) := eb_gf hM_X8_passWord hC_X8_passWord rf_8_19 dX8_passWord_27
theorem s_X8_passWord_30 : den sc d MX8_passWord 30 [l0] (r) g = den sc d MX8_passWord 31 [l0] (.int (1) :: r) g := eb_iconst hM_X8_passWord rfl dX8_passWord_30
theorem s_X8_passWord_31 : den sc d MX8_passWord 31 [l0] (.int y :: .int x :: r) g = den sc d MX8_passWord 32 [l0] (.int (x + y) :: r) g := eb_iadd hM_X8_passWord dX8_passWord_31
theorem s_X8_passWord_32 : den sc d MX8_passWord 32 [l0] (.int x :: .ref a :: r) g = mx_pf (g.1 a) 8 4 (fun fs => den sc d MX8_passWord 35 [l0] (r) (mx_up g a (.inr (8, fs.set 4 (.int x))))) := eb_pf hM_X8_passWord hC_X8_passWord rf_8_19 rfl rfl dX8_passWord_32
theorem s_X8_passWord_35 : den sc d MX8_passWord 35 [l0] (r) g = den sc d MX8_passWord 0 [l0] (r) g := eb_goto hM_X8_passWord rfl dX8_passWord_35
theorem s_X8_passWord_38 : den sc d MX8_passWord 38 [l0] ([]) g = some (none, g) := eb_retv hM_X8_passWord hT_X8_passWord dX8_passWord_38
end
section
variable {sc : mx_X} {d : Nat} {g : mx_G} {r : List Value} {x y i : Int32} {z x2 y2 : Int64} {a b : Nat} {l0 l1 l2 l3 l4 l5 l6 l7 l8 l9 l10 : Option Value}
theorem s_X8_passNumber_0 : den sc d MX8_passNumber 0 [some (.ref a)] (r) g = den sc d MX8_passNumber 1 [some (.ref a)] (.ref a :: r) g := eb_aload_n hM_X8_passNumber rfl dX8_passNumber_0
theorem s_X8_passNumber_1 : den sc d MX8_passNumber 1 [l0] (r) g = den sc d MX8_passNumber 2 [l0] (.int (0) :: r) g := eb_iconst hM_X8_passNumber rfl dX8_passNumber_1
theorem s_X8_passNumber_2 : den sc d MX8_passNumber 2 [l0] (.int x :: .ref a :: r) g = mx_pf (g.1 a) 8 5 (fun fs => den sc d MX8_passNumber 5 [l0] (r) (mx_up g a (.inr (8, fs.set 5 (.int x))))) := eb_pf hM_X8_passNumber hC_X8_passNumber rf_8_76 rfl rfl dX8_passNumber_2
theorem s_X8_passNumber_5 : den sc d MX8_passNumber 5 [some (.ref a)] (r) g = den sc d MX8_passNumber 6 [some (.ref a)] (.ref a :: r) g := eb_aload_n hM_X8_passNumber rfl dX8_passNumber_5
theorem s_X8_passNumber_6 : den sc d MX8_passNumber 6 [l0] (.ref a :: r) g = mx_gf (g.1 a) 8 4 (fun v => den sc d MX8_passNumber 9 [l0] (v :: r) g) := eb_gf hM_X8_passNumber hC_X8_passNumber rf_8_19 dX8_passNumber_6
theorem s_X8_passNumber_9 : den sc d MX8_passNumber 9 [some (.ref a)] (r) g = den sc d MX8_passNumber 10 [some (.ref a)] (.ref a :: r) g := eb_aload_n hM_X8_passNumber rfl dX8_passNumber_9
theorem s_X8_passNumber_10 : den sc d MX8_passNumber 10 [l0] (.ref a :: r) g = mx_gf (g.1 a) 8 0 (fun v => den sc d MX8_passNumber 13 [l0] (v :: r) g) := eb_gf hM_X8_passNumber hC_X8_passNumber rf_8_9 dX8_passNumber_10
theorem s_X8_passNumber_13 : den sc d MX8_passNumber 13 [l0] (.ref a :: r) g = mx_gf (g.1 a) 7 1 (fun v => den sc d MX8_passNumber 16 [l0] (v :: r) g) := eb_gf hM_X8_passNumber hC_X8_passNumber rf_8_130 dX8_passNumber_13
theorem s_X8_passNumber_16 : den sc d MX8_passNumber 16 [l0] (.int y :: .int x :: r) g = if y ≤ x then den sc d MX8_passNumber 76 [l0] (r) g else den sc d MX8_passNumber 19 [l0] (r) g := eb_icmp_ge hM_X8_passNumber rfl dX8_passNumber_16
theorem s_X8_passNumber_19 : den sc d MX8_passNumber 19 [some (.ref a)] (r) g = den sc d MX8_passNumber 20 [some (.ref a)] (.ref a :: r) g := eb_aload_n hM_X8_passNumber rfl dX8_passNumber_19
theorem s_X8_passNumber_20 : den sc d MX8_passNumber 20 [some (.ref a)] (r) g = den sc d MX8_passNumber 21 [some (.ref a)] (.ref a :: r) g := eb_aload_n hM_X8_passNumber rfl dX8_passNumber_20
theorem s_X8_passNumber_21 : den sc d MX8_passNumber 21 [l0] (.ref a :: r) g = mx_gf (g.1 a) 8 4 (fun v => den sc d MX8_passNumber 24 [l0] (v :: r) g) := eb_gf hM_X8_passNumber hC_X8_passNumber rf_8_19 dX8_passNumber_21
theorem s_X8_passNumber_24 {a0 : Int32} (hrc : mx_rc g a = some 8) : den sc (d + 1) MX8_passNumber 24 [l0] (.int a0 :: .ref a :: r) g = mx_ck r (call sc d MX8_isDigit [.ref a, .int a0] g) (fun v g' => den sc (d + 1) MX8_passNumber 27 [l0] (v.toList ++ r) g') := eb_virtual hM_X8_passNumber hC_X8_passNumber rc_8_138_8 (by decide) rfl dX8_passNumber_24 rfl rfl rfl rfl hrc
theorem s_X8_passNumber_27 : den sc d MX8_passNumber 27 [l0] (.int x :: r) g = if x = 0 then den sc d MX8_passNumber 76 [l0] (r) g else den sc d MX8_passNumber 30 [l0] (r) g := eb_if_eq hM_X8_passNumber rfl dX8_passNumber_27
theorem s_X8_passNumber_30 : den sc d MX8_passNumber 30 [some (.ref a)] (r) g = den sc d MX8_passNumber 31 [some (.ref a)] (.ref a :: r) g := eb_aload_n hM_X8_passNumber rfl dX8_passNumber_30
theorem s_X8_passNumber_31 : den sc d MX8_passNumber 31 [some (.ref a)] (r) g = den sc d MX8_passNumber 32 [some (.ref a)] (.ref a :: r) g := eb_aload_n hM_X8_passNumber rfl dX8_passNumber_31
theorem s_X8_passNumber_32 : den sc d MX8_passNumber 32 [l0] (.ref a :: r) g = mx_gf (g.1 a) 8 5 (fun v => den sc d MX8_passNumber 35 [l0] (v :: r) g) := eb_gf hM_X8_passNumber hC_X8_passNumber rf_8_76 dX8_passNumber_32
theorem s_X8_passNumber_35 : den sc d MX8_passNumber 35 [l0] (r) g = den sc d MX8_passNumber 37 [l0] (.int (10) :: r) g := eb_bipush hM_X8_passNumber rfl dX8_passNumber_35
theorem s_X8_passNumber_37 : den sc d MX8_passNumber 37 [l0] (.int y :: .int x :: r) g = den sc d MX8_passNumber 38 [l0] (.int (x * y) :: r) g := eb_imul hM_X8_passNumber dX8_passNumber_37
theorem s_X8_passNumber_38 : den sc d MX8_passNumber 38 [some (.ref a)] (r) g = den sc d MX8_passNumber 39 [some (.ref a)] (.ref a :: r) g := eb_aload_n hM_X8_passNumber rfl dX8_passNumber_38
theorem s_X8_passNumber_39 : den sc d MX8_passNumber 39 [l0] (.ref a :: r) g = mx_gf (g.1 a) 8 0 (fun v => den sc d MX8_passNumber 42 [l0] (v :: r) g) := eb_gf hM_X8_passNumber hC_X8_passNumber rf_8_9 dX8_passNumber_39
theorem s_X8_passNumber_42 : den sc d MX8_passNumber 42 [l0] (.ref a :: r) g = mx_gf (g.1 a) 7 0 (fun v => den sc d MX8_passNumber 45 [l0] (v :: r) g) := eb_gf hM_X8_passNumber hC_X8_passNumber rf_8_105 dX8_passNumber_42
theorem s_X8_passNumber_45 : den sc d MX8_passNumber 45 [some (.ref a)] (r) g = den sc d MX8_passNumber 46 [some (.ref a)] (.ref a :: r) g := eb_aload_n hM_X8_passNumber rfl dX8_passNumber_45
theorem s_X8_passNumber_46 : den sc d MX8_passNumber 46 [l0] (.ref a :: r) g = mx_gf (g.1 a) 8 4 (fun v => den sc d MX8_passNumber 49 [l0] (v :: r) g) := eb_gf hM_X8_passNumber hC_X8_passNumber rf_8_19 dX8_passNumber_46
theorem s_X8_passNumber_49 : den sc d MX8_passNumber 49 [l0] (.int i :: .ref a :: r) g = mx_ai (mx_av sc g a) i (fun _ f => den sc d MX8_passNumber 50 [l0] (.int (f i.toNatClampNeg) :: r) g) := eb_iald hM_X8_passNumber dX8_passNumber_49
theorem s_X8_passNumber_50 : den sc d MX8_passNumber 50 [l0] (.int y :: .int x :: r) g = den sc d MX8_passNumber 51 [l0] (.int (x + y) :: r) g := eb_iadd hM_X8_passNumber dX8_passNumber_50
theorem s_X8_passNumber_51 : den sc d MX8_passNumber 51 [l0] (r) g = den sc d MX8_passNumber 53 [l0] (.int (48) :: r) g := eb_bipush hM_X8_passNumber rfl dX8_passNumber_51
theorem s_X8_passNumber_53 : den sc d MX8_passNumber 53 [l0] (.int y :: .int x :: r) g = den sc d MX8_passNumber 54 [l0] (.int (x - y) :: r) g := eb_isub hM_X8_passNumber dX8_passNumber_53
theorem s_X8_passNumber_54 : den sc d MX8_passNumber 54 [l0] (r) g = den sc d MX8_passNumber 57 [l0] (.int (1000) :: r) g := eb_sipush hM_X8_passNumber rfl dX8_passNumber_54
theorem s_X8_passNumber_57 : den sc d MX8_passNumber 57 [l0] (.int y :: .int x :: r) g = if r.length ≤ 4 then den sc d MX8_passNumber 60 [l0] (.int (if y < x then y else x) :: r) g else none := eb_min hM_X8_passNumber hC_X8_passNumber rfl rfl dX8_passNumber_57
theorem s_X8_passNumber_60 : den sc d MX8_passNumber 60 [l0] (.int x :: .ref a :: r) g = mx_pf (g.1 a) 8 5 (fun fs => den sc d MX8_passNumber 63 [l0] (r) (mx_up g a (.inr (8, fs.set 5 (.int x))))) := eb_pf hM_X8_passNumber hC_X8_passNumber rf_8_76 rfl rfl dX8_passNumber_60
theorem s_X8_passNumber_63 : den sc d MX8_passNumber 63 [some (.ref a)] (r) g = den sc d MX8_passNumber 64 [some (.ref a)] (.ref a :: r) g := eb_aload_n hM_X8_passNumber rfl dX8_passNumber_63
theorem s_X8_passNumber_64 : den sc d MX8_passNumber 64 [l0] (.ref a :: r) g = den sc d MX8_passNumber 65 [l0] (.ref a :: .ref a :: r) g := eb_dupa hM_X8_passNumber dX8_passNumber_64
theorem s_X8_passNumber_64i : den sc d MX8_passNumber 64 [l0] (.int x :: r) g = den sc d MX8_passNumber 65 [l0] (.int x :: .int x :: r) g := eb_dupi hM_X8_passNumber dX8_passNumber_64
theorem s_X8_passNumber_65 : den sc d MX8_passNumber 65 [l0] (.ref a :: r) g = mx_gf (g.1 a) 8 4 (fun v => den sc d MX8_passNumber 68 [l0] (v :: r) g) := eb_gf hM_X8_passNumber hC_X8_passNumber rf_8_19 dX8_passNumber_65
theorem s_X8_passNumber_68 : den sc d MX8_passNumber 68 [l0] (r) g = den sc d MX8_passNumber 69 [l0] (.int (1) :: r) g := eb_iconst hM_X8_passNumber rfl dX8_passNumber_68
theorem s_X8_passNumber_69 : den sc d MX8_passNumber 69 [l0] (.int y :: .int x :: r) g = den sc d MX8_passNumber 70 [l0] (.int (x + y) :: r) g := eb_iadd hM_X8_passNumber dX8_passNumber_69
theorem s_X8_passNumber_70 : den sc d MX8_passNumber 70 [l0] (.int x :: .ref a :: r) g = mx_pf (g.1 a) 8 4 (fun fs => den sc d MX8_passNumber 73 [l0] (r) (mx_up g a (.inr (8, fs.set 4 (.int x))))) := eb_pf hM_X8_passNumber hC_X8_passNumber rf_8_19 rfl rfl dX8_passNumber_70
theorem s_X8_passNumber_73 : den sc d MX8_passNumber 73 [l0] (r) g = den sc d MX8_passNumber 5 [l0] (r) g := eb_goto hM_X8_passNumber rfl dX8_passNumber_73
theorem s_X8_passNumber_76 : den sc d MX8_passNumber 76 [l0] ([]) g = some (none, g) := eb_retv hM_X8_passNumber hT_X8_passNumber dX8_passNumber_76
end
section
variable {sc : mx_X} {d : Nat} {g : mx_G} {r : List Value} {x y i : Int32} {z x2 y2 : Int64} {a b : Nat} {l0 l1 l2 l3 l4 l5 l6 l7 l8 l9 l10 : Option Value}
theorem s_X8_isLetter_0 : den sc d MX8_isLetter 0 [some (.ref a), l1] (r) g = den sc d MX8_isLetter 1 [some (.ref a), l1] (.ref a :: r) g := eb_aload_n hM_X8_isLetter rfl dX8_isLetter_0
theorem s_X8_isLetter_1 : den sc d MX8_isLetter 1 [l0, l1] (.ref a :: r) g = mx_gf (g.1 a) 8 0 (fun v => den sc d MX8_isLetter 4 [l0, l1] (v :: r) g) := eb_gf hM_X8_isLetter hC_X8_isLetter rf_8_9 dX8_isLetter_1
theorem s_X8_isLetter_4 : den sc d MX8_isLetter 4 [l0, l1] (.ref a :: r) g = mx_gf (g.1 a) 7 0 (fun v => den sc d MX8_isLetter 7 [l0, l1] (v :: r) g) := eb_gf hM_X8_isLetter hC_X8_isLetter rf_8_105 dX8_isLetter_4
theorem s_X8_isLetter_7 : den sc d MX8_isLetter 7 [l0, some (.int x)] (r) g = den sc d MX8_isLetter 8 [l0, some (.int x)] (.int x :: r) g := eb_iload_n hM_X8_isLetter rfl dX8_isLetter_7
theorem s_X8_isLetter_8 : den sc d MX8_isLetter 8 [l0, l1] (.int i :: .ref a :: r) g = mx_ai (mx_av sc g a) i (fun _ f => den sc d MX8_isLetter 9 [l0, l1] (.int (f i.toNatClampNeg) :: r) g) := eb_iald hM_X8_isLetter dX8_isLetter_8
theorem s_X8_isLetter_9 : den sc d MX8_isLetter 9 [l0, l1] (r) g = den sc d MX8_isLetter 11 [l0, l1] (.int (97) :: r) g := eb_bipush hM_X8_isLetter rfl dX8_isLetter_9
theorem s_X8_isLetter_11 : den sc d MX8_isLetter 11 [l0, l1] (.int y :: .int x :: r) g = if x < y then den sc d MX8_isLetter 32 [l0, l1] (r) g else den sc d MX8_isLetter 14 [l0, l1] (r) g := eb_icmp_lt hM_X8_isLetter rfl dX8_isLetter_11
theorem s_X8_isLetter_14 : den sc d MX8_isLetter 14 [some (.ref a), l1] (r) g = den sc d MX8_isLetter 15 [some (.ref a), l1] (.ref a :: r) g := eb_aload_n hM_X8_isLetter rfl dX8_isLetter_14
theorem s_X8_isLetter_15 : den sc d MX8_isLetter 15 [l0, l1] (.ref a :: r) g = mx_gf (g.1 a) 8 0 (fun v => den sc d MX8_isLetter 18 [l0, l1] (v :: r) g) := eb_gf hM_X8_isLetter hC_X8_isLetter rf_8_9 dX8_isLetter_15
theorem s_X8_isLetter_18 : den sc d MX8_isLetter 18 [l0, l1] (.ref a :: r) g = mx_gf (g.1 a) 7 0 (fun v => den sc d MX8_isLetter 21 [l0, l1] (v :: r) g) := eb_gf hM_X8_isLetter hC_X8_isLetter rf_8_105 dX8_isLetter_18
theorem s_X8_isLetter_21 : den sc d MX8_isLetter 21 [l0, some (.int x)] (r) g = den sc d MX8_isLetter 22 [l0, some (.int x)] (.int x :: r) g := eb_iload_n hM_X8_isLetter rfl dX8_isLetter_21
theorem s_X8_isLetter_22 : den sc d MX8_isLetter 22 [l0, l1] (.int i :: .ref a :: r) g = mx_ai (mx_av sc g a) i (fun _ f => den sc d MX8_isLetter 23 [l0, l1] (.int (f i.toNatClampNeg) :: r) g) := eb_iald hM_X8_isLetter dX8_isLetter_22
theorem s_X8_isLetter_23 : den sc d MX8_isLetter 23 [l0, l1] (r) g = den sc d MX8_isLetter 25 [l0, l1] (.int (122) :: r) g := eb_bipush hM_X8_isLetter rfl dX8_isLetter_23
theorem s_X8_isLetter_25 : den sc d MX8_isLetter 25 [l0, l1] (.int y :: .int x :: r) g = if y < x then den sc d MX8_isLetter 32 [l0, l1] (r) g else den sc d MX8_isLetter 28 [l0, l1] (r) g := eb_icmp_gt hM_X8_isLetter rfl dX8_isLetter_25
theorem s_X8_isLetter_28 : den sc d MX8_isLetter 28 [l0, l1] (r) g = den sc d MX8_isLetter 29 [l0, l1] (.int (1) :: r) g := eb_iconst hM_X8_isLetter rfl dX8_isLetter_28
theorem s_X8_isLetter_29 : den sc d MX8_isLetter 29 [l0, l1] (r) g = den sc d MX8_isLetter 33 [l0, l1] (r) g := eb_goto hM_X8_isLetter rfl dX8_isLetter_29
theorem s_X8_isLetter_32 : den sc d MX8_isLetter 32 [l0, l1] (r) g = den sc d MX8_isLetter 33 [l0, l1] (.int (0) :: r) g := eb_iconst hM_X8_isLetter rfl dX8_isLetter_32
theorem s_X8_isLetter_33 (hn : narrow .boolean (.int x) = .int x) : den sc d MX8_isLetter 33 [l0, l1] ([.int x]) g = some (some (.int x), g) := eb_reti hM_X8_isLetter hT_X8_isLetter hn dX8_isLetter_33
theorem s_X8_isLetter_33_0 : den sc d MX8_isLetter 33 [l0, l1] ([.int 0]) g = some (some (.int 0), g) := eb_reti hM_X8_isLetter hT_X8_isLetter rfl dX8_isLetter_33
theorem s_X8_isLetter_33_1 : den sc d MX8_isLetter 33 [l0, l1] ([.int 1]) g = some (some (.int 1), g) := eb_reti hM_X8_isLetter hT_X8_isLetter rfl dX8_isLetter_33
end
section
variable {sc : mx_X} {d : Nat} {g : mx_G} {r : List Value} {x y i : Int32} {z x2 y2 : Int64} {a b : Nat} {l0 l1 l2 l3 l4 l5 l6 l7 l8 l9 l10 : Option Value}
theorem s_X8_isDigit_0 : den sc d MX8_isDigit 0 [some (.ref a), l1] (r) g = den sc d MX8_isDigit 1 [some (.ref a), l1] (.ref a :: r) g := eb_aload_n hM_X8_isDigit rfl dX8_isDigit_0
theorem s_X8_isDigit_1 : den sc d MX8_isDigit 1 [l0, l1] (.ref a :: r) g = mx_gf (g.1 a) 8 0 (fun v => den sc d MX8_isDigit 4 [l0, l1] (v :: r) g) := eb_gf hM_X8_isDigit hC_X8_isDigit rf_8_9 dX8_isDigit_1
theorem s_X8_isDigit_4 : den sc d MX8_isDigit 4 [l0, l1] (.ref a :: r) g = mx_gf (g.1 a) 7 0 (fun v => den sc d MX8_isDigit 7 [l0, l1] (v :: r) g) := eb_gf hM_X8_isDigit hC_X8_isDigit rf_8_105 dX8_isDigit_4
theorem s_X8_isDigit_7 : den sc d MX8_isDigit 7 [l0, some (.int x)] (r) g = den sc d MX8_isDigit 8 [l0, some (.int x)] (.int x :: r) g := eb_iload_n hM_X8_isDigit rfl dX8_isDigit_7
theorem s_X8_isDigit_8 : den sc d MX8_isDigit 8 [l0, l1] (.int i :: .ref a :: r) g = mx_ai (mx_av sc g a) i (fun _ f => den sc d MX8_isDigit 9 [l0, l1] (.int (f i.toNatClampNeg) :: r) g) := eb_iald hM_X8_isDigit dX8_isDigit_8
theorem s_X8_isDigit_9 : den sc d MX8_isDigit 9 [l0, l1] (r) g = den sc d MX8_isDigit 11 [l0, l1] (.int (48) :: r) g := eb_bipush hM_X8_isDigit rfl dX8_isDigit_9
theorem s_X8_isDigit_11 : den sc d MX8_isDigit 11 [l0, l1] (.int y :: .int x :: r) g = if x < y then den sc d MX8_isDigit 32 [l0, l1] (r) g else den sc d MX8_isDigit 14 [l0, l1] (r) g := eb_icmp_lt hM_X8_isDigit rfl dX8_isDigit_11
theorem s_X8_isDigit_14 : den sc d MX8_isDigit 14 [some (.ref a), l1] (r) g = den sc d MX8_isDigit 15 [some (.ref a), l1] (.ref a :: r) g := eb_aload_n hM_X8_isDigit rfl dX8_isDigit_14
theorem s_X8_isDigit_15 : den sc d MX8_isDigit 15 [l0, l1] (.ref a :: r) g = mx_gf (g.1 a) 8 0 (fun v => den sc d MX8_isDigit 18 [l0, l1] (v :: r) g) := eb_gf hM_X8_isDigit hC_X8_isDigit rf_8_9 dX8_isDigit_15
theorem s_X8_isDigit_18 : den sc d MX8_isDigit 18 [l0, l1] (.ref a :: r) g = mx_gf (g.1 a) 7 0 (fun v => den sc d MX8_isDigit 21 [l0, l1] (v :: r) g) := eb_gf hM_X8_isDigit hC_X8_isDigit rf_8_105 dX8_isDigit_18
theorem s_X8_isDigit_21 : den sc d MX8_isDigit 21 [l0, some (.int x)] (r) g = den sc d MX8_isDigit 22 [l0, some (.int x)] (.int x :: r) g := eb_iload_n hM_X8_isDigit rfl dX8_isDigit_21
theorem s_X8_isDigit_22 : den sc d MX8_isDigit 22 [l0, l1] (.int i :: .ref a :: r) g = mx_ai (mx_av sc g a) i (fun _ f => den sc d MX8_isDigit 23 [l0, l1] (.int (f i.toNatClampNeg) :: r) g) := eb_iald hM_X8_isDigit dX8_isDigit_22
theorem s_X8_isDigit_23 : den sc d MX8_isDigit 23 [l0, l1] (r) g = den sc d MX8_isDigit 25 [l0, l1] (.int (57) :: r) g := eb_bipush hM_X8_isDigit rfl dX8_isDigit_23
theorem s_X8_isDigit_25 : den sc d MX8_isDigit 25 [l0, l1] (.int y :: .int x :: r) g = if y < x then den sc d MX8_isDigit 32 [l0, l1] (r) g else den sc d MX8_isDigit 28 [l0, l1] (r) g := eb_icmp_gt hM_X8_isDigit rfl dX8_isDigit_25
theorem s_X8_isDigit_28 : den sc d MX8_isDigit 28 [l0, l1] (r) g = den sc d MX8_isDigit 29 [l0, l1] (.int (1) :: r) g := eb_iconst hM_X8_isDigit rfl dX8_isDigit_28
theorem s_X8_isDigit_29 : den sc d MX8_isDigit 29 [l0, l1] (r) g = den sc d MX8_isDigit 33 [l0, l1] (r) g := eb_goto hM_X8_isDigit rfl dX8_isDigit_29
theorem s_X8_isDigit_32 : den sc d MX8_isDigit 32 [l0, l1] (r) g = den sc d MX8_isDigit 33 [l0, l1] (.int (0) :: r) g := eb_iconst hM_X8_isDigit rfl dX8_isDigit_32
theorem s_X8_isDigit_33 (hn : narrow .boolean (.int x) = .int x) : den sc d MX8_isDigit 33 [l0, l1] ([.int x]) g = some (some (.int x), g) := eb_reti hM_X8_isDigit hT_X8_isDigit hn dX8_isDigit_33
theorem s_X8_isDigit_33_0 : den sc d MX8_isDigit 33 [l0, l1] ([.int 0]) g = some (some (.int 0), g) := eb_reti hM_X8_isDigit hT_X8_isDigit rfl dX8_isDigit_33
theorem s_X8_isDigit_33_1 : den sc d MX8_isDigit 33 [l0, l1] ([.int 1]) g = some (some (.int 1), g) := eb_reti hM_X8_isDigit hT_X8_isDigit rfl dX8_isDigit_33
end
section
variable {sc : mx_X} {d : Nat} {g : mx_G} {r : List Value} {x y i : Int32} {z x2 y2 : Int64} {a b : Nat} {l0 l1 l2 l3 l4 l5 l6 l7 l8 l9 l10 : Option Value}
theorem s_X9_init_0 : den sc d MX9_init 0 [some (.ref a)] (r) g = den sc d MX9_init 1 [some (.ref a)] (.ref a :: r) g := eb_aload_n hM_X9_init rfl dX9_init_0
theorem s_X9_init_1 : den sc (d + 1) MX9_init 1 [l0] (.ref a :: r) g = mx_ob (g.1 a) (fun _ => mx_ck r (call sc d MX4_init [.ref a] g) (fun v g' => den sc (d + 1) MX9_init 4 [l0] (v.toList ++ r) g')) := eb_special hM_X9_init hC_X9_init rc_9_3_100 (by decide) rfl dX9_init_1 rfl rfl rfl rfl
theorem s_X9_init_4 : den sc d MX9_init 4 [l0] ([]) g = some (none, g) := eb_retv hM_X9_init hT_X9_init dX9_init_4
end
section
variable {sc : mx_X} {d : Nat} {g : mx_G} {r : List Value} {x y i : Int32} {z x2 y2 : Int64} {a b : Nat} {l0 l1 l2 l3 l4 l5 l6 l7 l8 l9 l10 : Option Value}
theorem s_X9_shows_0 : den sc d MX9_shows 0 [l0, l1, some (.int x), l3] (r) g = den sc d MX9_shows 1 [l0, l1, some (.int x), l3] (.int x :: r) g := eb_iload_n hM_X9_shows rfl dX9_shows_0
theorem s_X9_shows_1 : den sc d MX9_shows 1 [l0, l1, l2, l3] (r) g = den sc d MX9_shows 3 [l0, l1, l2, l3] (.int (49) :: r) g := eb_bipush hM_X9_shows rfl dX9_shows_1
theorem s_X9_shows_3 : den sc d MX9_shows 3 [l0, l1, l2, l3] (.int y :: .int x :: r) g = if y ≤ x then den sc d MX9_shows 10 [l0, l1, l2, l3] (r) g else den sc d MX9_shows 6 [l0, l1, l2, l3] (r) g := eb_icmp_ge hM_X9_shows rfl dX9_shows_3
theorem s_X9_shows_6 : den sc d MX9_shows 6 [l0, l1, l2, l3] (r) g = den sc d MX9_shows 7 [l0, l1, l2, l3] (.int (0) :: r) g := eb_iconst hM_X9_shows rfl dX9_shows_6
theorem s_X9_shows_7 : den sc d MX9_shows 7 [l0, l1, l2, l3] (r) g = den sc d MX9_shows 17 [l0, l1, l2, l3] (r) g := eb_goto hM_X9_shows rfl dX9_shows_7
theorem s_X9_shows_10 : den sc d MX9_shows 10 [some (.ref a), l1, l2, l3] (r) g = den sc d MX9_shows 11 [some (.ref a), l1, l2, l3] (.ref a :: r) g := eb_aload_n hM_X9_shows rfl dX9_shows_10
theorem s_X9_shows_11 : den sc d MX9_shows 11 [l0, some (.int x), l2, l3] (r) g = den sc d MX9_shows 12 [l0, some (.int x), l2, l3] (.int x :: r) g := eb_iload_n hM_X9_shows rfl dX9_shows_11
theorem s_X9_shows_12 : den sc d MX9_shows 12 [l0, l1, some (.int x), l3] (r) g = den sc d MX9_shows 13 [l0, l1, some (.int x), l3] (.int x :: r) g := eb_iload_n hM_X9_shows rfl dX9_shows_12
theorem s_X9_shows_13 : den sc d MX9_shows 13 [l0, l1, l2, some (.ref a)] (r) g = den sc d MX9_shows 14 [l0, l1, l2, some (.ref a)] (.ref a :: r) g := eb_aload_n hM_X9_shows rfl dX9_shows_13
theorem s_X9_shows_14 {a0 : Int32} {a1 : Int32} {a2 : Nat} : den sc (d + 1) MX9_shows 14 [l0, l1, l2, l3] (.ref a2 :: .int a1 :: .int a0 :: .ref a :: r) g = mx_ob (g.1 a) (fun _ => mx_ck r (call sc d MX3_shows [.ref a, .int a0, .int a1, .ref a2] g) (fun v g' => den sc (d + 1) MX9_shows 17 [l0, l1, l2, l3] (v.toList ++ r) g')) := eb_special hM_X9_shows hC_X9_shows rc_9_9_100 (by decide) rfl dX9_shows_14 rfl rfl rfl rfl
theorem s_X9_shows_17 : den sc d MX9_shows 17 [l0, l1, l2, l3] ([.int x]) g = some (some (.int x), g) := eb_reti hM_X9_shows hT_X9_shows rfl dX9_shows_17
end
section
variable {sc : mx_X} {d : Nat} {g : mx_G} {r : List Value} {x y i : Int32} {z x2 y2 : Int64} {a b : Nat} {l0 l1 l2 l3 l4 l5 l6 l7 l8 l9 l10 : Option Value}
theorem s_X9_taken_0 : den sc d MX9_taken 0 [some (.ref a), l1, l2, l3, l4] (r) g = den sc d MX9_taken 1 [some (.ref a), l1, l2, l3, l4] (.ref a :: r) g := eb_aload_n hM_X9_taken rfl dX9_taken_0
theorem s_X9_taken_1 : den sc d MX9_taken 1 [l0, some (.int x), l2, l3, l4] (r) g = den sc d MX9_taken 2 [l0, some (.int x), l2, l3, l4] (.int x :: r) g := eb_iload_n hM_X9_taken rfl dX9_taken_1
theorem s_X9_taken_2 : den sc d MX9_taken 2 [l0, l1, some (.ref a), l3, l4] (r) g = den sc d MX9_taken 3 [l0, l1, some (.ref a), l3, l4] (.ref a :: r) g := eb_aload_n hM_X9_taken rfl dX9_taken_2
theorem s_X9_taken_3 {a0 : Int32} {a1 : Nat} : den sc (d + 1) MX9_taken 3 [l0, l1, l2, l3, l4] (.ref a1 :: .int a0 :: .ref a :: r) g = mx_ob (g.1 a) (fun _ => mx_ck r (call sc d MX4_taken [.ref a, .int a0, .ref a1] g) (fun v g' => den sc (d + 1) MX9_taken 6 [l0, l1, l2, l3, l4] (v.toList ++ r) g')) := eb_special hM_X9_taken hC_X9_taken rc_9_13_100 (by decide) rfl dX9_taken_3 rfl rfl rfl rfl
theorem s_X9_taken_6 {n2 : Nat} : den sc d MX9_taken 6 [l0, l1, some (.ref n2), l3, l4] (.int x :: r) g = den sc d MX9_taken 7 [l0, l1, some (.ref n2), some (.int x), l4] (r) g := eb_istore_n hM_X9_taken (Nat.le_of_ble_eq_true rfl) rfl dX9_taken_6
theorem s_X9_taken_7 : den sc d MX9_taken 7 [l0, some (.int x), l2, l3, l4] (r) g = den sc d MX9_taken 8 [l0, some (.int x), l2, l3, l4] (.int x :: r) g := eb_iload_n hM_X9_taken rfl dX9_taken_7
theorem s_X9_taken_8 : den sc d MX9_taken 8 [l0, l1, l2, some (.int x), l4] (r) g = den sc d MX9_taken 9 [l0, l1, l2, some (.int x), l4] (.int x :: r) g := eb_iload_n hM_X9_taken rfl dX9_taken_8
theorem s_X9_taken_9 {a0 : Int32} : den sc (d + 1) MX9_taken 9 [l0, l1, l2, l3, l4] (.int a0 :: r) g = mx_ck r (call sc d MX10_setOf [.int a0] g) (fun v g' => den sc (d + 1) MX9_taken 12 [l0, l1, l2, l3, l4] (v.toList ++ r) g') := eb_static hM_X9_taken hC_X9_taken rc_9_17_100 rfl rfl rfl dX9_taken_9 rfl rfl rfl rfl
theorem s_X9_taken_12 : den sc d MX9_taken 12 [l0, l1, l2, l3, l4] (r) g = den sc d MX9_taken 13 [l0, l1, l2, l3, l4] (.int (-1) :: r) g := eb_iconst hM_X9_taken rfl dX9_taken_12
theorem s_X9_taken_13 : den sc d MX9_taken 13 [l0, l1, l2, l3, l4] (.int y :: .int x :: r) g = den sc d MX9_taken 14 [l0, l1, l2, l3, l4] (.int (x ^^^ y) :: r) g := eb_ixor hM_X9_taken dX9_taken_13
theorem s_X9_taken_14 : den sc d MX9_taken 14 [l0, l1, l2, l3, l4] (.int y :: .int x :: r) g = den sc d MX9_taken 15 [l0, l1, l2, l3, l4] (.int (x &&& y) :: r) g := eb_iand hM_X9_taken dX9_taken_14
theorem s_X9_taken_15 {n3 : Int32} : den sc d MX9_taken 15 [l0, l1, l2, some (.int n3), l4] (.int x :: r) g = den sc d MX9_taken 17 [l0, l1, l2, some (.int n3), some (.int x)] (r) g := eb_istore hM_X9_taken (Nat.le_of_ble_eq_true rfl) rfl dX9_taken_15
theorem s_X9_taken_17 : den sc d MX9_taken 17 [l0, l1, l2, l3, some (.int x)] (r) g = den sc d MX9_taken 19 [l0, l1, l2, l3, some (.int x)] (.int x :: r) g := eb_iload hM_X9_taken rfl dX9_taken_17
theorem s_X9_taken_19 : den sc d MX9_taken 19 [l0, l1, l2, l3, l4] (.int x :: r) g = if x = 0 then den sc d MX9_taken 22 [l0, l1, l2, l3, l4] (r) g else den sc d MX9_taken 26 [l0, l1, l2, l3, l4] (r) g := eb_if_ne hM_X9_taken rfl dX9_taken_19
theorem s_X9_taken_22 : den sc d MX9_taken 22 [l0, l1, l2, some (.int x), l4] (r) g = den sc d MX9_taken 23 [l0, l1, l2, some (.int x), l4] (.int x :: r) g := eb_iload_n hM_X9_taken rfl dX9_taken_22
theorem s_X9_taken_23 : den sc d MX9_taken 23 [l0, l1, l2, l3, l4] (r) g = den sc d MX9_taken 32 [l0, l1, l2, l3, l4] (r) g := eb_goto hM_X9_taken rfl dX9_taken_23
theorem s_X9_taken_26 : den sc d MX9_taken 26 [l0, l1, l2, l3, some (.int x)] (r) g = den sc d MX9_taken 28 [l0, l1, l2, l3, some (.int x)] (.int x :: r) g := eb_iload hM_X9_taken rfl dX9_taken_26
theorem s_X9_taken_28 : den sc d MX9_taken 28 [l0, l1, some (.ref a), l3, l4] (r) g = den sc d MX9_taken 29 [l0, l1, some (.ref a), l3, l4] (.ref a :: r) g := eb_aload_n hM_X9_taken rfl dX9_taken_28
theorem s_X9_taken_29 {a0 : Int32} {a1 : Nat} : den sc (d + 1) MX9_taken 29 [l0, l1, l2, l3, l4] (.ref a1 :: .int a0 :: r) g = mx_ck r (call sc d MX10_worstIn [.int a0, .ref a1] g) (fun v g' => den sc (d + 1) MX9_taken 32 [l0, l1, l2, l3, l4] (v.toList ++ r) g') := eb_static hM_X9_taken hC_X9_taken rc_9_21_100 rfl rfl rfl dX9_taken_29 rfl rfl rfl rfl
theorem s_X9_taken_32 : den sc d MX9_taken 32 [l0, l1, l2, l3, l4] ([.int x]) g = some (some (.int x), g) := eb_reti hM_X9_taken hT_X9_taken rfl dX9_taken_32
end
section
variable {sc : mx_X} {d : Nat} {g : mx_G} {r : List Value} {x y i : Int32} {z x2 y2 : Int64} {a b : Nat} {l0 l1 l2 l3 l4 l5 l6 l7 l8 l9 l10 : Option Value}
theorem s_X9_finds_0 : den sc d MX9_finds 0 [l0, l1] (r) g = den sc d MX9_finds 1 [l0, l1] (.int (-1) :: r) g := eb_iconst hM_X9_finds rfl dX9_finds_0
theorem s_X9_finds_1 : den sc d MX9_finds 1 [l0, l1] ([.int x]) g = some (some (.int x), g) := eb_reti hM_X9_finds hT_X9_finds rfl dX9_finds_1
end
section
variable {sc : mx_X} {d : Nat} {g : mx_G} {r : List Value} {x y i : Int32} {z x2 y2 : Int64} {a b : Nat} {l0 l1 l2 l3 l4 l5 l6 l7 l8 l9 l10 : Option Value}
theorem s_J6_bitCount_0f7a4_0 : den sc d MJ6_bitCount_0f7a4 0 [some (.int x)] (r) g = den sc d MJ6_bitCount_0f7a4 1 [some (.int x)] (.int x :: r) g := eb_iload_n hM_J6_bitCount_0f7a4 rfl dJ6_bitCount_0f7a4_0
theorem s_J6_bitCount_0f7a4_1 : den sc d MJ6_bitCount_0f7a4 1 [some (.int x)] (r) g = den sc d MJ6_bitCount_0f7a4 2 [some (.int x)] (.int x :: r) g := eb_iload_n hM_J6_bitCount_0f7a4 rfl dJ6_bitCount_0f7a4_1
theorem s_J6_bitCount_0f7a4_2 : den sc d MJ6_bitCount_0f7a4 2 [l0] (r) g = den sc d MJ6_bitCount_0f7a4 3 [l0] (.int (1) :: r) g := eb_iconst hM_J6_bitCount_0f7a4 rfl dJ6_bitCount_0f7a4_2
theorem s_J6_bitCount_0f7a4_3 : den sc d MJ6_bitCount_0f7a4 3 [l0] (.int y :: .int x :: r) g = den sc d MJ6_bitCount_0f7a4 4 [l0] (.int ((x.toUInt32 >>> (y.toUInt32 &&& Int32.toUInt32 31)).toInt32) :: r) g := eb_iushr hM_J6_bitCount_0f7a4 dJ6_bitCount_0f7a4_3
theorem s_J6_bitCount_0f7a4_4 : den sc d MJ6_bitCount_0f7a4 4 [l0] (r) g = den sc d MJ6_bitCount_0f7a4 7 [l0] (.int (1431655765) :: r) g := eb_ldcw hM_J6_bitCount_0f7a4 hC_J6_bitCount_0f7a4 rl_26_265 dJ6_bitCount_0f7a4_4
theorem s_J6_bitCount_0f7a4_7 : den sc d MJ6_bitCount_0f7a4 7 [l0] (.int y :: .int x :: r) g = den sc d MJ6_bitCount_0f7a4 8 [l0] (.int (x &&& y) :: r) g := eb_iand hM_J6_bitCount_0f7a4 dJ6_bitCount_0f7a4_7
theorem s_J6_bitCount_0f7a4_8 : den sc d MJ6_bitCount_0f7a4 8 [l0] (.int y :: .int x :: r) g = den sc d MJ6_bitCount_0f7a4 9 [l0] (.int (x - y) :: r) g := eb_isub hM_J6_bitCount_0f7a4 dJ6_bitCount_0f7a4_8
theorem s_J6_bitCount_0f7a4_9 {n0 : Int32} : den sc d MJ6_bitCount_0f7a4 9 [some (.int n0)] (.int x :: r) g = den sc d MJ6_bitCount_0f7a4 10 [some (.int x)] (r) g := eb_istore_n hM_J6_bitCount_0f7a4 (Nat.le_of_ble_eq_true rfl) rfl dJ6_bitCount_0f7a4_9
theorem s_J6_bitCount_0f7a4_10 : den sc d MJ6_bitCount_0f7a4 10 [some (.int x)] (r) g = den sc d MJ6_bitCount_0f7a4 11 [some (.int x)] (.int x :: r) g := eb_iload_n hM_J6_bitCount_0f7a4 rfl dJ6_bitCount_0f7a4_10
theorem s_J6_bitCount_0f7a4_11 : den sc d MJ6_bitCount_0f7a4 11 [l0] (r) g = den sc d MJ6_bitCount_0f7a4 14 [l0] (.int (858993459) :: r) g := eb_ldcw hM_J6_bitCount_0f7a4 hC_J6_bitCount_0f7a4 rl_26_266 dJ6_bitCount_0f7a4_11
theorem s_J6_bitCount_0f7a4_14 : den sc d MJ6_bitCount_0f7a4 14 [l0] (.int y :: .int x :: r) g = den sc d MJ6_bitCount_0f7a4 15 [l0] (.int (x &&& y) :: r) g := eb_iand hM_J6_bitCount_0f7a4 dJ6_bitCount_0f7a4_14
theorem s_J6_bitCount_0f7a4_15 : den sc d MJ6_bitCount_0f7a4 15 [some (.int x)] (r) g = den sc d MJ6_bitCount_0f7a4 16 [some (.int x)] (.int x :: r) g := eb_iload_n hM_J6_bitCount_0f7a4 rfl dJ6_bitCount_0f7a4_15
theorem s_J6_bitCount_0f7a4_16 : den sc d MJ6_bitCount_0f7a4 16 [l0] (r) g = den sc d MJ6_bitCount_0f7a4 17 [l0] (.int (2) :: r) g := eb_iconst hM_J6_bitCount_0f7a4 rfl dJ6_bitCount_0f7a4_16
theorem s_J6_bitCount_0f7a4_17 : den sc d MJ6_bitCount_0f7a4 17 [l0] (.int y :: .int x :: r) g = den sc d MJ6_bitCount_0f7a4 18 [l0] (.int ((x.toUInt32 >>> (y.toUInt32 &&& Int32.toUInt32 31)).toInt32) :: r) g := eb_iushr hM_J6_bitCount_0f7a4 dJ6_bitCount_0f7a4_17
theorem s_J6_bitCount_0f7a4_18 : den sc d MJ6_bitCount_0f7a4 18 [l0] (r) g = den sc d MJ6_bitCount_0f7a4 21 [l0] (.int (858993459) :: r) g := eb_ldcw hM_J6_bitCount_0f7a4 hC_J6_bitCount_0f7a4 rl_26_266 dJ6_bitCount_0f7a4_18
theorem s_J6_bitCount_0f7a4_21 : den sc d MJ6_bitCount_0f7a4 21 [l0] (.int y :: .int x :: r) g = den sc d MJ6_bitCount_0f7a4 22 [l0] (.int (x &&& y) :: r) g := eb_iand hM_J6_bitCount_0f7a4 dJ6_bitCount_0f7a4_21
theorem s_J6_bitCount_0f7a4_22 : den sc d MJ6_bitCount_0f7a4 22 [l0] (.int y :: .int x :: r) g = den sc d MJ6_bitCount_0f7a4 23 [l0] (.int (x + y) :: r) g := eb_iadd hM_J6_bitCount_0f7a4 dJ6_bitCount_0f7a4_22
theorem s_J6_bitCount_0f7a4_23 {n0 : Int32} : den sc d MJ6_bitCount_0f7a4 23 [some (.int n0)] (.int x :: r) g = den sc d MJ6_bitCount_0f7a4 24 [some (.int x)] (r) g := eb_istore_n hM_J6_bitCount_0f7a4 (Nat.le_of_ble_eq_true rfl) rfl dJ6_bitCount_0f7a4_23
theorem s_J6_bitCount_0f7a4_24 : den sc d MJ6_bitCount_0f7a4 24 [some (.int x)] (r) g = den sc d MJ6_bitCount_0f7a4 25 [some (.int x)] (.int x :: r) g := eb_iload_n hM_J6_bitCount_0f7a4 rfl dJ6_bitCount_0f7a4_24
theorem s_J6_bitCount_0f7a4_25 : den sc d MJ6_bitCount_0f7a4 25 [some (.int x)] (r) g = den sc d MJ6_bitCount_0f7a4 26 [some (.int x)] (.int x :: r) g := eb_iload_n hM_J6_bitCount_0f7a4 rfl dJ6_bitCount_0f7a4_25
theorem s_J6_bitCount_0f7a4_26 : den sc d MJ6_bitCount_0f7a4 26 [l0] (r) g = den sc d MJ6_bitCount_0f7a4 27 [l0] (.int (4) :: r) g := eb_iconst hM_J6_bitCount_0f7a4 rfl dJ6_bitCount_0f7a4_26
theorem s_J6_bitCount_0f7a4_27 : den sc d MJ6_bitCount_0f7a4 27 [l0] (.int y :: .int x :: r) g = den sc d MJ6_bitCount_0f7a4 28 [l0] (.int ((x.toUInt32 >>> (y.toUInt32 &&& Int32.toUInt32 31)).toInt32) :: r) g := eb_iushr hM_J6_bitCount_0f7a4 dJ6_bitCount_0f7a4_27
theorem s_J6_bitCount_0f7a4_28 : den sc d MJ6_bitCount_0f7a4 28 [l0] (.int y :: .int x :: r) g = den sc d MJ6_bitCount_0f7a4 29 [l0] (.int (x + y) :: r) g := eb_iadd hM_J6_bitCount_0f7a4 dJ6_bitCount_0f7a4_28
theorem s_J6_bitCount_0f7a4_29 : den sc d MJ6_bitCount_0f7a4 29 [l0] (r) g = den sc d MJ6_bitCount_0f7a4 32 [l0] (.int (252645135) :: r) g := eb_ldcw hM_J6_bitCount_0f7a4 hC_J6_bitCount_0f7a4 rl_26_267 dJ6_bitCount_0f7a4_29
theorem s_J6_bitCount_0f7a4_32 : den sc d MJ6_bitCount_0f7a4 32 [l0] (.int y :: .int x :: r) g = den sc d MJ6_bitCount_0f7a4 33 [l0] (.int (x &&& y) :: r) g := eb_iand hM_J6_bitCount_0f7a4 dJ6_bitCount_0f7a4_32
theorem s_J6_bitCount_0f7a4_33 {n0 : Int32} : den sc d MJ6_bitCount_0f7a4 33 [some (.int n0)] (.int x :: r) g = den sc d MJ6_bitCount_0f7a4 34 [some (.int x)] (r) g := eb_istore_n hM_J6_bitCount_0f7a4 (Nat.le_of_ble_eq_true rfl) rfl dJ6_bitCount_0f7a4_33
theorem s_J6_bitCount_0f7a4_34 : den sc d MJ6_bitCount_0f7a4 34 [some (.int x)] (r) g = den sc d MJ6_bitCount_0f7a4 35 [some (.int x)] (.int x :: r) g := eb_iload_n hM_J6_bitCount_0f7a4 rfl dJ6_bitCount_0f7a4_34
theorem s_J6_bitCount_0f7a4_35 : den sc d MJ6_bitCount_0f7a4 35 [some (.int x)] (r) g = den sc d MJ6_bitCount_0f7a4 36 [some (.int x)] (.int x :: r) g := eb_iload_n hM_J6_bitCount_0f7a4 rfl dJ6_bitCount_0f7a4_35
theorem s_J6_bitCount_0f7a4_36 : den sc d MJ6_bitCount_0f7a4 36 [l0] (r) g = den sc d MJ6_bitCount_0f7a4 38 [l0] (.int (8) :: r) g := eb_bipush hM_J6_bitCount_0f7a4 rfl dJ6_bitCount_0f7a4_36
theorem s_J6_bitCount_0f7a4_38 : den sc d MJ6_bitCount_0f7a4 38 [l0] (.int y :: .int x :: r) g = den sc d MJ6_bitCount_0f7a4 39 [l0] (.int ((x.toUInt32 >>> (y.toUInt32 &&& Int32.toUInt32 31)).toInt32) :: r) g := eb_iushr hM_J6_bitCount_0f7a4 dJ6_bitCount_0f7a4_38
theorem s_J6_bitCount_0f7a4_39 : den sc d MJ6_bitCount_0f7a4 39 [l0] (.int y :: .int x :: r) g = den sc d MJ6_bitCount_0f7a4 40 [l0] (.int (x + y) :: r) g := eb_iadd hM_J6_bitCount_0f7a4 dJ6_bitCount_0f7a4_39
theorem s_J6_bitCount_0f7a4_40 {n0 : Int32} : den sc d MJ6_bitCount_0f7a4 40 [some (.int n0)] (.int x :: r) g = den sc d MJ6_bitCount_0f7a4 41 [some (.int x)] (r) g := eb_istore_n hM_J6_bitCount_0f7a4 (Nat.le_of_ble_eq_true rfl) rfl dJ6_bitCount_0f7a4_40
theorem s_J6_bitCount_0f7a4_41 : den sc d MJ6_bitCount_0f7a4 41 [some (.int x)] (r) g = den sc d MJ6_bitCount_0f7a4 42 [some (.int x)] (.int x :: r) g := eb_iload_n hM_J6_bitCount_0f7a4 rfl dJ6_bitCount_0f7a4_41
theorem s_J6_bitCount_0f7a4_42 : den sc d MJ6_bitCount_0f7a4 42 [some (.int x)] (r) g = den sc d MJ6_bitCount_0f7a4 43 [some (.int x)] (.int x :: r) g := eb_iload_n hM_J6_bitCount_0f7a4 rfl dJ6_bitCount_0f7a4_42
theorem s_J6_bitCount_0f7a4_43 : den sc d MJ6_bitCount_0f7a4 43 [l0] (r) g = den sc d MJ6_bitCount_0f7a4 45 [l0] (.int (16) :: r) g := eb_bipush hM_J6_bitCount_0f7a4 rfl dJ6_bitCount_0f7a4_43
theorem s_J6_bitCount_0f7a4_45 : den sc d MJ6_bitCount_0f7a4 45 [l0] (.int y :: .int x :: r) g = den sc d MJ6_bitCount_0f7a4 46 [l0] (.int ((x.toUInt32 >>> (y.toUInt32 &&& Int32.toUInt32 31)).toInt32) :: r) g := eb_iushr hM_J6_bitCount_0f7a4 dJ6_bitCount_0f7a4_45
theorem s_J6_bitCount_0f7a4_46 : den sc d MJ6_bitCount_0f7a4 46 [l0] (.int y :: .int x :: r) g = den sc d MJ6_bitCount_0f7a4 47 [l0] (.int (x + y) :: r) g := eb_iadd hM_J6_bitCount_0f7a4 dJ6_bitCount_0f7a4_46
theorem s_J6_bitCount_0f7a4_47 {n0 : Int32} : den sc d MJ6_bitCount_0f7a4 47 [some (.int n0)] (.int x :: r) g = den sc d MJ6_bitCount_0f7a4 48 [some (.int x)] (r) g := eb_istore_n hM_J6_bitCount_0f7a4 (Nat.le_of_ble_eq_true rfl) rfl dJ6_bitCount_0f7a4_47
theorem s_J6_bitCount_0f7a4_48 : den sc d MJ6_bitCount_0f7a4 48 [some (.int x)] (r) g = den sc d MJ6_bitCount_0f7a4 49 [some (.int x)] (.int x :: r) g := eb_iload_n hM_J6_bitCount_0f7a4 rfl dJ6_bitCount_0f7a4_48
theorem s_J6_bitCount_0f7a4_49 : den sc d MJ6_bitCount_0f7a4 49 [l0] (r) g = den sc d MJ6_bitCount_0f7a4 51 [l0] (.int (63) :: r) g := eb_bipush hM_J6_bitCount_0f7a4 rfl dJ6_bitCount_0f7a4_49
theorem s_J6_bitCount_0f7a4_51 : den sc d MJ6_bitCount_0f7a4 51 [l0] (.int y :: .int x :: r) g = den sc d MJ6_bitCount_0f7a4 52 [l0] (.int (x &&& y) :: r) g := eb_iand hM_J6_bitCount_0f7a4 dJ6_bitCount_0f7a4_51
theorem s_J6_bitCount_0f7a4_52 : den sc d MJ6_bitCount_0f7a4 52 [l0] ([.int x]) g = some (some (.int x), g) := eb_reti hM_J6_bitCount_0f7a4 hT_J6_bitCount_0f7a4 rfl dJ6_bitCount_0f7a4_52
end
section
variable {sc : mx_X} {d : Nat} {g : mx_G} {r : List Value} {x y i : Int32} {z x2 y2 : Int64} {a b : Nat} {l0 l1 l2 l3 l4 l5 l6 l7 l8 l9 l10 : Option Value}
theorem s_J0_length_8abf5_0 : den sc d MJ0_length_8abf5 0 [some (.ref a)] (r) g = den sc d MJ0_length_8abf5 1 [some (.ref a)] (.ref a :: r) g := eb_aload_n hM_J0_length_8abf5 rfl dJ0_length_8abf5_0
theorem s_J0_length_8abf5_1 (hv : mx_xf 20 9 a = some (.ref (a + 100))) : den sc d MJ0_length_8abf5 1 [l0] (.ref a :: r) g = den sc d MJ0_length_8abf5 4 [l0] (.ref (a + 100) :: r) g := eb_gx hM_J0_length_8abf5 hC_J0_length_8abf5 rfl hv dJ0_length_8abf5_1
theorem s_J0_length_8abf5_4 : den sc d MJ0_length_8abf5 4 [l0] (.ref a :: r) g = mx_le (mx_av sc g a) (fun n => den sc d MJ0_length_8abf5 5 [l0] (.int (Int32.ofNat n) :: r) g) := eb_alen hM_J0_length_8abf5 dJ0_length_8abf5_4
theorem s_J0_length_8abf5_5 : den sc d MJ0_length_8abf5 5 [some (.ref a)] (r) g = den sc d MJ0_length_8abf5 6 [some (.ref a)] (.ref a :: r) g := eb_aload_n hM_J0_length_8abf5 rfl dJ0_length_8abf5_5
theorem s_J0_length_8abf5_6  (hrc : mx_rc g a = some 20) : den sc (d + 1) MJ0_length_8abf5 6 [l0] (.ref a :: r) g = mx_ck r (call sc d MJ0_coder_7d493 [.ref a] g) (fun v g' => den sc (d + 1) MJ0_length_8abf5 9 [l0] (v.toList ++ r) g') := eb_virtual hM_J0_length_8abf5 hC_J0_length_8abf5 rc_20_335_20 (by decide) rfl dJ0_length_8abf5_6 rfl rfl rfl rfl hrc
theorem s_J0_length_8abf5_9 : den sc d MJ0_length_8abf5 9 [l0] (.int y :: .int x :: r) g = den sc d MJ0_length_8abf5 10 [l0] (.int (x >>> (y &&& 31)) :: r) g := eb_ishr hM_J0_length_8abf5 dJ0_length_8abf5_9
theorem s_J0_length_8abf5_10 : den sc d MJ0_length_8abf5 10 [l0] ([.int x]) g = some (some (.int x), g) := eb_reti hM_J0_length_8abf5 hT_J0_length_8abf5 rfl dJ0_length_8abf5_10
end
section
variable {sc : mx_X} {d : Nat} {g : mx_G} {r : List Value} {x y i : Int32} {z x2 y2 : Int64} {a b : Nat} {l0 l1 l2 l3 l4 l5 l6 l7 l8 l9 l10 : Option Value}
theorem s_J0_charAt_5068e_0 : den sc d MJ0_charAt_5068e 0 [some (.ref a), l1] (r) g = den sc d MJ0_charAt_5068e 1 [some (.ref a), l1] (.ref a :: r) g := eb_aload_n hM_J0_charAt_5068e rfl dJ0_charAt_5068e_0
theorem s_J0_charAt_5068e_1  (hrc : mx_rc g a = some 20) : den sc (d + 1) MJ0_charAt_5068e 1 [l0, l1] (.ref a :: r) g = mx_ck r (call sc d MJ0_isLatin1_aae02 [.ref a] g) (fun v g' => den sc (d + 1) MJ0_charAt_5068e 4 [l0, l1] (v.toList ++ r) g') := eb_virtual hM_J0_charAt_5068e hC_J0_charAt_5068e rc_20_492_20 (by decide) rfl dJ0_charAt_5068e_1 rfl rfl rfl rfl hrc
theorem s_J0_charAt_5068e_4 : den sc d MJ0_charAt_5068e 4 [l0, l1] (.int x :: r) g = if x = 0 then den sc d MJ0_charAt_5068e 16 [l0, l1] (r) g else den sc d MJ0_charAt_5068e 7 [l0, l1] (r) g := eb_if_eq hM_J0_charAt_5068e rfl dJ0_charAt_5068e_4
theorem s_J0_charAt_5068e_7 : den sc d MJ0_charAt_5068e 7 [some (.ref a), l1] (r) g = den sc d MJ0_charAt_5068e 8 [some (.ref a), l1] (.ref a :: r) g := eb_aload_n hM_J0_charAt_5068e rfl dJ0_charAt_5068e_7
theorem s_J0_charAt_5068e_8 (hv : mx_xf 20 9 a = some (.ref (a + 100))) : den sc d MJ0_charAt_5068e 8 [l0, l1] (.ref a :: r) g = den sc d MJ0_charAt_5068e 11 [l0, l1] (.ref (a + 100) :: r) g := eb_gx hM_J0_charAt_5068e hC_J0_charAt_5068e rfl hv dJ0_charAt_5068e_8
theorem s_J0_charAt_5068e_11 : den sc d MJ0_charAt_5068e 11 [l0, some (.int x)] (r) g = den sc d MJ0_charAt_5068e 12 [l0, some (.int x)] (.int x :: r) g := eb_iload_n hM_J0_charAt_5068e rfl dJ0_charAt_5068e_11
theorem s_J0_charAt_5068e_12 {a0 : Nat} {a1 : Int32} : den sc (d + 1) MJ0_charAt_5068e 12 [l0, l1] (.int a1 :: .ref a0 :: r) g = mx_ck r (call sc d MJ1_charAt_3b067 [.ref a0, .int a1] g) (fun v g' => den sc (d + 1) MJ0_charAt_5068e 15 [l0, l1] (v.toList ++ r) g') := eb_static hM_J0_charAt_5068e hC_J0_charAt_5068e rc_20_495_100 rfl rfl rfl dJ0_charAt_5068e_12 rfl rfl rfl rfl
theorem s_J0_charAt_5068e_15 (hn : narrow .char (.int x) = .int x) : den sc d MJ0_charAt_5068e 15 [l0, l1] ([.int x]) g = some (some (.int x), g) := eb_reti hM_J0_charAt_5068e hT_J0_charAt_5068e hn dJ0_charAt_5068e_15
theorem s_J0_charAt_5068e_16 : den sc d MJ0_charAt_5068e 16 [some (.ref a), l1] (r) g = den sc d MJ0_charAt_5068e 17 [some (.ref a), l1] (.ref a :: r) g := eb_aload_n hM_J0_charAt_5068e rfl dJ0_charAt_5068e_16
theorem s_J0_charAt_5068e_17 (hv : mx_xf 20 9 a = some (.ref (a + 100))) : den sc d MJ0_charAt_5068e 17 [l0, l1] (.ref a :: r) g = den sc d MJ0_charAt_5068e 20 [l0, l1] (.ref (a + 100) :: r) g := eb_gx hM_J0_charAt_5068e hC_J0_charAt_5068e rfl hv dJ0_charAt_5068e_17
theorem s_J0_charAt_5068e_20 : den sc d MJ0_charAt_5068e 20 [l0, some (.int x)] (r) g = den sc d MJ0_charAt_5068e 21 [l0, some (.int x)] (.int x :: r) g := eb_iload_n hM_J0_charAt_5068e rfl dJ0_charAt_5068e_20
theorem s_J0_charAt_5068e_24 (hn : narrow .char (.int x) = .int x) : den sc d MJ0_charAt_5068e 24 [l0, l1] ([.int x]) g = some (some (.int x), g) := eb_reti hM_J0_charAt_5068e hT_J0_charAt_5068e hn dJ0_charAt_5068e_24
end
section
variable {sc : mx_X} {d : Nat} {g : mx_G} {r : List Value} {x y i : Int32} {z x2 y2 : Int64} {a b : Nat} {l0 l1 l2 l3 l4 l5 l6 l7 l8 l9 l10 : Option Value}
theorem s_J0_coder_7d493_0 : den sc d MJ0_coder_7d493 0 [l0] (r) g = den sc d MJ0_coder_7d493 3 [l0] (.int 1 :: r) g := eb_gs hM_J0_coder_7d493 hC_J0_coder_7d493 rfl dJ0_coder_7d493_0
theorem s_J0_coder_7d493_3 : den sc d MJ0_coder_7d493 3 [l0] (.int x :: r) g = if x = 0 then den sc d MJ0_coder_7d493 13 [l0] (r) g else den sc d MJ0_coder_7d493 6 [l0] (r) g := eb_if_eq hM_J0_coder_7d493 rfl dJ0_coder_7d493_3
theorem s_J0_coder_7d493_6 : den sc d MJ0_coder_7d493 6 [some (.ref a)] (r) g = den sc d MJ0_coder_7d493 7 [some (.ref a)] (.ref a :: r) g := eb_aload_n hM_J0_coder_7d493 rfl dJ0_coder_7d493_6
theorem s_J0_coder_7d493_7 (hv : mx_xf 20 15 a = some (.int 0)) : den sc d MJ0_coder_7d493 7 [l0] (.ref a :: r) g = den sc d MJ0_coder_7d493 10 [l0] (.int 0 :: r) g := eb_gx hM_J0_coder_7d493 hC_J0_coder_7d493 rfl hv dJ0_coder_7d493_7
theorem s_J0_coder_7d493_10 : den sc d MJ0_coder_7d493 10 [l0] (r) g = den sc d MJ0_coder_7d493 14 [l0] (r) g := eb_goto hM_J0_coder_7d493 rfl dJ0_coder_7d493_10
theorem s_J0_coder_7d493_13 : den sc d MJ0_coder_7d493 13 [l0] (r) g = den sc d MJ0_coder_7d493 14 [l0] (.int (1) :: r) g := eb_iconst hM_J0_coder_7d493 rfl dJ0_coder_7d493_13
theorem s_J0_coder_7d493_14 (hn : narrow .byte (.int x) = .int x) : den sc d MJ0_coder_7d493 14 [l0] ([.int x]) g = some (some (.int x), g) := eb_reti hM_J0_coder_7d493 hT_J0_coder_7d493 hn dJ0_coder_7d493_14
end
section
variable {sc : mx_X} {d : Nat} {g : mx_G} {r : List Value} {x y i : Int32} {z x2 y2 : Int64} {a b : Nat} {l0 l1 l2 l3 l4 l5 l6 l7 l8 l9 l10 : Option Value}
theorem s_J0_isLatin1_aae02_0 : den sc d MJ0_isLatin1_aae02 0 [l0] (r) g = den sc d MJ0_isLatin1_aae02 3 [l0] (.int 1 :: r) g := eb_gs hM_J0_isLatin1_aae02 hC_J0_isLatin1_aae02 rfl dJ0_isLatin1_aae02_0
theorem s_J0_isLatin1_aae02_3 : den sc d MJ0_isLatin1_aae02 3 [l0] (.int x :: r) g = if x = 0 then den sc d MJ0_isLatin1_aae02 17 [l0] (r) g else den sc d MJ0_isLatin1_aae02 6 [l0] (r) g := eb_if_eq hM_J0_isLatin1_aae02 rfl dJ0_isLatin1_aae02_3
theorem s_J0_isLatin1_aae02_6 : den sc d MJ0_isLatin1_aae02 6 [some (.ref a)] (r) g = den sc d MJ0_isLatin1_aae02 7 [some (.ref a)] (.ref a :: r) g := eb_aload_n hM_J0_isLatin1_aae02 rfl dJ0_isLatin1_aae02_6
theorem s_J0_isLatin1_aae02_7 (hv : mx_xf 20 15 a = some (.int 0)) : den sc d MJ0_isLatin1_aae02 7 [l0] (.ref a :: r) g = den sc d MJ0_isLatin1_aae02 10 [l0] (.int 0 :: r) g := eb_gx hM_J0_isLatin1_aae02 hC_J0_isLatin1_aae02 rfl hv dJ0_isLatin1_aae02_7
theorem s_J0_isLatin1_aae02_10 : den sc d MJ0_isLatin1_aae02 10 [l0] (.int x :: r) g = if x = 0 then den sc d MJ0_isLatin1_aae02 13 [l0] (r) g else den sc d MJ0_isLatin1_aae02 17 [l0] (r) g := eb_if_ne hM_J0_isLatin1_aae02 rfl dJ0_isLatin1_aae02_10
theorem s_J0_isLatin1_aae02_13 : den sc d MJ0_isLatin1_aae02 13 [l0] (r) g = den sc d MJ0_isLatin1_aae02 14 [l0] (.int (1) :: r) g := eb_iconst hM_J0_isLatin1_aae02 rfl dJ0_isLatin1_aae02_13
theorem s_J0_isLatin1_aae02_14 : den sc d MJ0_isLatin1_aae02 14 [l0] (r) g = den sc d MJ0_isLatin1_aae02 18 [l0] (r) g := eb_goto hM_J0_isLatin1_aae02 rfl dJ0_isLatin1_aae02_14
theorem s_J0_isLatin1_aae02_17 : den sc d MJ0_isLatin1_aae02 17 [l0] (r) g = den sc d MJ0_isLatin1_aae02 18 [l0] (.int (0) :: r) g := eb_iconst hM_J0_isLatin1_aae02 rfl dJ0_isLatin1_aae02_17
theorem s_J0_isLatin1_aae02_18 (hn : narrow .boolean (.int x) = .int x) : den sc d MJ0_isLatin1_aae02 18 [l0] ([.int x]) g = some (some (.int x), g) := eb_reti hM_J0_isLatin1_aae02 hT_J0_isLatin1_aae02 hn dJ0_isLatin1_aae02_18
theorem s_J0_isLatin1_aae02_18_0 : den sc d MJ0_isLatin1_aae02 18 [l0] ([.int 0]) g = some (some (.int 0), g) := eb_reti hM_J0_isLatin1_aae02 hT_J0_isLatin1_aae02 rfl dJ0_isLatin1_aae02_18
theorem s_J0_isLatin1_aae02_18_1 : den sc d MJ0_isLatin1_aae02 18 [l0] ([.int 1]) g = some (some (.int 1), g) := eb_reti hM_J0_isLatin1_aae02 hT_J0_isLatin1_aae02 rfl dJ0_isLatin1_aae02_18
end
section
variable {sc : mx_X} {d : Nat} {g : mx_G} {r : List Value} {x y i : Int32} {z x2 y2 : Int64} {a b : Nat} {l0 l1 l2 l3 l4 l5 l6 l7 l8 l9 l10 : Option Value}
theorem s_J0_checkIndex_df160_0 : den sc d MJ0_checkIndex_df160 0 [some (.int x), l1] (r) g = den sc d MJ0_checkIndex_df160 1 [some (.int x), l1] (.int x :: r) g := eb_iload_n hM_J0_checkIndex_df160 rfl dJ0_checkIndex_df160_0
theorem s_J0_checkIndex_df160_1 : den sc d MJ0_checkIndex_df160 1 [l0, some (.int x)] (r) g = den sc d MJ0_checkIndex_df160 2 [l0, some (.int x)] (.int x :: r) g := eb_iload_n hM_J0_checkIndex_df160 rfl dJ0_checkIndex_df160_1
theorem s_J0_checkIndex_df160_2 : den sc d MJ0_checkIndex_df160 2 [l0, l1] (r) g = den sc d MJ0_checkIndex_df160 5 [l0, l1] (.ref 4000 :: r) g := eb_gs hM_J0_checkIndex_df160 hC_J0_checkIndex_df160 rfl dJ0_checkIndex_df160_2
theorem s_J0_checkIndex_df160_5 {a0 : Int32} {a1 : Int32} {a2 : Nat} : den sc (d + 1) MJ0_checkIndex_df160 5 [l0, l1] (.ref a2 :: .int a1 :: .int a0 :: r) g = mx_ck r (call sc d MJ3_checkIndex_8e157 [.int a0, .int a1, .ref a2] g) (fun v g' => den sc (d + 1) MJ0_checkIndex_df160 8 [l0, l1] (v.toList ++ r) g') := eb_static hM_J0_checkIndex_df160 hC_J0_checkIndex_df160 rc_20_1059_100 rfl rfl rfl dJ0_checkIndex_df160_5 rfl rfl rfl rfl
theorem s_J0_checkIndex_df160_8 : den sc d MJ0_checkIndex_df160 8 [l0, l1] (.int x :: r) g = den sc d MJ0_checkIndex_df160 9 [l0, l1] (r) g := eb_popi hM_J0_checkIndex_df160 dJ0_checkIndex_df160_8
theorem s_J0_checkIndex_df160_9 : den sc d MJ0_checkIndex_df160 9 [l0, l1] ([]) g = some (none, g) := eb_retv hM_J0_checkIndex_df160 hT_J0_checkIndex_df160 dJ0_checkIndex_df160_9
end
section
variable {sc : mx_X} {d : Nat} {g : mx_G} {r : List Value} {x y i : Int32} {z x2 y2 : Int64} {a b : Nat} {l0 l1 l2 l3 l4 l5 l6 l7 l8 l9 l10 : Option Value}
theorem s_J1_charAt_3b067_0 : den sc d MJ1_charAt_3b067 0 [l0, some (.int x)] (r) g = den sc d MJ1_charAt_3b067 1 [l0, some (.int x)] (.int x :: r) g := eb_iload_n hM_J1_charAt_3b067 rfl dJ1_charAt_3b067_0
theorem s_J1_charAt_3b067_1 : den sc d MJ1_charAt_3b067 1 [some (.ref a), l1] (r) g = den sc d MJ1_charAt_3b067 2 [some (.ref a), l1] (.ref a :: r) g := eb_aload_n hM_J1_charAt_3b067 rfl dJ1_charAt_3b067_1
theorem s_J1_charAt_3b067_2 : den sc d MJ1_charAt_3b067 2 [l0, l1] (.ref a :: r) g = mx_le (mx_av sc g a) (fun n => den sc d MJ1_charAt_3b067 3 [l0, l1] (.int (Int32.ofNat n) :: r) g) := eb_alen hM_J1_charAt_3b067 dJ1_charAt_3b067_2
theorem s_J1_charAt_3b067_3 {a0 : Int32} {a1 : Int32} : den sc (d + 1) MJ1_charAt_3b067 3 [l0, l1] (.int a1 :: .int a0 :: r) g = mx_ck r (call sc d MJ0_checkIndex_df160 [.int a0, .int a1] g) (fun v g' => den sc (d + 1) MJ1_charAt_3b067 6 [l0, l1] (v.toList ++ r) g') := eb_static hM_J1_charAt_3b067 hC_J1_charAt_3b067 rc_21_9_100 rfl rfl rfl dJ1_charAt_3b067_3 rfl rfl rfl rfl
theorem s_J1_charAt_3b067_6 : den sc d MJ1_charAt_3b067 6 [some (.ref a), l1] (r) g = den sc d MJ1_charAt_3b067 7 [some (.ref a), l1] (.ref a :: r) g := eb_aload_n hM_J1_charAt_3b067 rfl dJ1_charAt_3b067_6
theorem s_J1_charAt_3b067_7 : den sc d MJ1_charAt_3b067 7 [l0, some (.int x)] (r) g = den sc d MJ1_charAt_3b067 8 [l0, some (.int x)] (.int x :: r) g := eb_iload_n hM_J1_charAt_3b067 rfl dJ1_charAt_3b067_7
theorem s_J1_charAt_3b067_8 : den sc d MJ1_charAt_3b067 8 [l0, l1] (.int i :: .ref a :: r) g = mx_ab (mx_av sc g a) i (fun _ f => den sc d MJ1_charAt_3b067 9 [l0, l1] (.int (f i.toNatClampNeg) :: r) g) := eb_bald hM_J1_charAt_3b067 dJ1_charAt_3b067_8
theorem s_J1_charAt_3b067_9 : den sc d MJ1_charAt_3b067 9 [l0, l1] (r) g = den sc d MJ1_charAt_3b067 12 [l0, l1] (.int (255) :: r) g := eb_sipush hM_J1_charAt_3b067 rfl dJ1_charAt_3b067_9
theorem s_J1_charAt_3b067_12 : den sc d MJ1_charAt_3b067 12 [l0, l1] (.int y :: .int x :: r) g = den sc d MJ1_charAt_3b067 13 [l0, l1] (.int (x &&& y) :: r) g := eb_iand hM_J1_charAt_3b067 dJ1_charAt_3b067_12
theorem s_J1_charAt_3b067_13 : den sc d MJ1_charAt_3b067 13 [l0, l1] (.int x :: r) g = den sc d MJ1_charAt_3b067 14 [l0, l1] (.int (x.toUInt32 % 65536).toInt32 :: r) g := eb_i2c hM_J1_charAt_3b067 dJ1_charAt_3b067_13
theorem s_J1_charAt_3b067_14 (hn : narrow .char (.int x) = .int x) : den sc d MJ1_charAt_3b067 14 [l0, l1] ([.int x]) g = some (some (.int x), g) := eb_reti hM_J1_charAt_3b067 hT_J1_charAt_3b067 hn dJ1_charAt_3b067_14
end
section
variable {sc : mx_X} {d : Nat} {g : mx_G} {r : List Value} {x y i : Int32} {z x2 y2 : Int64} {a b : Nat} {l0 l1 l2 l3 l4 l5 l6 l7 l8 l9 l10 : Option Value}
theorem s_J7_fill_d0a16_0 : den sc d MJ7_fill_d0a16 0 [l0, l1, l2, l3, l4] (r) g = den sc d MJ7_fill_d0a16 1 [l0, l1, l2, l3, l4] (.int (0) :: r) g := eb_iconst hM_J7_fill_d0a16 rfl dJ7_fill_d0a16_0
theorem s_J7_fill_d0a16_1 : den sc d MJ7_fill_d0a16 1 [l0, l1, none, l3, l4] (.int x :: r) g = den sc d MJ7_fill_d0a16 2 [l0, l1, none, some (.int x), l4] (r) g := eb_istore_n hM_J7_fill_d0a16 (Nat.le_of_ble_eq_true rfl) rfl dJ7_fill_d0a16_1
theorem s_J7_fill_d0a16_2 : den sc d MJ7_fill_d0a16 2 [some (.ref a), l1, l2, l3, l4] (r) g = den sc d MJ7_fill_d0a16 3 [some (.ref a), l1, l2, l3, l4] (.ref a :: r) g := eb_aload_n hM_J7_fill_d0a16 rfl dJ7_fill_d0a16_2
theorem s_J7_fill_d0a16_3 : den sc d MJ7_fill_d0a16 3 [l0, l1, l2, l3, l4] (.ref a :: r) g = mx_le (mx_av sc g a) (fun n => den sc d MJ7_fill_d0a16 4 [l0, l1, l2, l3, l4] (.int (Int32.ofNat n) :: r) g) := eb_alen hM_J7_fill_d0a16 dJ7_fill_d0a16_3
theorem s_J7_fill_d0a16_4 {n3 : Int32} : den sc d MJ7_fill_d0a16 4 [l0, l1, l2, some (.int n3), l4] (.int x :: r) g = den sc d MJ7_fill_d0a16 6 [l0, l1, l2, some (.int n3), some (.int x)] (r) g := eb_istore hM_J7_fill_d0a16 (Nat.le_of_ble_eq_true rfl) rfl dJ7_fill_d0a16_4
theorem s_J7_fill_d0a16_6 : den sc d MJ7_fill_d0a16 6 [l0, l1, l2, some (.int x), l4] (r) g = den sc d MJ7_fill_d0a16 7 [l0, l1, l2, some (.int x), l4] (.int x :: r) g := eb_iload_n hM_J7_fill_d0a16 rfl dJ7_fill_d0a16_6
theorem s_J7_fill_d0a16_7 : den sc d MJ7_fill_d0a16 7 [l0, l1, l2, l3, some (.int x)] (r) g = den sc d MJ7_fill_d0a16 9 [l0, l1, l2, l3, some (.int x)] (.int x :: r) g := eb_iload hM_J7_fill_d0a16 rfl dJ7_fill_d0a16_7
theorem s_J7_fill_d0a16_9 : den sc d MJ7_fill_d0a16 9 [l0, l1, l2, l3, l4] (.int y :: .int x :: r) g = if y ≤ x then den sc d MJ7_fill_d0a16 22 [l0, l1, l2, l3, l4] (r) g else den sc d MJ7_fill_d0a16 12 [l0, l1, l2, l3, l4] (r) g := eb_icmp_ge hM_J7_fill_d0a16 rfl dJ7_fill_d0a16_9
theorem s_J7_fill_d0a16_12 : den sc d MJ7_fill_d0a16 12 [some (.ref a), l1, l2, l3, l4] (r) g = den sc d MJ7_fill_d0a16 13 [some (.ref a), l1, l2, l3, l4] (.ref a :: r) g := eb_aload_n hM_J7_fill_d0a16 rfl dJ7_fill_d0a16_12
theorem s_J7_fill_d0a16_13 : den sc d MJ7_fill_d0a16 13 [l0, l1, l2, some (.int x), l4] (r) g = den sc d MJ7_fill_d0a16 14 [l0, l1, l2, some (.int x), l4] (.int x :: r) g := eb_iload_n hM_J7_fill_d0a16 rfl dJ7_fill_d0a16_13
theorem s_J7_fill_d0a16_14 : den sc d MJ7_fill_d0a16 14 [l0, some (.long z), l2, l3, l4] (r) g = den sc d MJ7_fill_d0a16 15 [l0, some (.long z), l2, l3, l4] (.long z :: r) g := eb_lload_n hM_J7_fill_d0a16 rfl dJ7_fill_d0a16_14
theorem s_J7_fill_d0a16_15 : den sc d MJ7_fill_d0a16 15 [l0, l1, l2, l3, l4] (.long z :: .int i :: .ref a :: r) g = mx_al (g.1 a) i (fun n f => den sc d MJ7_fill_d0a16 16 [l0, l1, l2, l3, l4] (r) (mx_up g a (.inl (.long, n, .inr (.inl (vp_updL f i.toNatClampNeg z)))))) := eb_last hM_J7_fill_d0a16 dJ7_fill_d0a16_15
theorem s_J7_fill_d0a16_16 : den sc d MJ7_fill_d0a16 16 [l0, l1, none, some (.int x), l4] (r) g = den sc d MJ7_fill_d0a16 19 [l0, l1, none, some (.int (x + (1))), l4] (r) g := eb_iinc hM_J7_fill_d0a16 rfl rfl rfl dJ7_fill_d0a16_16
theorem s_J7_fill_d0a16_19 : den sc d MJ7_fill_d0a16 19 [l0, l1, l2, l3, l4] (r) g = den sc d MJ7_fill_d0a16 6 [l0, l1, l2, l3, l4] (r) g := eb_goto hM_J7_fill_d0a16 rfl dJ7_fill_d0a16_19
theorem s_J7_fill_d0a16_22 : den sc d MJ7_fill_d0a16 22 [l0, l1, l2, l3, l4] ([]) g = some (none, g) := eb_retv hM_J7_fill_d0a16 hT_J7_fill_d0a16 dJ7_fill_d0a16_22
end
section
variable {sc : mx_X} {d : Nat} {g : mx_G} {r : List Value} {x y i : Int32} {z x2 y2 : Int64} {a b : Nat} {l0 l1 l2 l3 l4 l5 l6 l7 l8 l9 l10 : Option Value}
theorem s_J3_checkIndex_8e157_0 : den sc d MJ3_checkIndex_8e157 0 [some (.int x), l1, l2] (r) g = den sc d MJ3_checkIndex_8e157 1 [some (.int x), l1, l2] (.int x :: r) g := eb_iload_n hM_J3_checkIndex_8e157 rfl dJ3_checkIndex_8e157_0
theorem s_J3_checkIndex_8e157_1 : den sc d MJ3_checkIndex_8e157 1 [l0, l1, l2] (.int x :: r) g = if x < 0 then den sc d MJ3_checkIndex_8e157 9 [l0, l1, l2] (r) g else den sc d MJ3_checkIndex_8e157 4 [l0, l1, l2] (r) g := eb_if_lt hM_J3_checkIndex_8e157 rfl dJ3_checkIndex_8e157_1
theorem s_J3_checkIndex_8e157_4 : den sc d MJ3_checkIndex_8e157 4 [some (.int x), l1, l2] (r) g = den sc d MJ3_checkIndex_8e157 5 [some (.int x), l1, l2] (.int x :: r) g := eb_iload_n hM_J3_checkIndex_8e157 rfl dJ3_checkIndex_8e157_4
theorem s_J3_checkIndex_8e157_5 : den sc d MJ3_checkIndex_8e157 5 [l0, some (.int x), l2] (r) g = den sc d MJ3_checkIndex_8e157 6 [l0, some (.int x), l2] (.int x :: r) g := eb_iload_n hM_J3_checkIndex_8e157 rfl dJ3_checkIndex_8e157_5
theorem s_J3_checkIndex_8e157_6 : den sc d MJ3_checkIndex_8e157 6 [l0, l1, l2] (.int y :: .int x :: r) g = if x < y then den sc d MJ3_checkIndex_8e157 16 [l0, l1, l2] (r) g else den sc d MJ3_checkIndex_8e157 9 [l0, l1, l2] (r) g := eb_icmp_lt hM_J3_checkIndex_8e157 rfl dJ3_checkIndex_8e157_6
theorem s_J3_checkIndex_8e157_9 : den sc d MJ3_checkIndex_8e157 9 [l0, l1, some (.ref a)] (r) g = den sc d MJ3_checkIndex_8e157 10 [l0, l1, some (.ref a)] (.ref a :: r) g := eb_aload_n hM_J3_checkIndex_8e157 rfl dJ3_checkIndex_8e157_9
theorem s_J3_checkIndex_8e157_10 : den sc d MJ3_checkIndex_8e157 10 [some (.int x), l1, l2] (r) g = den sc d MJ3_checkIndex_8e157 11 [some (.int x), l1, l2] (.int x :: r) g := eb_iload_n hM_J3_checkIndex_8e157 rfl dJ3_checkIndex_8e157_10
theorem s_J3_checkIndex_8e157_11 : den sc d MJ3_checkIndex_8e157 11 [l0, some (.int x), l2] (r) g = den sc d MJ3_checkIndex_8e157 12 [l0, some (.int x), l2] (.int x :: r) g := eb_iload_n hM_J3_checkIndex_8e157 rfl dJ3_checkIndex_8e157_11
theorem s_J3_checkIndex_8e157_16 : den sc d MJ3_checkIndex_8e157 16 [some (.int x), l1, l2] (r) g = den sc d MJ3_checkIndex_8e157 17 [some (.int x), l1, l2] (.int x :: r) g := eb_iload_n hM_J3_checkIndex_8e157 rfl dJ3_checkIndex_8e157_16
theorem s_J3_checkIndex_8e157_17 : den sc d MJ3_checkIndex_8e157 17 [l0, l1, l2] ([.int x]) g = some (some (.int x), g) := eb_reti hM_J3_checkIndex_8e157 hT_J3_checkIndex_8e157 rfl dJ3_checkIndex_8e157_17
end
