section
variable {sc : mx_X} {d : Nat} {g : mx_G} {r : List Value} {x y i : Int32} {z x2 y2 : Int64} {a b : Nat} {l0 l1 l2 l3 l4 l5 l6 l7 l8 l9 l10 : Option Value}
theorem s_L_law_0 : den sc d ML_law 0 [l0, l1, l2, l3] (r) g = if g.2.1 < 900 then den sc d ML_law 3 [l0, l1, l2, l3] (.ref g.2.1 :: r) (mx_nw g (.inr (10, mx_dfl 10)) (mx_dfl 10).length) else none := eb_new hM_L_law hC_L_law rfl dL_law_0
theorem s_L_law_3 : den sc d ML_law 3 [l0, l1, l2, l3] (.ref a :: r) g = den sc d ML_law 4 [l0, l1, l2, l3] (.ref a :: .ref a :: r) g := eb_dupa hM_L_law dL_law_3
theorem s_L_law_3i : den sc d ML_law 3 [l0, l1, l2, l3] (.int x :: r) g = den sc d ML_law 4 [l0, l1, l2, l3] (.int x :: .int x :: r) g := eb_dupi hM_L_law dL_law_3
theorem s_L_law_4 : den sc (d + 1) ML_law 4 [l0, l1, l2, l3] (.ref a :: r) g = mx_ob (g.1 a) (fun _ => mx_ck r (call sc d MX10_init [.ref a] g) (fun v g' => den sc (d + 1) ML_law 7 [l0, l1, l2, l3] (v.toList ++ r) g')) := eb_special hM_L_law hC_L_law rc_12_9_100 (by decide) rfl dL_law_4 rfl rfl rfl rfl
theorem s_L_law_7 {n0 : Nat} : den sc d ML_law 7 [some (.ref n0), l1, l2, l3] (.ref a :: r) g = den sc d ML_law 8 [some (.ref n0), some (.ref a), l2, l3] (r) g := eb_astore_n hM_L_law (Nat.le_of_ble_eq_true rfl) rfl dL_law_7
theorem s_L_law_8 : den sc d ML_law 8 [l0, l1, l2, l3] (r) g = if g.2.1 < 900 then den sc d ML_law 11 [l0, l1, l2, l3] (.ref g.2.1 :: r) (mx_nw g (.inr (11, mx_dfl 11)) (mx_dfl 11).length) else none := eb_new hM_L_law hC_L_law rfl dL_law_8
theorem s_L_law_11 : den sc d ML_law 11 [l0, l1, l2, l3] (.ref a :: r) g = den sc d ML_law 12 [l0, l1, l2, l3] (.ref a :: .ref a :: r) g := eb_dupa hM_L_law dL_law_11
theorem s_L_law_11i : den sc d ML_law 11 [l0, l1, l2, l3] (.int x :: r) g = den sc d ML_law 12 [l0, l1, l2, l3] (.int x :: .int x :: r) g := eb_dupi hM_L_law dL_law_11
theorem s_L_law_12 : den sc (d + 1) ML_law 12 [l0, l1, l2, l3] (.ref a :: r) g = mx_ob (g.1 a) (fun _ => mx_ck r (call sc d MX11_init [.ref a] g) (fun v g' => den sc (d + 1) ML_law 15 [l0, l1, l2, l3] (v.toList ++ r) g')) := eb_special hM_L_law hC_L_law rc_12_12_100 (by decide) rfl dL_law_12 rfl rfl rfl rfl
theorem s_L_law_15 {n1 : Nat} : den sc d ML_law 15 [l0, some (.ref n1), l2, l3] (.ref a :: r) g = den sc d ML_law 16 [l0, some (.ref n1), some (.ref a), l3] (r) g := eb_astore_n hM_L_law (Nat.le_of_ble_eq_true rfl) rfl dL_law_15
theorem s_L_law_16 : den sc d ML_law 16 [l0, l1, l2, l3] (r) g = den sc d ML_law 17 [l0, l1, l2, l3] (.int (0) :: r) g := eb_iconst hM_L_law rfl dL_law_16
theorem s_L_law_17 {n2 : Nat} : den sc d ML_law 17 [l0, l1, some (.ref n2), l3] (.int x :: r) g = den sc d ML_law 18 [l0, l1, some (.ref n2), some (.int x)] (r) g := eb_istore_n hM_L_law (Nat.le_of_ble_eq_true rfl) rfl dL_law_17
theorem s_L_law_18 : den sc d ML_law 18 [l0, l1, l2, some (.int x)] (r) g = den sc d ML_law 19 [l0, l1, l2, some (.int x)] (.int x :: r) g := eb_iload_n hM_L_law rfl dL_law_18
theorem s_L_law_19 : den sc d ML_law 19 [some (.ref a), l1, l2, l3] (r) g = den sc d ML_law 20 [some (.ref a), l1, l2, l3] (.ref a :: r) g := eb_aload_n hM_L_law rfl dL_law_19
theorem s_L_law_20 : den sc d ML_law 20 [l0, l1, l2, l3] (.ref a :: r) g = mx_le (mx_av sc g a) (fun n => den sc d ML_law 21 [l0, l1, l2, l3] (.int (Int32.ofNat n) :: r) g) := eb_alen hM_L_law dL_law_20
theorem s_L_law_21 : den sc d ML_law 21 [l0, l1, l2, l3] (r) g = den sc d ML_law 23 [l0, l1, l2, l3] (.int (6) :: r) g := eb_bipush hM_L_law rfl dL_law_21
theorem s_L_law_23 : den sc d ML_law 23 [l0, l1, l2, l3] (.int y :: .int x :: r) g = den sc d ML_law 24 [l0, l1, l2, l3] (.int (x - y) :: r) g := eb_isub hM_L_law dL_law_23
theorem s_L_law_24 : den sc d ML_law 24 [l0, l1, l2, l3] (.int y :: .int x :: r) g = if y < x then den sc d ML_law 1344 [l0, l1, l2, l3] (r) g else den sc d ML_law 27 [l0, l1, l2, l3] (r) g := eb_icmp_gt hM_L_law rfl dL_law_24
theorem s_L_law_27 : den sc d ML_law 27 [some (.ref a), l1, l2, l3] (r) g = den sc d ML_law 28 [some (.ref a), l1, l2, l3] (.ref a :: r) g := eb_aload_n hM_L_law rfl dL_law_27
theorem s_L_law_28 : den sc d ML_law 28 [l0, l1, l2, some (.int x)] (r) g = den sc d ML_law 29 [l0, l1, l2, some (.int x)] (.int x :: r) g := eb_iload_n hM_L_law rfl dL_law_28
theorem s_L_law_29 : den sc d ML_law 29 [l0, l1, l2, l3] (.int i :: .ref a :: r) g = mx_ai (mx_av sc g a) i (fun _ f => den sc d ML_law 30 [l0, l1, l2, l3] (.int (f i.toNatClampNeg) :: r) g) := eb_iald hM_L_law dL_law_29
theorem s_L_law_30 : den sc d ML_law 30 [l0, l1, l2, l3] (r) g = den sc d ML_law 32 [l0, l1, l2, l3] (.int (63) :: r) g := eb_bipush hM_L_law rfl dL_law_30
theorem s_L_law_32 : den sc d ML_law 32 [l0, l1, l2, l3] (.int y :: .int x :: r) g = den sc d ML_law 33 [l0, l1, l2, l3] (.int (x &&& y) :: r) g := eb_iand hM_L_law dL_law_32
theorem s_L_law_33_0 : den sc d ML_law 33 [l0, l1, l2, l3] (.int (0) :: r) g = den sc d ML_law 196 [l0, l1, l2, l3] (r) g := eb_table hM_L_law dL_law_33 rfl rfl
theorem s_L_law_33_1 : den sc d ML_law 33 [l0, l1, l2, l3] (.int (1) :: r) g = den sc d ML_law 229 [l0, l1, l2, l3] (r) g := eb_table hM_L_law dL_law_33 rfl rfl
theorem s_L_law_33_2 : den sc d ML_law 33 [l0, l1, l2, l3] (.int (2) :: r) g = den sc d ML_law 252 [l0, l1, l2, l3] (r) g := eb_table hM_L_law dL_law_33 rfl rfl
theorem s_L_law_33_3 : den sc d ML_law 33 [l0, l1, l2, l3] (.int (3) :: r) g = den sc d ML_law 275 [l0, l1, l2, l3] (r) g := eb_table hM_L_law dL_law_33 rfl rfl
theorem s_L_law_33_4 : den sc d ML_law 33 [l0, l1, l2, l3] (.int (4) :: r) g = den sc d ML_law 298 [l0, l1, l2, l3] (r) g := eb_table hM_L_law dL_law_33 rfl rfl
theorem s_L_law_33_5 : den sc d ML_law 33 [l0, l1, l2, l3] (.int (5) :: r) g = den sc d ML_law 331 [l0, l1, l2, l3] (r) g := eb_table hM_L_law dL_law_33 rfl rfl
theorem s_L_law_33_6 : den sc d ML_law 33 [l0, l1, l2, l3] (.int (6) :: r) g = den sc d ML_law 374 [l0, l1, l2, l3] (r) g := eb_table hM_L_law dL_law_33 rfl rfl
theorem s_L_law_33_7 : den sc d ML_law 33 [l0, l1, l2, l3] (.int (7) :: r) g = den sc d ML_law 407 [l0, l1, l2, l3] (r) g := eb_table hM_L_law dL_law_33 rfl rfl
theorem s_L_law_33_8 : den sc d ML_law 33 [l0, l1, l2, l3] (.int (8) :: r) g = den sc d ML_law 440 [l0, l1, l2, l3] (r) g := eb_table hM_L_law dL_law_33 rfl rfl
theorem s_L_law_33_9 : den sc d ML_law 33 [l0, l1, l2, l3] (.int (9) :: r) g = den sc d ML_law 473 [l0, l1, l2, l3] (r) g := eb_table hM_L_law dL_law_33 rfl rfl
theorem s_L_law_33_10 : den sc d ML_law 33 [l0, l1, l2, l3] (.int (10) :: r) g = den sc d ML_law 516 [l0, l1, l2, l3] (r) g := eb_table hM_L_law dL_law_33 rfl rfl
theorem s_L_law_33_11 : den sc d ML_law 33 [l0, l1, l2, l3] (.int (11) :: r) g = den sc d ML_law 539 [l0, l1, l2, l3] (r) g := eb_table hM_L_law dL_law_33 rfl rfl
theorem s_L_law_33_12 : den sc d ML_law 33 [l0, l1, l2, l3] (.int (12) :: r) g = den sc d ML_law 562 [l0, l1, l2, l3] (r) g := eb_table hM_L_law dL_law_33 rfl rfl
theorem s_L_law_33_13 : den sc d ML_law 33 [l0, l1, l2, l3] (.int (13) :: r) g = den sc d ML_law 585 [l0, l1, l2, l3] (r) g := eb_table hM_L_law dL_law_33 rfl rfl
theorem s_L_law_33_14 : den sc d ML_law 33 [l0, l1, l2, l3] (.int (14) :: r) g = den sc d ML_law 628 [l0, l1, l2, l3] (r) g := eb_table hM_L_law dL_law_33 rfl rfl
theorem s_L_law_33_15 : den sc d ML_law 33 [l0, l1, l2, l3] (.int (15) :: r) g = den sc d ML_law 661 [l0, l1, l2, l3] (r) g := eb_table hM_L_law dL_law_33 rfl rfl
theorem s_L_law_33_16 : den sc d ML_law 33 [l0, l1, l2, l3] (.int (16) :: r) g = den sc d ML_law 694 [l0, l1, l2, l3] (r) g := eb_table hM_L_law dL_law_33 rfl rfl
theorem s_L_law_33_17 : den sc d ML_law 33 [l0, l1, l2, l3] (.int (17) :: r) g = den sc d ML_law 717 [l0, l1, l2, l3] (r) g := eb_table hM_L_law dL_law_33 rfl rfl
theorem s_L_law_33_18 : den sc d ML_law 33 [l0, l1, l2, l3] (.int (18) :: r) g = den sc d ML_law 750 [l0, l1, l2, l3] (r) g := eb_table hM_L_law dL_law_33 rfl rfl
theorem s_L_law_33_19 : den sc d ML_law 33 [l0, l1, l2, l3] (.int (19) :: r) g = den sc d ML_law 783 [l0, l1, l2, l3] (r) g := eb_table hM_L_law dL_law_33 rfl rfl
theorem s_L_law_33_20 : den sc d ML_law 33 [l0, l1, l2, l3] (.int (20) :: r) g = den sc d ML_law 826 [l0, l1, l2, l3] (r) g := eb_table hM_L_law dL_law_33 rfl rfl
theorem s_L_law_33_21 : den sc d ML_law 33 [l0, l1, l2, l3] (.int (21) :: r) g = den sc d ML_law 859 [l0, l1, l2, l3] (r) g := eb_table hM_L_law dL_law_33 rfl rfl
theorem s_L_law_33_22 : den sc d ML_law 33 [l0, l1, l2, l3] (.int (22) :: r) g = den sc d ML_law 882 [l0, l1, l2, l3] (r) g := eb_table hM_L_law dL_law_33 rfl rfl
theorem s_L_law_33_23 : den sc d ML_law 33 [l0, l1, l2, l3] (.int (23) :: r) g = den sc d ML_law 925 [l0, l1, l2, l3] (r) g := eb_table hM_L_law dL_law_33 rfl rfl
theorem s_L_law_33_24 : den sc d ML_law 33 [l0, l1, l2, l3] (.int (24) :: r) g = den sc d ML_law 958 [l0, l1, l2, l3] (r) g := eb_table hM_L_law dL_law_33 rfl rfl
theorem s_L_law_33_25 : den sc d ML_law 33 [l0, l1, l2, l3] (.int (25) :: r) g = den sc d ML_law 971 [l0, l1, l2, l3] (r) g := eb_table hM_L_law dL_law_33 rfl rfl
theorem s_L_law_33_26 : den sc d ML_law 33 [l0, l1, l2, l3] (.int (26) :: r) g = den sc d ML_law 984 [l0, l1, l2, l3] (r) g := eb_table hM_L_law dL_law_33 rfl rfl
theorem s_L_law_33_27 : den sc d ML_law 33 [l0, l1, l2, l3] (.int (27) :: r) g = den sc d ML_law 1027 [l0, l1, l2, l3] (r) g := eb_table hM_L_law dL_law_33 rfl rfl
theorem s_L_law_33_28 : den sc d ML_law 33 [l0, l1, l2, l3] (.int (28) :: r) g = den sc d ML_law 1101 [l0, l1, l2, l3] (r) g := eb_table hM_L_law dL_law_33 rfl rfl
theorem s_L_law_33_29 : den sc d ML_law 33 [l0, l1, l2, l3] (.int (29) :: r) g = den sc d ML_law 1164 [l0, l1, l2, l3] (r) g := eb_table hM_L_law dL_law_33 rfl rfl
theorem s_L_law_33_30 : den sc d ML_law 33 [l0, l1, l2, l3] (.int (30) :: r) g = den sc d ML_law 1187 [l0, l1, l2, l3] (r) g := eb_table hM_L_law dL_law_33 rfl rfl
theorem s_L_law_33_31 : den sc d ML_law 33 [l0, l1, l2, l3] (.int (31) :: r) g = den sc d ML_law 1220 [l0, l1, l2, l3] (r) g := eb_table hM_L_law dL_law_33 rfl rfl
theorem s_L_law_33_32 : den sc d ML_law 33 [l0, l1, l2, l3] (.int (32) :: r) g = den sc d ML_law 1253 [l0, l1, l2, l3] (r) g := eb_table hM_L_law dL_law_33 rfl rfl
theorem s_L_law_33_33 : den sc d ML_law 33 [l0, l1, l2, l3] (.int (33) :: r) g = den sc d ML_law 1266 [l0, l1, l2, l3] (r) g := eb_table hM_L_law dL_law_33 rfl rfl
theorem s_L_law_33_34 : den sc d ML_law 33 [l0, l1, l2, l3] (.int (34) :: r) g = den sc d ML_law 1279 [l0, l1, l2, l3] (r) g := eb_table hM_L_law dL_law_33 rfl rfl
theorem s_L_law_33_35 : den sc d ML_law 33 [l0, l1, l2, l3] (.int (35) :: r) g = den sc d ML_law 1292 [l0, l1, l2, l3] (r) g := eb_table hM_L_law dL_law_33 rfl rfl
theorem s_L_law_33_36 : den sc d ML_law 33 [l0, l1, l2, l3] (.int (36) :: r) g = den sc d ML_law 1315 [l0, l1, l2, l3] (r) g := eb_table hM_L_law dL_law_33 rfl rfl
theorem s_L_law_33_d (h : x.toInt < 0 ∨ 36 < x.toInt) : den sc d ML_law 33 [l0, l1, l2, l3] (.int x :: r) g = den sc d ML_law 1338 [l0, l1, l2, l3] (r) g := eb_table hM_L_law dL_law_33 (if_pos h) rfl
theorem s_L_law_196 : den sc d ML_law 196 [l0, some (.ref a), l2, l3] (r) g = den sc d ML_law 197 [l0, some (.ref a), l2, l3] (.ref a :: r) g := eb_aload_n hM_L_law rfl dL_law_196
theorem s_L_law_197 : den sc d ML_law 197 [some (.ref a), l1, l2, l3] (r) g = den sc d ML_law 198 [some (.ref a), l1, l2, l3] (.ref a :: r) g := eb_aload_n hM_L_law rfl dL_law_197
theorem s_L_law_198 : den sc d ML_law 198 [l0, l1, l2, some (.int x)] (r) g = den sc d ML_law 199 [l0, l1, l2, some (.int x)] (.int x :: r) g := eb_iload_n hM_L_law rfl dL_law_198
theorem s_L_law_199 : den sc d ML_law 199 [l0, l1, l2, l3] (r) g = den sc d ML_law 200 [l0, l1, l2, l3] (.int (1) :: r) g := eb_iconst hM_L_law rfl dL_law_199
theorem s_L_law_200 : den sc d ML_law 200 [l0, l1, l2, l3] (.int y :: .int x :: r) g = den sc d ML_law 201 [l0, l1, l2, l3] (.int (x + y) :: r) g := eb_iadd hM_L_law dL_law_200
theorem s_L_law_201 : den sc d ML_law 201 [l0, l1, l2, l3] (.int i :: .ref a :: r) g = mx_ai (mx_av sc g a) i (fun _ f => den sc d ML_law 202 [l0, l1, l2, l3] (.int (f i.toNatClampNeg) :: r) g) := eb_iald hM_L_law dL_law_201
theorem s_L_law_202 : den sc d ML_law 202 [some (.ref a), l1, l2, l3] (r) g = den sc d ML_law 203 [some (.ref a), l1, l2, l3] (.ref a :: r) g := eb_aload_n hM_L_law rfl dL_law_202
theorem s_L_law_203 : den sc d ML_law 203 [l0, l1, l2, some (.int x)] (r) g = den sc d ML_law 204 [l0, l1, l2, some (.int x)] (.int x :: r) g := eb_iload_n hM_L_law rfl dL_law_203
theorem s_L_law_204 : den sc d ML_law 204 [l0, l1, l2, l3] (r) g = den sc d ML_law 205 [l0, l1, l2, l3] (.int (2) :: r) g := eb_iconst hM_L_law rfl dL_law_204
theorem s_L_law_205 : den sc d ML_law 205 [l0, l1, l2, l3] (.int y :: .int x :: r) g = den sc d ML_law 206 [l0, l1, l2, l3] (.int (x + y) :: r) g := eb_iadd hM_L_law dL_law_205
theorem s_L_law_206 : den sc d ML_law 206 [l0, l1, l2, l3] (.int i :: .ref a :: r) g = mx_ai (mx_av sc g a) i (fun _ f => den sc d ML_law 207 [l0, l1, l2, l3] (.int (f i.toNatClampNeg) :: r) g) := eb_iald hM_L_law dL_law_206
theorem s_L_law_207 {a0 : Int32} {a1 : Int32} (hrc : mx_rc g a = some 10) : den sc (d + 1) ML_law 207 [l0, l1, l2, l3] (.int a1 :: .int a0 :: .ref a :: r) g = mx_ck r (call sc d MX10_worth [.ref a, .int a0, .int a1] g) (fun v g' => den sc (d + 1) ML_law 210 [l0, l1, l2, l3] (v.toList ++ r) g') := eb_virtual hM_L_law hC_L_law rc_12_13_10 (by decide) rfl dL_law_207 rfl rfl rfl rfl hrc
theorem s_L_law_210 : den sc d ML_law 210 [l0, l1, some (.ref a), l3] (r) g = den sc d ML_law 211 [l0, l1, some (.ref a), l3] (.ref a :: r) g := eb_aload_n hM_L_law rfl dL_law_210
theorem s_L_law_211 : den sc d ML_law 211 [some (.ref a), l1, l2, l3] (r) g = den sc d ML_law 212 [some (.ref a), l1, l2, l3] (.ref a :: r) g := eb_aload_n hM_L_law rfl dL_law_211
theorem s_L_law_212 : den sc d ML_law 212 [l0, l1, l2, some (.int x)] (r) g = den sc d ML_law 213 [l0, l1, l2, some (.int x)] (.int x :: r) g := eb_iload_n hM_L_law rfl dL_law_212
theorem s_L_law_213 : den sc d ML_law 213 [l0, l1, l2, l3] (r) g = den sc d ML_law 214 [l0, l1, l2, l3] (.int (1) :: r) g := eb_iconst hM_L_law rfl dL_law_213
theorem s_L_law_214 : den sc d ML_law 214 [l0, l1, l2, l3] (.int y :: .int x :: r) g = den sc d ML_law 215 [l0, l1, l2, l3] (.int (x + y) :: r) g := eb_iadd hM_L_law dL_law_214
theorem s_L_law_215 : den sc d ML_law 215 [l0, l1, l2, l3] (.int i :: .ref a :: r) g = mx_ai (mx_av sc g a) i (fun _ f => den sc d ML_law 216 [l0, l1, l2, l3] (.int (f i.toNatClampNeg) :: r) g) := eb_iald hM_L_law dL_law_215
theorem s_L_law_216 : den sc d ML_law 216 [some (.ref a), l1, l2, l3] (r) g = den sc d ML_law 217 [some (.ref a), l1, l2, l3] (.ref a :: r) g := eb_aload_n hM_L_law rfl dL_law_216
theorem s_L_law_217 : den sc d ML_law 217 [l0, l1, l2, some (.int x)] (r) g = den sc d ML_law 218 [l0, l1, l2, some (.int x)] (.int x :: r) g := eb_iload_n hM_L_law rfl dL_law_217
theorem s_L_law_218 : den sc d ML_law 218 [l0, l1, l2, l3] (r) g = den sc d ML_law 219 [l0, l1, l2, l3] (.int (2) :: r) g := eb_iconst hM_L_law rfl dL_law_218
theorem s_L_law_219 : den sc d ML_law 219 [l0, l1, l2, l3] (.int y :: .int x :: r) g = den sc d ML_law 220 [l0, l1, l2, l3] (.int (x + y) :: r) g := eb_iadd hM_L_law dL_law_219
theorem s_L_law_220 : den sc d ML_law 220 [l0, l1, l2, l3] (.int i :: .ref a :: r) g = mx_ai (mx_av sc g a) i (fun _ f => den sc d ML_law 221 [l0, l1, l2, l3] (.int (f i.toNatClampNeg) :: r) g) := eb_iald hM_L_law dL_law_220
theorem s_L_law_221 {a0 : Int32} {a1 : Int32} (hrc : mx_rc g a = some 11) : den sc (d + 1) ML_law 221 [l0, l1, l2, l3] (.int a1 :: .int a0 :: .ref a :: r) g = mx_ck r (call sc d MX11_worth [.ref a, .int a0, .int a1] g) (fun v g' => den sc (d + 1) ML_law 224 [l0, l1, l2, l3] (v.toList ++ r) g') := eb_virtual hM_L_law hC_L_law rc_12_17_11 (by decide) rfl dL_law_221 rfl rfl rfl rfl hrc
theorem s_L_law_224 : den sc d ML_law 224 [l0, l1, l2, l3] (.int y :: .int x :: r) g = if x = y then den sc d ML_law 1338 [l0, l1, l2, l3] (r) g else den sc d ML_law 227 [l0, l1, l2, l3] (r) g := eb_icmp_eq hM_L_law rfl dL_law_224
theorem s_L_law_227 : den sc d ML_law 227 [l0, l1, l2, l3] (r) g = den sc d ML_law 228 [l0, l1, l2, l3] (.int (0) :: r) g := eb_iconst hM_L_law rfl dL_law_227
theorem s_L_law_228 (hn : narrow .boolean (.int x) = .int x) : den sc d ML_law 228 [l0, l1, l2, l3] ([.int x]) g = some (some (.int x), g) := eb_reti hM_L_law hT_L_law hn dL_law_228
theorem s_L_law_228_0 : den sc d ML_law 228 [l0, l1, l2, l3] ([.int 0]) g = some (some (.int 0), g) := eb_reti hM_L_law hT_L_law rfl dL_law_228
theorem s_L_law_228_1 : den sc d ML_law 228 [l0, l1, l2, l3] ([.int 1]) g = some (some (.int 1), g) := eb_reti hM_L_law hT_L_law rfl dL_law_228
theorem s_L_law_229 : den sc d ML_law 229 [l0, some (.ref a), l2, l3] (r) g = den sc d ML_law 230 [l0, some (.ref a), l2, l3] (.ref a :: r) g := eb_aload_n hM_L_law rfl dL_law_229
theorem s_L_law_230 : den sc d ML_law 230 [some (.ref a), l1, l2, l3] (r) g = den sc d ML_law 231 [some (.ref a), l1, l2, l3] (.ref a :: r) g := eb_aload_n hM_L_law rfl dL_law_230
theorem s_L_law_231 : den sc d ML_law 231 [l0, l1, l2, some (.int x)] (r) g = den sc d ML_law 232 [l0, l1, l2, some (.int x)] (.int x :: r) g := eb_iload_n hM_L_law rfl dL_law_231
theorem s_L_law_232 : den sc d ML_law 232 [l0, l1, l2, l3] (r) g = den sc d ML_law 233 [l0, l1, l2, l3] (.int (1) :: r) g := eb_iconst hM_L_law rfl dL_law_232
theorem s_L_law_233 : den sc d ML_law 233 [l0, l1, l2, l3] (.int y :: .int x :: r) g = den sc d ML_law 234 [l0, l1, l2, l3] (.int (x + y) :: r) g := eb_iadd hM_L_law dL_law_233
theorem s_L_law_234 : den sc d ML_law 234 [l0, l1, l2, l3] (.int i :: .ref a :: r) g = mx_ai (mx_av sc g a) i (fun _ f => den sc d ML_law 235 [l0, l1, l2, l3] (.int (f i.toNatClampNeg) :: r) g) := eb_iald hM_L_law dL_law_234
theorem s_L_law_235 {a0 : Int32} (hrc : mx_rc g a = some 10) : den sc (d + 1) ML_law 235 [l0, l1, l2, l3] (.int a0 :: .ref a :: r) g = mx_ck r (call sc d MX10_worthOf [.ref a, .int a0] g) (fun v g' => den sc (d + 1) ML_law 238 [l0, l1, l2, l3] (v.toList ++ r) g') := eb_virtual hM_L_law hC_L_law rc_12_18_10 (by decide) rfl dL_law_235 rfl rfl rfl rfl hrc
theorem s_L_law_238 : den sc d ML_law 238 [l0, l1, some (.ref a), l3] (r) g = den sc d ML_law 239 [l0, l1, some (.ref a), l3] (.ref a :: r) g := eb_aload_n hM_L_law rfl dL_law_238
theorem s_L_law_239 : den sc d ML_law 239 [some (.ref a), l1, l2, l3] (r) g = den sc d ML_law 240 [some (.ref a), l1, l2, l3] (.ref a :: r) g := eb_aload_n hM_L_law rfl dL_law_239
theorem s_L_law_240 : den sc d ML_law 240 [l0, l1, l2, some (.int x)] (r) g = den sc d ML_law 241 [l0, l1, l2, some (.int x)] (.int x :: r) g := eb_iload_n hM_L_law rfl dL_law_240
theorem s_L_law_241 : den sc d ML_law 241 [l0, l1, l2, l3] (r) g = den sc d ML_law 242 [l0, l1, l2, l3] (.int (1) :: r) g := eb_iconst hM_L_law rfl dL_law_241
theorem s_L_law_242 : den sc d ML_law 242 [l0, l1, l2, l3] (.int y :: .int x :: r) g = den sc d ML_law 243 [l0, l1, l2, l3] (.int (x + y) :: r) g := eb_iadd hM_L_law dL_law_242
theorem s_L_law_243 : den sc d ML_law 243 [l0, l1, l2, l3] (.int i :: .ref a :: r) g = mx_ai (mx_av sc g a) i (fun _ f => den sc d ML_law 244 [l0, l1, l2, l3] (.int (f i.toNatClampNeg) :: r) g) := eb_iald hM_L_law dL_law_243
theorem s_L_law_244 {a0 : Int32} (hrc : mx_rc g a = some 11) : den sc (d + 1) ML_law 244 [l0, l1, l2, l3] (.int a0 :: .ref a :: r) g = mx_ck r (call sc d MX11_worthOf [.ref a, .int a0] g) (fun v g' => den sc (d + 1) ML_law 247 [l0, l1, l2, l3] (v.toList ++ r) g') := eb_virtual hM_L_law hC_L_law rc_12_22_11 (by decide) rfl dL_law_244 rfl rfl rfl rfl hrc
theorem s_L_law_247 : den sc d ML_law 247 [l0, l1, l2, l3] (.int y :: .int x :: r) g = if x = y then den sc d ML_law 1338 [l0, l1, l2, l3] (r) g else den sc d ML_law 250 [l0, l1, l2, l3] (r) g := eb_icmp_eq hM_L_law rfl dL_law_247
theorem s_L_law_250 : den sc d ML_law 250 [l0, l1, l2, l3] (r) g = den sc d ML_law 251 [l0, l1, l2, l3] (.int (0) :: r) g := eb_iconst hM_L_law rfl dL_law_250
theorem s_L_law_251 (hn : narrow .boolean (.int x) = .int x) : den sc d ML_law 251 [l0, l1, l2, l3] ([.int x]) g = some (some (.int x), g) := eb_reti hM_L_law hT_L_law hn dL_law_251
theorem s_L_law_251_0 : den sc d ML_law 251 [l0, l1, l2, l3] ([.int 0]) g = some (some (.int 0), g) := eb_reti hM_L_law hT_L_law rfl dL_law_251
theorem s_L_law_251_1 : den sc d ML_law 251 [l0, l1, l2, l3] ([.int 1]) g = some (some (.int 1), g) := eb_reti hM_L_law hT_L_law rfl dL_law_251
theorem s_L_law_252 : den sc d ML_law 252 [l0, some (.ref a), l2, l3] (r) g = den sc d ML_law 253 [l0, some (.ref a), l2, l3] (.ref a :: r) g := eb_aload_n hM_L_law rfl dL_law_252
theorem s_L_law_253 : den sc d ML_law 253 [some (.ref a), l1, l2, l3] (r) g = den sc d ML_law 254 [some (.ref a), l1, l2, l3] (.ref a :: r) g := eb_aload_n hM_L_law rfl dL_law_253
theorem s_L_law_254 : den sc d ML_law 254 [l0, l1, l2, some (.int x)] (r) g = den sc d ML_law 255 [l0, l1, l2, some (.int x)] (.int x :: r) g := eb_iload_n hM_L_law rfl dL_law_254
theorem s_L_law_255 : den sc d ML_law 255 [l0, l1, l2, l3] (r) g = den sc d ML_law 256 [l0, l1, l2, l3] (.int (1) :: r) g := eb_iconst hM_L_law rfl dL_law_255
theorem s_L_law_256 : den sc d ML_law 256 [l0, l1, l2, l3] (.int y :: .int x :: r) g = den sc d ML_law 257 [l0, l1, l2, l3] (.int (x + y) :: r) g := eb_iadd hM_L_law dL_law_256
theorem s_L_law_257 : den sc d ML_law 257 [l0, l1, l2, l3] (.int i :: .ref a :: r) g = mx_ai (mx_av sc g a) i (fun _ f => den sc d ML_law 258 [l0, l1, l2, l3] (.int (f i.toNatClampNeg) :: r) g) := eb_iald hM_L_law dL_law_257
theorem s_L_law_258 {a0 : Int32} (hrc : mx_rc g a = some 10) : den sc (d + 1) ML_law 258 [l0, l1, l2, l3] (.int a0 :: .ref a :: r) g = mx_ck r (call sc d MX10_who [.ref a, .int a0] g) (fun v g' => den sc (d + 1) ML_law 261 [l0, l1, l2, l3] (v.toList ++ r) g') := eb_virtual hM_L_law hC_L_law rc_12_23_10 (by decide) rfl dL_law_258 rfl rfl rfl rfl hrc
theorem s_L_law_261 : den sc d ML_law 261 [l0, l1, some (.ref a), l3] (r) g = den sc d ML_law 262 [l0, l1, some (.ref a), l3] (.ref a :: r) g := eb_aload_n hM_L_law rfl dL_law_261
theorem s_L_law_262 : den sc d ML_law 262 [some (.ref a), l1, l2, l3] (r) g = den sc d ML_law 263 [some (.ref a), l1, l2, l3] (.ref a :: r) g := eb_aload_n hM_L_law rfl dL_law_262
theorem s_L_law_263 : den sc d ML_law 263 [l0, l1, l2, some (.int x)] (r) g = den sc d ML_law 264 [l0, l1, l2, some (.int x)] (.int x :: r) g := eb_iload_n hM_L_law rfl dL_law_263
theorem s_L_law_264 : den sc d ML_law 264 [l0, l1, l2, l3] (r) g = den sc d ML_law 265 [l0, l1, l2, l3] (.int (1) :: r) g := eb_iconst hM_L_law rfl dL_law_264
theorem s_L_law_265 : den sc d ML_law 265 [l0, l1, l2, l3] (.int y :: .int x :: r) g = den sc d ML_law 266 [l0, l1, l2, l3] (.int (x + y) :: r) g := eb_iadd hM_L_law dL_law_265
theorem s_L_law_266 : den sc d ML_law 266 [l0, l1, l2, l3] (.int i :: .ref a :: r) g = mx_ai (mx_av sc g a) i (fun _ f => den sc d ML_law 267 [l0, l1, l2, l3] (.int (f i.toNatClampNeg) :: r) g) := eb_iald hM_L_law dL_law_266
theorem s_L_law_267 {a0 : Int32} (hrc : mx_rc g a = some 11) : den sc (d + 1) ML_law 267 [l0, l1, l2, l3] (.int a0 :: .ref a :: r) g = mx_ck r (call sc d MX11_who [.ref a, .int a0] g) (fun v g' => den sc (d + 1) ML_law 270 [l0, l1, l2, l3] (v.toList ++ r) g') := eb_virtual hM_L_law hC_L_law rc_12_26_11 (by decide) rfl dL_law_267 rfl rfl rfl rfl hrc
theorem s_L_law_270 : den sc d ML_law 270 [l0, l1, l2, l3] (.int y :: .int x :: r) g = if x = y then den sc d ML_law 1338 [l0, l1, l2, l3] (r) g else den sc d ML_law 273 [l0, l1, l2, l3] (r) g := eb_icmp_eq hM_L_law rfl dL_law_270
theorem s_L_law_273 : den sc d ML_law 273 [l0, l1, l2, l3] (r) g = den sc d ML_law 274 [l0, l1, l2, l3] (.int (0) :: r) g := eb_iconst hM_L_law rfl dL_law_273
theorem s_L_law_274 (hn : narrow .boolean (.int x) = .int x) : den sc d ML_law 274 [l0, l1, l2, l3] ([.int x]) g = some (some (.int x), g) := eb_reti hM_L_law hT_L_law hn dL_law_274
theorem s_L_law_274_0 : den sc d ML_law 274 [l0, l1, l2, l3] ([.int 0]) g = some (some (.int 0), g) := eb_reti hM_L_law hT_L_law rfl dL_law_274
theorem s_L_law_274_1 : den sc d ML_law 274 [l0, l1, l2, l3] ([.int 1]) g = some (some (.int 1), g) := eb_reti hM_L_law hT_L_law rfl dL_law_274
theorem s_L_law_275 : den sc d ML_law 275 [l0, some (.ref a), l2, l3] (r) g = den sc d ML_law 276 [l0, some (.ref a), l2, l3] (.ref a :: r) g := eb_aload_n hM_L_law rfl dL_law_275
theorem s_L_law_276 : den sc d ML_law 276 [some (.ref a), l1, l2, l3] (r) g = den sc d ML_law 277 [some (.ref a), l1, l2, l3] (.ref a :: r) g := eb_aload_n hM_L_law rfl dL_law_276
theorem s_L_law_277 : den sc d ML_law 277 [l0, l1, l2, some (.int x)] (r) g = den sc d ML_law 278 [l0, l1, l2, some (.int x)] (.int x :: r) g := eb_iload_n hM_L_law rfl dL_law_277
theorem s_L_law_278 : den sc d ML_law 278 [l0, l1, l2, l3] (r) g = den sc d ML_law 279 [l0, l1, l2, l3] (.int (1) :: r) g := eb_iconst hM_L_law rfl dL_law_278
theorem s_L_law_279 : den sc d ML_law 279 [l0, l1, l2, l3] (.int y :: .int x :: r) g = den sc d ML_law 280 [l0, l1, l2, l3] (.int (x + y) :: r) g := eb_iadd hM_L_law dL_law_279
theorem s_L_law_280 : den sc d ML_law 280 [l0, l1, l2, l3] (.int i :: .ref a :: r) g = mx_ai (mx_av sc g a) i (fun _ f => den sc d ML_law 281 [l0, l1, l2, l3] (.int (f i.toNatClampNeg) :: r) g) := eb_iald hM_L_law dL_law_280
theorem s_L_law_281 {a0 : Int32} (hrc : mx_rc g a = some 10) : den sc (d + 1) ML_law 281 [l0, l1, l2, l3] (.int a0 :: .ref a :: r) g = mx_ck r (call sc d MX10_person [.ref a, .int a0] g) (fun v g' => den sc (d + 1) ML_law 284 [l0, l1, l2, l3] (v.toList ++ r) g') := eb_virtual hM_L_law hC_L_law rc_12_27_10 (by decide) rfl dL_law_281 rfl rfl rfl rfl hrc
theorem s_L_law_284 : den sc d ML_law 284 [l0, l1, some (.ref a), l3] (r) g = den sc d ML_law 285 [l0, l1, some (.ref a), l3] (.ref a :: r) g := eb_aload_n hM_L_law rfl dL_law_284
theorem s_L_law_285 : den sc d ML_law 285 [some (.ref a), l1, l2, l3] (r) g = den sc d ML_law 286 [some (.ref a), l1, l2, l3] (.ref a :: r) g := eb_aload_n hM_L_law rfl dL_law_285
theorem s_L_law_286 : den sc d ML_law 286 [l0, l1, l2, some (.int x)] (r) g = den sc d ML_law 287 [l0, l1, l2, some (.int x)] (.int x :: r) g := eb_iload_n hM_L_law rfl dL_law_286
theorem s_L_law_287 : den sc d ML_law 287 [l0, l1, l2, l3] (r) g = den sc d ML_law 288 [l0, l1, l2, l3] (.int (1) :: r) g := eb_iconst hM_L_law rfl dL_law_287
theorem s_L_law_288 : den sc d ML_law 288 [l0, l1, l2, l3] (.int y :: .int x :: r) g = den sc d ML_law 289 [l0, l1, l2, l3] (.int (x + y) :: r) g := eb_iadd hM_L_law dL_law_288
theorem s_L_law_289 : den sc d ML_law 289 [l0, l1, l2, l3] (.int i :: .ref a :: r) g = mx_ai (mx_av sc g a) i (fun _ f => den sc d ML_law 290 [l0, l1, l2, l3] (.int (f i.toNatClampNeg) :: r) g) := eb_iald hM_L_law dL_law_289
theorem s_L_law_290 {a0 : Int32} (hrc : mx_rc g a = some 11) : den sc (d + 1) ML_law 290 [l0, l1, l2, l3] (.int a0 :: .ref a :: r) g = mx_ck r (call sc d MX11_person [.ref a, .int a0] g) (fun v g' => den sc (d + 1) ML_law 293 [l0, l1, l2, l3] (v.toList ++ r) g') := eb_virtual hM_L_law hC_L_law rc_12_30_11 (by decide) rfl dL_law_290 rfl rfl rfl rfl hrc
theorem s_L_law_293 : den sc d ML_law 293 [l0, l1, l2, l3] (.int y :: .int x :: r) g = if x = y then den sc d ML_law 1338 [l0, l1, l2, l3] (r) g else den sc d ML_law 296 [l0, l1, l2, l3] (r) g := eb_icmp_eq hM_L_law rfl dL_law_293
theorem s_L_law_296 : den sc d ML_law 296 [l0, l1, l2, l3] (r) g = den sc d ML_law 297 [l0, l1, l2, l3] (.int (0) :: r) g := eb_iconst hM_L_law rfl dL_law_296
theorem s_L_law_297 (hn : narrow .boolean (.int x) = .int x) : den sc d ML_law 297 [l0, l1, l2, l3] ([.int x]) g = some (some (.int x), g) := eb_reti hM_L_law hT_L_law hn dL_law_297
theorem s_L_law_297_0 : den sc d ML_law 297 [l0, l1, l2, l3] ([.int 0]) g = some (some (.int 0), g) := eb_reti hM_L_law hT_L_law rfl dL_law_297
theorem s_L_law_297_1 : den sc d ML_law 297 [l0, l1, l2, l3] ([.int 1]) g = some (some (.int 1), g) := eb_reti hM_L_law hT_L_law rfl dL_law_297
theorem s_L_law_298 : den sc d ML_law 298 [l0, some (.ref a), l2, l3] (r) g = den sc d ML_law 299 [l0, some (.ref a), l2, l3] (.ref a :: r) g := eb_aload_n hM_L_law rfl dL_law_298
theorem s_L_law_299 : den sc d ML_law 299 [some (.ref a), l1, l2, l3] (r) g = den sc d ML_law 300 [some (.ref a), l1, l2, l3] (.ref a :: r) g := eb_aload_n hM_L_law rfl dL_law_299
theorem s_L_law_300 : den sc d ML_law 300 [l0, l1, l2, some (.int x)] (r) g = den sc d ML_law 301 [l0, l1, l2, some (.int x)] (.int x :: r) g := eb_iload_n hM_L_law rfl dL_law_300
theorem s_L_law_301 : den sc d ML_law 301 [l0, l1, l2, l3] (r) g = den sc d ML_law 302 [l0, l1, l2, l3] (.int (1) :: r) g := eb_iconst hM_L_law rfl dL_law_301
theorem s_L_law_302 : den sc d ML_law 302 [l0, l1, l2, l3] (.int y :: .int x :: r) g = den sc d ML_law 303 [l0, l1, l2, l3] (.int (x + y) :: r) g := eb_iadd hM_L_law dL_law_302
theorem s_L_law_303 : den sc d ML_law 303 [l0, l1, l2, l3] (.int i :: .ref a :: r) g = mx_ai (mx_av sc g a) i (fun _ f => den sc d ML_law 304 [l0, l1, l2, l3] (.int (f i.toNatClampNeg) :: r) g) := eb_iald hM_L_law dL_law_303
theorem s_L_law_304 : den sc d ML_law 304 [some (.ref a), l1, l2, l3] (r) g = den sc d ML_law 305 [some (.ref a), l1, l2, l3] (.ref a :: r) g := eb_aload_n hM_L_law rfl dL_law_304
theorem s_L_law_305 : den sc d ML_law 305 [l0, l1, l2, some (.int x)] (r) g = den sc d ML_law 306 [l0, l1, l2, some (.int x)] (.int x :: r) g := eb_iload_n hM_L_law rfl dL_law_305
theorem s_L_law_306 : den sc d ML_law 306 [l0, l1, l2, l3] (r) g = den sc d ML_law 307 [l0, l1, l2, l3] (.int (2) :: r) g := eb_iconst hM_L_law rfl dL_law_306
theorem s_L_law_307 : den sc d ML_law 307 [l0, l1, l2, l3] (.int y :: .int x :: r) g = den sc d ML_law 308 [l0, l1, l2, l3] (.int (x + y) :: r) g := eb_iadd hM_L_law dL_law_307
theorem s_L_law_308 : den sc d ML_law 308 [l0, l1, l2, l3] (.int i :: .ref a :: r) g = mx_ai (mx_av sc g a) i (fun _ f => den sc d ML_law 309 [l0, l1, l2, l3] (.int (f i.toNatClampNeg) :: r) g) := eb_iald hM_L_law dL_law_308
theorem s_L_law_309 {a0 : Int32} {a1 : Int32} (hrc : mx_rc g a = some 10) : den sc (d + 1) ML_law 309 [l0, l1, l2, l3] (.int a1 :: .int a0 :: .ref a :: r) g = mx_ck r (call sc d MX10_of [.ref a, .int a0, .int a1] g) (fun v g' => den sc (d + 1) ML_law 312 [l0, l1, l2, l3] (v.toList ++ r) g') := eb_virtual hM_L_law hC_L_law rc_12_31_10 (by decide) rfl dL_law_309 rfl rfl rfl rfl hrc
theorem s_L_law_312 : den sc d ML_law 312 [l0, l1, some (.ref a), l3] (r) g = den sc d ML_law 313 [l0, l1, some (.ref a), l3] (.ref a :: r) g := eb_aload_n hM_L_law rfl dL_law_312
theorem s_L_law_313 : den sc d ML_law 313 [some (.ref a), l1, l2, l3] (r) g = den sc d ML_law 314 [some (.ref a), l1, l2, l3] (.ref a :: r) g := eb_aload_n hM_L_law rfl dL_law_313
theorem s_L_law_314 : den sc d ML_law 314 [l0, l1, l2, some (.int x)] (r) g = den sc d ML_law 315 [l0, l1, l2, some (.int x)] (.int x :: r) g := eb_iload_n hM_L_law rfl dL_law_314
theorem s_L_law_315 : den sc d ML_law 315 [l0, l1, l2, l3] (r) g = den sc d ML_law 316 [l0, l1, l2, l3] (.int (1) :: r) g := eb_iconst hM_L_law rfl dL_law_315
theorem s_L_law_316 : den sc d ML_law 316 [l0, l1, l2, l3] (.int y :: .int x :: r) g = den sc d ML_law 317 [l0, l1, l2, l3] (.int (x + y) :: r) g := eb_iadd hM_L_law dL_law_316
theorem s_L_law_317 : den sc d ML_law 317 [l0, l1, l2, l3] (.int i :: .ref a :: r) g = mx_ai (mx_av sc g a) i (fun _ f => den sc d ML_law 318 [l0, l1, l2, l3] (.int (f i.toNatClampNeg) :: r) g) := eb_iald hM_L_law dL_law_317
theorem s_L_law_318 : den sc d ML_law 318 [some (.ref a), l1, l2, l3] (r) g = den sc d ML_law 319 [some (.ref a), l1, l2, l3] (.ref a :: r) g := eb_aload_n hM_L_law rfl dL_law_318
theorem s_L_law_319 : den sc d ML_law 319 [l0, l1, l2, some (.int x)] (r) g = den sc d ML_law 320 [l0, l1, l2, some (.int x)] (.int x :: r) g := eb_iload_n hM_L_law rfl dL_law_319
theorem s_L_law_320 : den sc d ML_law 320 [l0, l1, l2, l3] (r) g = den sc d ML_law 321 [l0, l1, l2, l3] (.int (2) :: r) g := eb_iconst hM_L_law rfl dL_law_320
theorem s_L_law_321 : den sc d ML_law 321 [l0, l1, l2, l3] (.int y :: .int x :: r) g = den sc d ML_law 322 [l0, l1, l2, l3] (.int (x + y) :: r) g := eb_iadd hM_L_law dL_law_321
theorem s_L_law_322 : den sc d ML_law 322 [l0, l1, l2, l3] (.int i :: .ref a :: r) g = mx_ai (mx_av sc g a) i (fun _ f => den sc d ML_law 323 [l0, l1, l2, l3] (.int (f i.toNatClampNeg) :: r) g) := eb_iald hM_L_law dL_law_322
theorem s_L_law_323 {a0 : Int32} {a1 : Int32} (hrc : mx_rc g a = some 11) : den sc (d + 1) ML_law 323 [l0, l1, l2, l3] (.int a1 :: .int a0 :: .ref a :: r) g = mx_ck r (call sc d MX11_of [.ref a, .int a0, .int a1] g) (fun v g' => den sc (d + 1) ML_law 326 [l0, l1, l2, l3] (v.toList ++ r) g') := eb_virtual hM_L_law hC_L_law rc_12_34_11 (by decide) rfl dL_law_323 rfl rfl rfl rfl hrc
theorem s_L_law_326 : den sc d ML_law 326 [l0, l1, l2, l3] (.int y :: .int x :: r) g = if x = y then den sc d ML_law 1338 [l0, l1, l2, l3] (r) g else den sc d ML_law 329 [l0, l1, l2, l3] (r) g := eb_icmp_eq hM_L_law rfl dL_law_326
theorem s_L_law_329 : den sc d ML_law 329 [l0, l1, l2, l3] (r) g = den sc d ML_law 330 [l0, l1, l2, l3] (.int (0) :: r) g := eb_iconst hM_L_law rfl dL_law_329
theorem s_L_law_330 (hn : narrow .boolean (.int x) = .int x) : den sc d ML_law 330 [l0, l1, l2, l3] ([.int x]) g = some (some (.int x), g) := eb_reti hM_L_law hT_L_law hn dL_law_330
theorem s_L_law_330_0 : den sc d ML_law 330 [l0, l1, l2, l3] ([.int 0]) g = some (some (.int 0), g) := eb_reti hM_L_law hT_L_law rfl dL_law_330
theorem s_L_law_330_1 : den sc d ML_law 330 [l0, l1, l2, l3] ([.int 1]) g = some (some (.int 1), g) := eb_reti hM_L_law hT_L_law rfl dL_law_330
theorem s_L_law_331 : den sc d ML_law 331 [l0, some (.ref a), l2, l3] (r) g = den sc d ML_law 332 [l0, some (.ref a), l2, l3] (.ref a :: r) g := eb_aload_n hM_L_law rfl dL_law_331
theorem s_L_law_332 : den sc d ML_law 332 [some (.ref a), l1, l2, l3] (r) g = den sc d ML_law 333 [some (.ref a), l1, l2, l3] (.ref a :: r) g := eb_aload_n hM_L_law rfl dL_law_332
theorem s_L_law_333 : den sc d ML_law 333 [l0, l1, l2, some (.int x)] (r) g = den sc d ML_law 334 [l0, l1, l2, some (.int x)] (.int x :: r) g := eb_iload_n hM_L_law rfl dL_law_333
theorem s_L_law_334 : den sc d ML_law 334 [l0, l1, l2, l3] (r) g = den sc d ML_law 335 [l0, l1, l2, l3] (.int (1) :: r) g := eb_iconst hM_L_law rfl dL_law_334
theorem s_L_law_335 : den sc d ML_law 335 [l0, l1, l2, l3] (.int y :: .int x :: r) g = den sc d ML_law 336 [l0, l1, l2, l3] (.int (x + y) :: r) g := eb_iadd hM_L_law dL_law_335
theorem s_L_law_336 : den sc d ML_law 336 [l0, l1, l2, l3] (.int i :: .ref a :: r) g = mx_ai (mx_av sc g a) i (fun _ f => den sc d ML_law 337 [l0, l1, l2, l3] (.int (f i.toNatClampNeg) :: r) g) := eb_iald hM_L_law dL_law_336
theorem s_L_law_337 : den sc d ML_law 337 [some (.ref a), l1, l2, l3] (r) g = den sc d ML_law 338 [some (.ref a), l1, l2, l3] (.ref a :: r) g := eb_aload_n hM_L_law rfl dL_law_337
theorem s_L_law_338 : den sc d ML_law 338 [l0, l1, l2, some (.int x)] (r) g = den sc d ML_law 339 [l0, l1, l2, some (.int x)] (.int x :: r) g := eb_iload_n hM_L_law rfl dL_law_338
theorem s_L_law_339 : den sc d ML_law 339 [l0, l1, l2, l3] (r) g = den sc d ML_law 340 [l0, l1, l2, l3] (.int (2) :: r) g := eb_iconst hM_L_law rfl dL_law_339
theorem s_L_law_340 : den sc d ML_law 340 [l0, l1, l2, l3] (.int y :: .int x :: r) g = den sc d ML_law 341 [l0, l1, l2, l3] (.int (x + y) :: r) g := eb_iadd hM_L_law dL_law_340
theorem s_L_law_341 : den sc d ML_law 341 [l0, l1, l2, l3] (.int i :: .ref a :: r) g = mx_ai (mx_av sc g a) i (fun _ f => den sc d ML_law 342 [l0, l1, l2, l3] (.int (f i.toNatClampNeg) :: r) g) := eb_iald hM_L_law dL_law_341
theorem s_L_law_342 : den sc d ML_law 342 [some (.ref a), l1, l2, l3] (r) g = den sc d ML_law 343 [some (.ref a), l1, l2, l3] (.ref a :: r) g := eb_aload_n hM_L_law rfl dL_law_342
theorem s_L_law_343 : den sc d ML_law 343 [l0, l1, l2, some (.int x)] (r) g = den sc d ML_law 344 [l0, l1, l2, some (.int x)] (.int x :: r) g := eb_iload_n hM_L_law rfl dL_law_343
theorem s_L_law_344 : den sc d ML_law 344 [l0, l1, l2, l3] (r) g = den sc d ML_law 345 [l0, l1, l2, l3] (.int (3) :: r) g := eb_iconst hM_L_law rfl dL_law_344
theorem s_L_law_345 : den sc d ML_law 345 [l0, l1, l2, l3] (.int y :: .int x :: r) g = den sc d ML_law 346 [l0, l1, l2, l3] (.int (x + y) :: r) g := eb_iadd hM_L_law dL_law_345
theorem s_L_law_346 : den sc d ML_law 346 [l0, l1, l2, l3] (.int i :: .ref a :: r) g = mx_ai (mx_av sc g a) i (fun _ f => den sc d ML_law 347 [l0, l1, l2, l3] (.int (f i.toNatClampNeg) :: r) g) := eb_iald hM_L_law dL_law_346
theorem s_L_law_347 {a0 : Int32} {a1 : Int32} {a2 : Int32} (hrc : mx_rc g a = some 10) : den sc (d + 1) ML_law 347 [l0, l1, l2, l3] (.int a2 :: .int a1 :: .int a0 :: .ref a :: r) g = mx_ck r (call sc d MX10_set [.ref a, .int a0, .int a1, .int a2] g) (fun v g' => den sc (d + 1) ML_law 350 [l0, l1, l2, l3] (v.toList ++ r) g') := eb_virtual hM_L_law hC_L_law rc_12_35_10 (by decide) rfl dL_law_347 rfl rfl rfl rfl hrc
theorem s_L_law_350 : den sc d ML_law 350 [l0, l1, some (.ref a), l3] (r) g = den sc d ML_law 351 [l0, l1, some (.ref a), l3] (.ref a :: r) g := eb_aload_n hM_L_law rfl dL_law_350
theorem s_L_law_351 : den sc d ML_law 351 [some (.ref a), l1, l2, l3] (r) g = den sc d ML_law 352 [some (.ref a), l1, l2, l3] (.ref a :: r) g := eb_aload_n hM_L_law rfl dL_law_351
theorem s_L_law_352 : den sc d ML_law 352 [l0, l1, l2, some (.int x)] (r) g = den sc d ML_law 353 [l0, l1, l2, some (.int x)] (.int x :: r) g := eb_iload_n hM_L_law rfl dL_law_352
theorem s_L_law_353 : den sc d ML_law 353 [l0, l1, l2, l3] (r) g = den sc d ML_law 354 [l0, l1, l2, l3] (.int (1) :: r) g := eb_iconst hM_L_law rfl dL_law_353
theorem s_L_law_354 : den sc d ML_law 354 [l0, l1, l2, l3] (.int y :: .int x :: r) g = den sc d ML_law 355 [l0, l1, l2, l3] (.int (x + y) :: r) g := eb_iadd hM_L_law dL_law_354
theorem s_L_law_355 : den sc d ML_law 355 [l0, l1, l2, l3] (.int i :: .ref a :: r) g = mx_ai (mx_av sc g a) i (fun _ f => den sc d ML_law 356 [l0, l1, l2, l3] (.int (f i.toNatClampNeg) :: r) g) := eb_iald hM_L_law dL_law_355
theorem s_L_law_356 : den sc d ML_law 356 [some (.ref a), l1, l2, l3] (r) g = den sc d ML_law 357 [some (.ref a), l1, l2, l3] (.ref a :: r) g := eb_aload_n hM_L_law rfl dL_law_356
theorem s_L_law_357 : den sc d ML_law 357 [l0, l1, l2, some (.int x)] (r) g = den sc d ML_law 358 [l0, l1, l2, some (.int x)] (.int x :: r) g := eb_iload_n hM_L_law rfl dL_law_357
theorem s_L_law_358 : den sc d ML_law 358 [l0, l1, l2, l3] (r) g = den sc d ML_law 359 [l0, l1, l2, l3] (.int (2) :: r) g := eb_iconst hM_L_law rfl dL_law_358
theorem s_L_law_359 : den sc d ML_law 359 [l0, l1, l2, l3] (.int y :: .int x :: r) g = den sc d ML_law 360 [l0, l1, l2, l3] (.int (x + y) :: r) g := eb_iadd hM_L_law dL_law_359
theorem s_L_law_360 : den sc d ML_law 360 [l0, l1, l2, l3] (.int i :: .ref a :: r) g = mx_ai (mx_av sc g a) i (fun _ f => den sc d ML_law 361 [l0, l1, l2, l3] (.int (f i.toNatClampNeg) :: r) g) := eb_iald hM_L_law dL_law_360
theorem s_L_law_361 : den sc d ML_law 361 [some (.ref a), l1, l2, l3] (r) g = den sc d ML_law 362 [some (.ref a), l1, l2, l3] (.ref a :: r) g := eb_aload_n hM_L_law rfl dL_law_361
theorem s_L_law_362 : den sc d ML_law 362 [l0, l1, l2, some (.int x)] (r) g = den sc d ML_law 363 [l0, l1, l2, some (.int x)] (.int x :: r) g := eb_iload_n hM_L_law rfl dL_law_362
theorem s_L_law_363 : den sc d ML_law 363 [l0, l1, l2, l3] (r) g = den sc d ML_law 364 [l0, l1, l2, l3] (.int (3) :: r) g := eb_iconst hM_L_law rfl dL_law_363
theorem s_L_law_364 : den sc d ML_law 364 [l0, l1, l2, l3] (.int y :: .int x :: r) g = den sc d ML_law 365 [l0, l1, l2, l3] (.int (x + y) :: r) g := eb_iadd hM_L_law dL_law_364
theorem s_L_law_365 : den sc d ML_law 365 [l0, l1, l2, l3] (.int i :: .ref a :: r) g = mx_ai (mx_av sc g a) i (fun _ f => den sc d ML_law 366 [l0, l1, l2, l3] (.int (f i.toNatClampNeg) :: r) g) := eb_iald hM_L_law dL_law_365
theorem s_L_law_366 {a0 : Int32} {a1 : Int32} {a2 : Int32} (hrc : mx_rc g a = some 11) : den sc (d + 1) ML_law 366 [l0, l1, l2, l3] (.int a2 :: .int a1 :: .int a0 :: .ref a :: r) g = mx_ck r (call sc d MX11_set [.ref a, .int a0, .int a1, .int a2] g) (fun v g' => den sc (d + 1) ML_law 369 [l0, l1, l2, l3] (v.toList ++ r) g') := eb_virtual hM_L_law hC_L_law rc_12_39_11 (by decide) rfl dL_law_366 rfl rfl rfl rfl hrc
theorem s_L_law_369 : den sc d ML_law 369 [l0, l1, l2, l3] (.int y :: .int x :: r) g = if x = y then den sc d ML_law 1338 [l0, l1, l2, l3] (r) g else den sc d ML_law 372 [l0, l1, l2, l3] (r) g := eb_icmp_eq hM_L_law rfl dL_law_369
theorem s_L_law_372 : den sc d ML_law 372 [l0, l1, l2, l3] (r) g = den sc d ML_law 373 [l0, l1, l2, l3] (.int (0) :: r) g := eb_iconst hM_L_law rfl dL_law_372
theorem s_L_law_373 (hn : narrow .boolean (.int x) = .int x) : den sc d ML_law 373 [l0, l1, l2, l3] ([.int x]) g = some (some (.int x), g) := eb_reti hM_L_law hT_L_law hn dL_law_373
theorem s_L_law_373_0 : den sc d ML_law 373 [l0, l1, l2, l3] ([.int 0]) g = some (some (.int 0), g) := eb_reti hM_L_law hT_L_law rfl dL_law_373
theorem s_L_law_373_1 : den sc d ML_law 373 [l0, l1, l2, l3] ([.int 1]) g = some (some (.int 1), g) := eb_reti hM_L_law hT_L_law rfl dL_law_373
theorem s_L_law_374 : den sc d ML_law 374 [l0, some (.ref a), l2, l3] (r) g = den sc d ML_law 375 [l0, some (.ref a), l2, l3] (.ref a :: r) g := eb_aload_n hM_L_law rfl dL_law_374
theorem s_L_law_375 : den sc d ML_law 375 [some (.ref a), l1, l2, l3] (r) g = den sc d ML_law 376 [some (.ref a), l1, l2, l3] (.ref a :: r) g := eb_aload_n hM_L_law rfl dL_law_375
theorem s_L_law_376 : den sc d ML_law 376 [l0, l1, l2, some (.int x)] (r) g = den sc d ML_law 377 [l0, l1, l2, some (.int x)] (.int x :: r) g := eb_iload_n hM_L_law rfl dL_law_376
theorem s_L_law_377 : den sc d ML_law 377 [l0, l1, l2, l3] (r) g = den sc d ML_law 378 [l0, l1, l2, l3] (.int (1) :: r) g := eb_iconst hM_L_law rfl dL_law_377
theorem s_L_law_378 : den sc d ML_law 378 [l0, l1, l2, l3] (.int y :: .int x :: r) g = den sc d ML_law 379 [l0, l1, l2, l3] (.int (x + y) :: r) g := eb_iadd hM_L_law dL_law_378
theorem s_L_law_379 : den sc d ML_law 379 [l0, l1, l2, l3] (.int i :: .ref a :: r) g = mx_ai (mx_av sc g a) i (fun _ f => den sc d ML_law 380 [l0, l1, l2, l3] (.int (f i.toNatClampNeg) :: r) g) := eb_iald hM_L_law dL_law_379
theorem s_L_law_380 : den sc d ML_law 380 [some (.ref a), l1, l2, l3] (r) g = den sc d ML_law 381 [some (.ref a), l1, l2, l3] (.ref a :: r) g := eb_aload_n hM_L_law rfl dL_law_380
theorem s_L_law_381 : den sc d ML_law 381 [l0, l1, l2, some (.int x)] (r) g = den sc d ML_law 382 [l0, l1, l2, some (.int x)] (.int x :: r) g := eb_iload_n hM_L_law rfl dL_law_381
theorem s_L_law_382 : den sc d ML_law 382 [l0, l1, l2, l3] (r) g = den sc d ML_law 383 [l0, l1, l2, l3] (.int (2) :: r) g := eb_iconst hM_L_law rfl dL_law_382
theorem s_L_law_383 : den sc d ML_law 383 [l0, l1, l2, l3] (.int y :: .int x :: r) g = den sc d ML_law 384 [l0, l1, l2, l3] (.int (x + y) :: r) g := eb_iadd hM_L_law dL_law_383
theorem s_L_law_384 : den sc d ML_law 384 [l0, l1, l2, l3] (.int i :: .ref a :: r) g = mx_ai (mx_av sc g a) i (fun _ f => den sc d ML_law 385 [l0, l1, l2, l3] (.int (f i.toNatClampNeg) :: r) g) := eb_iald hM_L_law dL_law_384
theorem s_L_law_385 {a0 : Int32} {a1 : Int32} (hrc : mx_rc g a = some 10) : den sc (d + 1) ML_law 385 [l0, l1, l2, l3] (.int a1 :: .int a0 :: .ref a :: r) g = mx_ck r (call sc d MX10_turn [.ref a, .int a0, .int a1] g) (fun v g' => den sc (d + 1) ML_law 388 [l0, l1, l2, l3] (v.toList ++ r) g') := eb_virtual hM_L_law hC_L_law rc_12_40_10 (by decide) rfl dL_law_385 rfl rfl rfl rfl hrc
theorem s_L_law_388 : den sc d ML_law 388 [l0, l1, some (.ref a), l3] (r) g = den sc d ML_law 389 [l0, l1, some (.ref a), l3] (.ref a :: r) g := eb_aload_n hM_L_law rfl dL_law_388
theorem s_L_law_389 : den sc d ML_law 389 [some (.ref a), l1, l2, l3] (r) g = den sc d ML_law 390 [some (.ref a), l1, l2, l3] (.ref a :: r) g := eb_aload_n hM_L_law rfl dL_law_389
theorem s_L_law_390 : den sc d ML_law 390 [l0, l1, l2, some (.int x)] (r) g = den sc d ML_law 391 [l0, l1, l2, some (.int x)] (.int x :: r) g := eb_iload_n hM_L_law rfl dL_law_390
theorem s_L_law_391 : den sc d ML_law 391 [l0, l1, l2, l3] (r) g = den sc d ML_law 392 [l0, l1, l2, l3] (.int (1) :: r) g := eb_iconst hM_L_law rfl dL_law_391
theorem s_L_law_392 : den sc d ML_law 392 [l0, l1, l2, l3] (.int y :: .int x :: r) g = den sc d ML_law 393 [l0, l1, l2, l3] (.int (x + y) :: r) g := eb_iadd hM_L_law dL_law_392
theorem s_L_law_393 : den sc d ML_law 393 [l0, l1, l2, l3] (.int i :: .ref a :: r) g = mx_ai (mx_av sc g a) i (fun _ f => den sc d ML_law 394 [l0, l1, l2, l3] (.int (f i.toNatClampNeg) :: r) g) := eb_iald hM_L_law dL_law_393
theorem s_L_law_394 : den sc d ML_law 394 [some (.ref a), l1, l2, l3] (r) g = den sc d ML_law 395 [some (.ref a), l1, l2, l3] (.ref a :: r) g := eb_aload_n hM_L_law rfl dL_law_394
theorem s_L_law_395 : den sc d ML_law 395 [l0, l1, l2, some (.int x)] (r) g = den sc d ML_law 396 [l0, l1, l2, some (.int x)] (.int x :: r) g := eb_iload_n hM_L_law rfl dL_law_395
theorem s_L_law_396 : den sc d ML_law 396 [l0, l1, l2, l3] (r) g = den sc d ML_law 397 [l0, l1, l2, l3] (.int (2) :: r) g := eb_iconst hM_L_law rfl dL_law_396
theorem s_L_law_397 : den sc d ML_law 397 [l0, l1, l2, l3] (.int y :: .int x :: r) g = den sc d ML_law 398 [l0, l1, l2, l3] (.int (x + y) :: r) g := eb_iadd hM_L_law dL_law_397
theorem s_L_law_398 : den sc d ML_law 398 [l0, l1, l2, l3] (.int i :: .ref a :: r) g = mx_ai (mx_av sc g a) i (fun _ f => den sc d ML_law 399 [l0, l1, l2, l3] (.int (f i.toNatClampNeg) :: r) g) := eb_iald hM_L_law dL_law_398
theorem s_L_law_399 {a0 : Int32} {a1 : Int32} (hrc : mx_rc g a = some 11) : den sc (d + 1) ML_law 399 [l0, l1, l2, l3] (.int a1 :: .int a0 :: .ref a :: r) g = mx_ck r (call sc d MX11_turn [.ref a, .int a0, .int a1] g) (fun v g' => den sc (d + 1) ML_law 402 [l0, l1, l2, l3] (v.toList ++ r) g') := eb_virtual hM_L_law hC_L_law rc_12_43_11 (by decide) rfl dL_law_399 rfl rfl rfl rfl hrc
theorem s_L_law_402 : den sc d ML_law 402 [l0, l1, l2, l3] (.int y :: .int x :: r) g = if x = y then den sc d ML_law 1338 [l0, l1, l2, l3] (r) g else den sc d ML_law 405 [l0, l1, l2, l3] (r) g := eb_icmp_eq hM_L_law rfl dL_law_402
theorem s_L_law_405 : den sc d ML_law 405 [l0, l1, l2, l3] (r) g = den sc d ML_law 406 [l0, l1, l2, l3] (.int (0) :: r) g := eb_iconst hM_L_law rfl dL_law_405
theorem s_L_law_406 (hn : narrow .boolean (.int x) = .int x) : den sc d ML_law 406 [l0, l1, l2, l3] ([.int x]) g = some (some (.int x), g) := eb_reti hM_L_law hT_L_law hn dL_law_406
theorem s_L_law_406_0 : den sc d ML_law 406 [l0, l1, l2, l3] ([.int 0]) g = some (some (.int 0), g) := eb_reti hM_L_law hT_L_law rfl dL_law_406
theorem s_L_law_406_1 : den sc d ML_law 406 [l0, l1, l2, l3] ([.int 1]) g = some (some (.int 1), g) := eb_reti hM_L_law hT_L_law rfl dL_law_406
theorem s_L_law_407 : den sc d ML_law 407 [l0, some (.ref a), l2, l3] (r) g = den sc d ML_law 408 [l0, some (.ref a), l2, l3] (.ref a :: r) g := eb_aload_n hM_L_law rfl dL_law_407
theorem s_L_law_408 : den sc d ML_law 408 [some (.ref a), l1, l2, l3] (r) g = den sc d ML_law 409 [some (.ref a), l1, l2, l3] (.ref a :: r) g := eb_aload_n hM_L_law rfl dL_law_408
theorem s_L_law_409 : den sc d ML_law 409 [l0, l1, l2, some (.int x)] (r) g = den sc d ML_law 410 [l0, l1, l2, some (.int x)] (.int x :: r) g := eb_iload_n hM_L_law rfl dL_law_409
theorem s_L_law_410 : den sc d ML_law 410 [l0, l1, l2, l3] (r) g = den sc d ML_law 411 [l0, l1, l2, l3] (.int (1) :: r) g := eb_iconst hM_L_law rfl dL_law_410
theorem s_L_law_411 : den sc d ML_law 411 [l0, l1, l2, l3] (.int y :: .int x :: r) g = den sc d ML_law 412 [l0, l1, l2, l3] (.int (x + y) :: r) g := eb_iadd hM_L_law dL_law_411
theorem s_L_law_412 : den sc d ML_law 412 [l0, l1, l2, l3] (.int i :: .ref a :: r) g = mx_ai (mx_av sc g a) i (fun _ f => den sc d ML_law 413 [l0, l1, l2, l3] (.int (f i.toNatClampNeg) :: r) g) := eb_iald hM_L_law dL_law_412
theorem s_L_law_413 : den sc d ML_law 413 [some (.ref a), l1, l2, l3] (r) g = den sc d ML_law 414 [some (.ref a), l1, l2, l3] (.ref a :: r) g := eb_aload_n hM_L_law rfl dL_law_413
theorem s_L_law_414 : den sc d ML_law 414 [l0, l1, l2, some (.int x)] (r) g = den sc d ML_law 415 [l0, l1, l2, some (.int x)] (.int x :: r) g := eb_iload_n hM_L_law rfl dL_law_414
theorem s_L_law_415 : den sc d ML_law 415 [l0, l1, l2, l3] (r) g = den sc d ML_law 416 [l0, l1, l2, l3] (.int (2) :: r) g := eb_iconst hM_L_law rfl dL_law_415
theorem s_L_law_416 : den sc d ML_law 416 [l0, l1, l2, l3] (.int y :: .int x :: r) g = den sc d ML_law 417 [l0, l1, l2, l3] (.int (x + y) :: r) g := eb_iadd hM_L_law dL_law_416
theorem s_L_law_417 : den sc d ML_law 417 [l0, l1, l2, l3] (.int i :: .ref a :: r) g = mx_ai (mx_av sc g a) i (fun _ f => den sc d ML_law 418 [l0, l1, l2, l3] (.int (f i.toNatClampNeg) :: r) g) := eb_iald hM_L_law dL_law_417
theorem s_L_law_418 {a0 : Int32} {a1 : Int32} (hrc : mx_rc g a = some 10) : den sc (d + 1) ML_law 418 [l0, l1, l2, l3] (.int a1 :: .int a0 :: .ref a :: r) g = mx_ck r (call sc d MX10_as [.ref a, .int a0, .int a1] g) (fun v g' => den sc (d + 1) ML_law 421 [l0, l1, l2, l3] (v.toList ++ r) g') := eb_virtual hM_L_law hC_L_law rc_12_44_10 (by decide) rfl dL_law_418 rfl rfl rfl rfl hrc
theorem s_L_law_421 : den sc d ML_law 421 [l0, l1, some (.ref a), l3] (r) g = den sc d ML_law 422 [l0, l1, some (.ref a), l3] (.ref a :: r) g := eb_aload_n hM_L_law rfl dL_law_421
theorem s_L_law_422 : den sc d ML_law 422 [some (.ref a), l1, l2, l3] (r) g = den sc d ML_law 423 [some (.ref a), l1, l2, l3] (.ref a :: r) g := eb_aload_n hM_L_law rfl dL_law_422
theorem s_L_law_423 : den sc d ML_law 423 [l0, l1, l2, some (.int x)] (r) g = den sc d ML_law 424 [l0, l1, l2, some (.int x)] (.int x :: r) g := eb_iload_n hM_L_law rfl dL_law_423
theorem s_L_law_424 : den sc d ML_law 424 [l0, l1, l2, l3] (r) g = den sc d ML_law 425 [l0, l1, l2, l3] (.int (1) :: r) g := eb_iconst hM_L_law rfl dL_law_424
theorem s_L_law_425 : den sc d ML_law 425 [l0, l1, l2, l3] (.int y :: .int x :: r) g = den sc d ML_law 426 [l0, l1, l2, l3] (.int (x + y) :: r) g := eb_iadd hM_L_law dL_law_425
theorem s_L_law_426 : den sc d ML_law 426 [l0, l1, l2, l3] (.int i :: .ref a :: r) g = mx_ai (mx_av sc g a) i (fun _ f => den sc d ML_law 427 [l0, l1, l2, l3] (.int (f i.toNatClampNeg) :: r) g) := eb_iald hM_L_law dL_law_426
theorem s_L_law_427 : den sc d ML_law 427 [some (.ref a), l1, l2, l3] (r) g = den sc d ML_law 428 [some (.ref a), l1, l2, l3] (.ref a :: r) g := eb_aload_n hM_L_law rfl dL_law_427
theorem s_L_law_428 : den sc d ML_law 428 [l0, l1, l2, some (.int x)] (r) g = den sc d ML_law 429 [l0, l1, l2, some (.int x)] (.int x :: r) g := eb_iload_n hM_L_law rfl dL_law_428
theorem s_L_law_429 : den sc d ML_law 429 [l0, l1, l2, l3] (r) g = den sc d ML_law 430 [l0, l1, l2, l3] (.int (2) :: r) g := eb_iconst hM_L_law rfl dL_law_429
theorem s_L_law_430 : den sc d ML_law 430 [l0, l1, l2, l3] (.int y :: .int x :: r) g = den sc d ML_law 431 [l0, l1, l2, l3] (.int (x + y) :: r) g := eb_iadd hM_L_law dL_law_430
theorem s_L_law_431 : den sc d ML_law 431 [l0, l1, l2, l3] (.int i :: .ref a :: r) g = mx_ai (mx_av sc g a) i (fun _ f => den sc d ML_law 432 [l0, l1, l2, l3] (.int (f i.toNatClampNeg) :: r) g) := eb_iald hM_L_law dL_law_431
theorem s_L_law_432 {a0 : Int32} {a1 : Int32} (hrc : mx_rc g a = some 11) : den sc (d + 1) ML_law 432 [l0, l1, l2, l3] (.int a1 :: .int a0 :: .ref a :: r) g = mx_ck r (call sc d MX11_as [.ref a, .int a0, .int a1] g) (fun v g' => den sc (d + 1) ML_law 435 [l0, l1, l2, l3] (v.toList ++ r) g') := eb_virtual hM_L_law hC_L_law rc_12_47_11 (by decide) rfl dL_law_432 rfl rfl rfl rfl hrc
theorem s_L_law_435 : den sc d ML_law 435 [l0, l1, l2, l3] (.int y :: .int x :: r) g = if x = y then den sc d ML_law 1338 [l0, l1, l2, l3] (r) g else den sc d ML_law 438 [l0, l1, l2, l3] (r) g := eb_icmp_eq hM_L_law rfl dL_law_435
theorem s_L_law_438 : den sc d ML_law 438 [l0, l1, l2, l3] (r) g = den sc d ML_law 439 [l0, l1, l2, l3] (.int (0) :: r) g := eb_iconst hM_L_law rfl dL_law_438
theorem s_L_law_439 (hn : narrow .boolean (.int x) = .int x) : den sc d ML_law 439 [l0, l1, l2, l3] ([.int x]) g = some (some (.int x), g) := eb_reti hM_L_law hT_L_law hn dL_law_439
theorem s_L_law_439_0 : den sc d ML_law 439 [l0, l1, l2, l3] ([.int 0]) g = some (some (.int 0), g) := eb_reti hM_L_law hT_L_law rfl dL_law_439
theorem s_L_law_439_1 : den sc d ML_law 439 [l0, l1, l2, l3] ([.int 1]) g = some (some (.int 1), g) := eb_reti hM_L_law hT_L_law rfl dL_law_439
theorem s_L_law_440 : den sc d ML_law 440 [l0, some (.ref a), l2, l3] (r) g = den sc d ML_law 441 [l0, some (.ref a), l2, l3] (.ref a :: r) g := eb_aload_n hM_L_law rfl dL_law_440
theorem s_L_law_441 : den sc d ML_law 441 [some (.ref a), l1, l2, l3] (r) g = den sc d ML_law 442 [some (.ref a), l1, l2, l3] (.ref a :: r) g := eb_aload_n hM_L_law rfl dL_law_441
theorem s_L_law_442 : den sc d ML_law 442 [l0, l1, l2, some (.int x)] (r) g = den sc d ML_law 443 [l0, l1, l2, some (.int x)] (.int x :: r) g := eb_iload_n hM_L_law rfl dL_law_442
theorem s_L_law_443 : den sc d ML_law 443 [l0, l1, l2, l3] (r) g = den sc d ML_law 444 [l0, l1, l2, l3] (.int (1) :: r) g := eb_iconst hM_L_law rfl dL_law_443
theorem s_L_law_444 : den sc d ML_law 444 [l0, l1, l2, l3] (.int y :: .int x :: r) g = den sc d ML_law 445 [l0, l1, l2, l3] (.int (x + y) :: r) g := eb_iadd hM_L_law dL_law_444
theorem s_L_law_445 : den sc d ML_law 445 [l0, l1, l2, l3] (.int i :: .ref a :: r) g = mx_ai (mx_av sc g a) i (fun _ f => den sc d ML_law 446 [l0, l1, l2, l3] (.int (f i.toNatClampNeg) :: r) g) := eb_iald hM_L_law dL_law_445
theorem s_L_law_446 : den sc d ML_law 446 [some (.ref a), l1, l2, l3] (r) g = den sc d ML_law 447 [some (.ref a), l1, l2, l3] (.ref a :: r) g := eb_aload_n hM_L_law rfl dL_law_446
theorem s_L_law_447 : den sc d ML_law 447 [l0, l1, l2, some (.int x)] (r) g = den sc d ML_law 448 [l0, l1, l2, some (.int x)] (.int x :: r) g := eb_iload_n hM_L_law rfl dL_law_447
theorem s_L_law_448 : den sc d ML_law 448 [l0, l1, l2, l3] (r) g = den sc d ML_law 449 [l0, l1, l2, l3] (.int (2) :: r) g := eb_iconst hM_L_law rfl dL_law_448
theorem s_L_law_449 : den sc d ML_law 449 [l0, l1, l2, l3] (.int y :: .int x :: r) g = den sc d ML_law 450 [l0, l1, l2, l3] (.int (x + y) :: r) g := eb_iadd hM_L_law dL_law_449
theorem s_L_law_450 : den sc d ML_law 450 [l0, l1, l2, l3] (.int i :: .ref a :: r) g = mx_ai (mx_av sc g a) i (fun _ f => den sc d ML_law 451 [l0, l1, l2, l3] (.int (f i.toNatClampNeg) :: r) g) := eb_iald hM_L_law dL_law_450
theorem s_L_law_451 {a0 : Int32} {a1 : Int32} (hrc : mx_rc g a = some 10) : den sc (d + 1) ML_law 451 [l0, l1, l2, l3] (.int a1 :: .int a0 :: .ref a :: r) g = mx_ck r (call sc d MX10_give [.ref a, .int a0, .int a1] g) (fun v g' => den sc (d + 1) ML_law 454 [l0, l1, l2, l3] (v.toList ++ r) g') := eb_virtual hM_L_law hC_L_law rc_12_48_10 (by decide) rfl dL_law_451 rfl rfl rfl rfl hrc
theorem s_L_law_454 : den sc d ML_law 454 [l0, l1, some (.ref a), l3] (r) g = den sc d ML_law 455 [l0, l1, some (.ref a), l3] (.ref a :: r) g := eb_aload_n hM_L_law rfl dL_law_454
theorem s_L_law_455 : den sc d ML_law 455 [some (.ref a), l1, l2, l3] (r) g = den sc d ML_law 456 [some (.ref a), l1, l2, l3] (.ref a :: r) g := eb_aload_n hM_L_law rfl dL_law_455
theorem s_L_law_456 : den sc d ML_law 456 [l0, l1, l2, some (.int x)] (r) g = den sc d ML_law 457 [l0, l1, l2, some (.int x)] (.int x :: r) g := eb_iload_n hM_L_law rfl dL_law_456
theorem s_L_law_457 : den sc d ML_law 457 [l0, l1, l2, l3] (r) g = den sc d ML_law 458 [l0, l1, l2, l3] (.int (1) :: r) g := eb_iconst hM_L_law rfl dL_law_457
theorem s_L_law_458 : den sc d ML_law 458 [l0, l1, l2, l3] (.int y :: .int x :: r) g = den sc d ML_law 459 [l0, l1, l2, l3] (.int (x + y) :: r) g := eb_iadd hM_L_law dL_law_458
theorem s_L_law_459 : den sc d ML_law 459 [l0, l1, l2, l3] (.int i :: .ref a :: r) g = mx_ai (mx_av sc g a) i (fun _ f => den sc d ML_law 460 [l0, l1, l2, l3] (.int (f i.toNatClampNeg) :: r) g) := eb_iald hM_L_law dL_law_459
theorem s_L_law_460 : den sc d ML_law 460 [some (.ref a), l1, l2, l3] (r) g = den sc d ML_law 461 [some (.ref a), l1, l2, l3] (.ref a :: r) g := eb_aload_n hM_L_law rfl dL_law_460
theorem s_L_law_461 : den sc d ML_law 461 [l0, l1, l2, some (.int x)] (r) g = den sc d ML_law 462 [l0, l1, l2, some (.int x)] (.int x :: r) g := eb_iload_n hM_L_law rfl dL_law_461
theorem s_L_law_462 : den sc d ML_law 462 [l0, l1, l2, l3] (r) g = den sc d ML_law 463 [l0, l1, l2, l3] (.int (2) :: r) g := eb_iconst hM_L_law rfl dL_law_462
theorem s_L_law_463 : den sc d ML_law 463 [l0, l1, l2, l3] (.int y :: .int x :: r) g = den sc d ML_law 464 [l0, l1, l2, l3] (.int (x + y) :: r) g := eb_iadd hM_L_law dL_law_463
theorem s_L_law_464 : den sc d ML_law 464 [l0, l1, l2, l3] (.int i :: .ref a :: r) g = mx_ai (mx_av sc g a) i (fun _ f => den sc d ML_law 465 [l0, l1, l2, l3] (.int (f i.toNatClampNeg) :: r) g) := eb_iald hM_L_law dL_law_464
theorem s_L_law_465 {a0 : Int32} {a1 : Int32} (hrc : mx_rc g a = some 11) : den sc (d + 1) ML_law 465 [l0, l1, l2, l3] (.int a1 :: .int a0 :: .ref a :: r) g = mx_ck r (call sc d MX11_give [.ref a, .int a0, .int a1] g) (fun v g' => den sc (d + 1) ML_law 468 [l0, l1, l2, l3] (v.toList ++ r) g') := eb_virtual hM_L_law hC_L_law rc_12_51_11 (by decide) rfl dL_law_465 rfl rfl rfl rfl hrc
theorem s_L_law_468 : den sc d ML_law 468 [l0, l1, l2, l3] (.int y :: .int x :: r) g = if x = y then den sc d ML_law 1338 [l0, l1, l2, l3] (r) g else den sc d ML_law 471 [l0, l1, l2, l3] (r) g := eb_icmp_eq hM_L_law rfl dL_law_468
theorem s_L_law_471 : den sc d ML_law 471 [l0, l1, l2, l3] (r) g = den sc d ML_law 472 [l0, l1, l2, l3] (.int (0) :: r) g := eb_iconst hM_L_law rfl dL_law_471
theorem s_L_law_472 (hn : narrow .boolean (.int x) = .int x) : den sc d ML_law 472 [l0, l1, l2, l3] ([.int x]) g = some (some (.int x), g) := eb_reti hM_L_law hT_L_law hn dL_law_472
theorem s_L_law_472_0 : den sc d ML_law 472 [l0, l1, l2, l3] ([.int 0]) g = some (some (.int 0), g) := eb_reti hM_L_law hT_L_law rfl dL_law_472
theorem s_L_law_472_1 : den sc d ML_law 472 [l0, l1, l2, l3] ([.int 1]) g = some (some (.int 1), g) := eb_reti hM_L_law hT_L_law rfl dL_law_472
theorem s_L_law_473 : den sc d ML_law 473 [l0, some (.ref a), l2, l3] (r) g = den sc d ML_law 474 [l0, some (.ref a), l2, l3] (.ref a :: r) g := eb_aload_n hM_L_law rfl dL_law_473
theorem s_L_law_474 : den sc d ML_law 474 [some (.ref a), l1, l2, l3] (r) g = den sc d ML_law 475 [some (.ref a), l1, l2, l3] (.ref a :: r) g := eb_aload_n hM_L_law rfl dL_law_474
theorem s_L_law_475 : den sc d ML_law 475 [l0, l1, l2, some (.int x)] (r) g = den sc d ML_law 476 [l0, l1, l2, some (.int x)] (.int x :: r) g := eb_iload_n hM_L_law rfl dL_law_475
theorem s_L_law_476 : den sc d ML_law 476 [l0, l1, l2, l3] (r) g = den sc d ML_law 477 [l0, l1, l2, l3] (.int (1) :: r) g := eb_iconst hM_L_law rfl dL_law_476
theorem s_L_law_477 : den sc d ML_law 477 [l0, l1, l2, l3] (.int y :: .int x :: r) g = den sc d ML_law 478 [l0, l1, l2, l3] (.int (x + y) :: r) g := eb_iadd hM_L_law dL_law_477
theorem s_L_law_478 : den sc d ML_law 478 [l0, l1, l2, l3] (.int i :: .ref a :: r) g = mx_ai (mx_av sc g a) i (fun _ f => den sc d ML_law 479 [l0, l1, l2, l3] (.int (f i.toNatClampNeg) :: r) g) := eb_iald hM_L_law dL_law_478
theorem s_L_law_479 : den sc d ML_law 479 [some (.ref a), l1, l2, l3] (r) g = den sc d ML_law 480 [some (.ref a), l1, l2, l3] (.ref a :: r) g := eb_aload_n hM_L_law rfl dL_law_479
theorem s_L_law_480 : den sc d ML_law 480 [l0, l1, l2, some (.int x)] (r) g = den sc d ML_law 481 [l0, l1, l2, some (.int x)] (.int x :: r) g := eb_iload_n hM_L_law rfl dL_law_480
theorem s_L_law_481 : den sc d ML_law 481 [l0, l1, l2, l3] (r) g = den sc d ML_law 482 [l0, l1, l2, l3] (.int (2) :: r) g := eb_iconst hM_L_law rfl dL_law_481
theorem s_L_law_482 : den sc d ML_law 482 [l0, l1, l2, l3] (.int y :: .int x :: r) g = den sc d ML_law 483 [l0, l1, l2, l3] (.int (x + y) :: r) g := eb_iadd hM_L_law dL_law_482
theorem s_L_law_483 : den sc d ML_law 483 [l0, l1, l2, l3] (.int i :: .ref a :: r) g = mx_ai (mx_av sc g a) i (fun _ f => den sc d ML_law 484 [l0, l1, l2, l3] (.int (f i.toNatClampNeg) :: r) g) := eb_iald hM_L_law dL_law_483
theorem s_L_law_484 : den sc d ML_law 484 [some (.ref a), l1, l2, l3] (r) g = den sc d ML_law 485 [some (.ref a), l1, l2, l3] (.ref a :: r) g := eb_aload_n hM_L_law rfl dL_law_484
theorem s_L_law_485 : den sc d ML_law 485 [l0, l1, l2, some (.int x)] (r) g = den sc d ML_law 486 [l0, l1, l2, some (.int x)] (.int x :: r) g := eb_iload_n hM_L_law rfl dL_law_485
theorem s_L_law_486 : den sc d ML_law 486 [l0, l1, l2, l3] (r) g = den sc d ML_law 487 [l0, l1, l2, l3] (.int (3) :: r) g := eb_iconst hM_L_law rfl dL_law_486
theorem s_L_law_487 : den sc d ML_law 487 [l0, l1, l2, l3] (.int y :: .int x :: r) g = den sc d ML_law 488 [l0, l1, l2, l3] (.int (x + y) :: r) g := eb_iadd hM_L_law dL_law_487
theorem s_L_law_488 : den sc d ML_law 488 [l0, l1, l2, l3] (.int i :: .ref a :: r) g = mx_ai (mx_av sc g a) i (fun _ f => den sc d ML_law 489 [l0, l1, l2, l3] (.int (f i.toNatClampNeg) :: r) g) := eb_iald hM_L_law dL_law_488
theorem s_L_law_489 {a0 : Int32} {a1 : Int32} {a2 : Int32} (hrc : mx_rc g a = some 10) : den sc (d + 1) ML_law 489 [l0, l1, l2, l3] (.int a2 :: .int a1 :: .int a0 :: .ref a :: r) g = mx_ck r (call sc d MX10_hand [.ref a, .int a0, .int a1, .int a2] g) (fun v g' => den sc (d + 1) ML_law 492 [l0, l1, l2, l3] (v.toList ++ r) g') := eb_virtual hM_L_law hC_L_law rc_12_52_10 (by decide) rfl dL_law_489 rfl rfl rfl rfl hrc
theorem s_L_law_492 : den sc d ML_law 492 [l0, l1, some (.ref a), l3] (r) g = den sc d ML_law 493 [l0, l1, some (.ref a), l3] (.ref a :: r) g := eb_aload_n hM_L_law rfl dL_law_492
theorem s_L_law_493 : den sc d ML_law 493 [some (.ref a), l1, l2, l3] (r) g = den sc d ML_law 494 [some (.ref a), l1, l2, l3] (.ref a :: r) g := eb_aload_n hM_L_law rfl dL_law_493
theorem s_L_law_494 : den sc d ML_law 494 [l0, l1, l2, some (.int x)] (r) g = den sc d ML_law 495 [l0, l1, l2, some (.int x)] (.int x :: r) g := eb_iload_n hM_L_law rfl dL_law_494
theorem s_L_law_495 : den sc d ML_law 495 [l0, l1, l2, l3] (r) g = den sc d ML_law 496 [l0, l1, l2, l3] (.int (1) :: r) g := eb_iconst hM_L_law rfl dL_law_495
theorem s_L_law_496 : den sc d ML_law 496 [l0, l1, l2, l3] (.int y :: .int x :: r) g = den sc d ML_law 497 [l0, l1, l2, l3] (.int (x + y) :: r) g := eb_iadd hM_L_law dL_law_496
theorem s_L_law_497 : den sc d ML_law 497 [l0, l1, l2, l3] (.int i :: .ref a :: r) g = mx_ai (mx_av sc g a) i (fun _ f => den sc d ML_law 498 [l0, l1, l2, l3] (.int (f i.toNatClampNeg) :: r) g) := eb_iald hM_L_law dL_law_497
theorem s_L_law_498 : den sc d ML_law 498 [some (.ref a), l1, l2, l3] (r) g = den sc d ML_law 499 [some (.ref a), l1, l2, l3] (.ref a :: r) g := eb_aload_n hM_L_law rfl dL_law_498
theorem s_L_law_499 : den sc d ML_law 499 [l0, l1, l2, some (.int x)] (r) g = den sc d ML_law 500 [l0, l1, l2, some (.int x)] (.int x :: r) g := eb_iload_n hM_L_law rfl dL_law_499
theorem s_L_law_500 : den sc d ML_law 500 [l0, l1, l2, l3] (r) g = den sc d ML_law 501 [l0, l1, l2, l3] (.int (2) :: r) g := eb_iconst hM_L_law rfl dL_law_500
theorem s_L_law_501 : den sc d ML_law 501 [l0, l1, l2, l3] (.int y :: .int x :: r) g = den sc d ML_law 502 [l0, l1, l2, l3] (.int (x + y) :: r) g := eb_iadd hM_L_law dL_law_501
theorem s_L_law_502 : den sc d ML_law 502 [l0, l1, l2, l3] (.int i :: .ref a :: r) g = mx_ai (mx_av sc g a) i (fun _ f => den sc d ML_law 503 [l0, l1, l2, l3] (.int (f i.toNatClampNeg) :: r) g) := eb_iald hM_L_law dL_law_502
theorem s_L_law_503 : den sc d ML_law 503 [some (.ref a), l1, l2, l3] (r) g = den sc d ML_law 504 [some (.ref a), l1, l2, l3] (.ref a :: r) g := eb_aload_n hM_L_law rfl dL_law_503
theorem s_L_law_504 : den sc d ML_law 504 [l0, l1, l2, some (.int x)] (r) g = den sc d ML_law 505 [l0, l1, l2, some (.int x)] (.int x :: r) g := eb_iload_n hM_L_law rfl dL_law_504
theorem s_L_law_505 : den sc d ML_law 505 [l0, l1, l2, l3] (r) g = den sc d ML_law 506 [l0, l1, l2, l3] (.int (3) :: r) g := eb_iconst hM_L_law rfl dL_law_505
theorem s_L_law_506 : den sc d ML_law 506 [l0, l1, l2, l3] (.int y :: .int x :: r) g = den sc d ML_law 507 [l0, l1, l2, l3] (.int (x + y) :: r) g := eb_iadd hM_L_law dL_law_506
theorem s_L_law_507 : den sc d ML_law 507 [l0, l1, l2, l3] (.int i :: .ref a :: r) g = mx_ai (mx_av sc g a) i (fun _ f => den sc d ML_law 508 [l0, l1, l2, l3] (.int (f i.toNatClampNeg) :: r) g) := eb_iald hM_L_law dL_law_507
theorem s_L_law_508 {a0 : Int32} {a1 : Int32} {a2 : Int32} (hrc : mx_rc g a = some 11) : den sc (d + 1) ML_law 508 [l0, l1, l2, l3] (.int a2 :: .int a1 :: .int a0 :: .ref a :: r) g = mx_ck r (call sc d MX11_hand [.ref a, .int a0, .int a1, .int a2] g) (fun v g' => den sc (d + 1) ML_law 511 [l0, l1, l2, l3] (v.toList ++ r) g') := eb_virtual hM_L_law hC_L_law rc_12_55_11 (by decide) rfl dL_law_508 rfl rfl rfl rfl hrc
theorem s_L_law_511 : den sc d ML_law 511 [l0, l1, l2, l3] (.int y :: .int x :: r) g = if x = y then den sc d ML_law 1338 [l0, l1, l2, l3] (r) g else den sc d ML_law 514 [l0, l1, l2, l3] (r) g := eb_icmp_eq hM_L_law rfl dL_law_511
theorem s_L_law_514 : den sc d ML_law 514 [l0, l1, l2, l3] (r) g = den sc d ML_law 515 [l0, l1, l2, l3] (.int (0) :: r) g := eb_iconst hM_L_law rfl dL_law_514
theorem s_L_law_515 (hn : narrow .boolean (.int x) = .int x) : den sc d ML_law 515 [l0, l1, l2, l3] ([.int x]) g = some (some (.int x), g) := eb_reti hM_L_law hT_L_law hn dL_law_515
theorem s_L_law_515_0 : den sc d ML_law 515 [l0, l1, l2, l3] ([.int 0]) g = some (some (.int 0), g) := eb_reti hM_L_law hT_L_law rfl dL_law_515
theorem s_L_law_515_1 : den sc d ML_law 515 [l0, l1, l2, l3] ([.int 1]) g = some (some (.int 1), g) := eb_reti hM_L_law hT_L_law rfl dL_law_515
theorem s_L_law_516 : den sc d ML_law 516 [l0, some (.ref a), l2, l3] (r) g = den sc d ML_law 517 [l0, some (.ref a), l2, l3] (.ref a :: r) g := eb_aload_n hM_L_law rfl dL_law_516
theorem s_L_law_517 : den sc d ML_law 517 [some (.ref a), l1, l2, l3] (r) g = den sc d ML_law 518 [some (.ref a), l1, l2, l3] (.ref a :: r) g := eb_aload_n hM_L_law rfl dL_law_517
theorem s_L_law_518 : den sc d ML_law 518 [l0, l1, l2, some (.int x)] (r) g = den sc d ML_law 519 [l0, l1, l2, some (.int x)] (.int x :: r) g := eb_iload_n hM_L_law rfl dL_law_518
theorem s_L_law_519 : den sc d ML_law 519 [l0, l1, l2, l3] (r) g = den sc d ML_law 520 [l0, l1, l2, l3] (.int (1) :: r) g := eb_iconst hM_L_law rfl dL_law_519
theorem s_L_law_520 : den sc d ML_law 520 [l0, l1, l2, l3] (.int y :: .int x :: r) g = den sc d ML_law 521 [l0, l1, l2, l3] (.int (x + y) :: r) g := eb_iadd hM_L_law dL_law_520
theorem s_L_law_521 : den sc d ML_law 521 [l0, l1, l2, l3] (.int i :: .ref a :: r) g = mx_ai (mx_av sc g a) i (fun _ f => den sc d ML_law 522 [l0, l1, l2, l3] (.int (f i.toNatClampNeg) :: r) g) := eb_iald hM_L_law dL_law_521
theorem s_L_law_522 {a0 : Int32} (hrc : mx_rc g a = some 10) : den sc (d + 1) ML_law 522 [l0, l1, l2, l3] (.int a0 :: .ref a :: r) g = mx_ck r (call sc d MX10_border [.ref a, .int a0] g) (fun v g' => den sc (d + 1) ML_law 525 [l0, l1, l2, l3] (v.toList ++ r) g') := eb_virtual hM_L_law hC_L_law rc_12_56_10 (by decide) rfl dL_law_522 rfl rfl rfl rfl hrc
theorem s_L_law_525 : den sc d ML_law 525 [l0, l1, some (.ref a), l3] (r) g = den sc d ML_law 526 [l0, l1, some (.ref a), l3] (.ref a :: r) g := eb_aload_n hM_L_law rfl dL_law_525
theorem s_L_law_526 : den sc d ML_law 526 [some (.ref a), l1, l2, l3] (r) g = den sc d ML_law 527 [some (.ref a), l1, l2, l3] (.ref a :: r) g := eb_aload_n hM_L_law rfl dL_law_526
theorem s_L_law_527 : den sc d ML_law 527 [l0, l1, l2, some (.int x)] (r) g = den sc d ML_law 528 [l0, l1, l2, some (.int x)] (.int x :: r) g := eb_iload_n hM_L_law rfl dL_law_527
theorem s_L_law_528 : den sc d ML_law 528 [l0, l1, l2, l3] (r) g = den sc d ML_law 529 [l0, l1, l2, l3] (.int (1) :: r) g := eb_iconst hM_L_law rfl dL_law_528
theorem s_L_law_529 : den sc d ML_law 529 [l0, l1, l2, l3] (.int y :: .int x :: r) g = den sc d ML_law 530 [l0, l1, l2, l3] (.int (x + y) :: r) g := eb_iadd hM_L_law dL_law_529
theorem s_L_law_530 : den sc d ML_law 530 [l0, l1, l2, l3] (.int i :: .ref a :: r) g = mx_ai (mx_av sc g a) i (fun _ f => den sc d ML_law 531 [l0, l1, l2, l3] (.int (f i.toNatClampNeg) :: r) g) := eb_iald hM_L_law dL_law_530
theorem s_L_law_531 {a0 : Int32} (hrc : mx_rc g a = some 11) : den sc (d + 1) ML_law 531 [l0, l1, l2, l3] (.int a0 :: .ref a :: r) g = mx_ck r (call sc d MX11_border [.ref a, .int a0] g) (fun v g' => den sc (d + 1) ML_law 534 [l0, l1, l2, l3] (v.toList ++ r) g') := eb_virtual hM_L_law hC_L_law rc_12_59_11 (by decide) rfl dL_law_531 rfl rfl rfl rfl hrc
theorem s_L_law_534 : den sc d ML_law 534 [l0, l1, l2, l3] (.int y :: .int x :: r) g = if x = y then den sc d ML_law 1338 [l0, l1, l2, l3] (r) g else den sc d ML_law 537 [l0, l1, l2, l3] (r) g := eb_icmp_eq hM_L_law rfl dL_law_534
theorem s_L_law_537 : den sc d ML_law 537 [l0, l1, l2, l3] (r) g = den sc d ML_law 538 [l0, l1, l2, l3] (.int (0) :: r) g := eb_iconst hM_L_law rfl dL_law_537
theorem s_L_law_538 (hn : narrow .boolean (.int x) = .int x) : den sc d ML_law 538 [l0, l1, l2, l3] ([.int x]) g = some (some (.int x), g) := eb_reti hM_L_law hT_L_law hn dL_law_538
theorem s_L_law_538_0 : den sc d ML_law 538 [l0, l1, l2, l3] ([.int 0]) g = some (some (.int 0), g) := eb_reti hM_L_law hT_L_law rfl dL_law_538
theorem s_L_law_538_1 : den sc d ML_law 538 [l0, l1, l2, l3] ([.int 1]) g = some (some (.int 1), g) := eb_reti hM_L_law hT_L_law rfl dL_law_538
theorem s_L_law_539 : den sc d ML_law 539 [l0, some (.ref a), l2, l3] (r) g = den sc d ML_law 540 [l0, some (.ref a), l2, l3] (.ref a :: r) g := eb_aload_n hM_L_law rfl dL_law_539
theorem s_L_law_540 : den sc d ML_law 540 [some (.ref a), l1, l2, l3] (r) g = den sc d ML_law 541 [some (.ref a), l1, l2, l3] (.ref a :: r) g := eb_aload_n hM_L_law rfl dL_law_540
theorem s_L_law_541 : den sc d ML_law 541 [l0, l1, l2, some (.int x)] (r) g = den sc d ML_law 542 [l0, l1, l2, some (.int x)] (.int x :: r) g := eb_iload_n hM_L_law rfl dL_law_541
theorem s_L_law_542 : den sc d ML_law 542 [l0, l1, l2, l3] (r) g = den sc d ML_law 543 [l0, l1, l2, l3] (.int (1) :: r) g := eb_iconst hM_L_law rfl dL_law_542
theorem s_L_law_543 : den sc d ML_law 543 [l0, l1, l2, l3] (.int y :: .int x :: r) g = den sc d ML_law 544 [l0, l1, l2, l3] (.int (x + y) :: r) g := eb_iadd hM_L_law dL_law_543
theorem s_L_law_544 : den sc d ML_law 544 [l0, l1, l2, l3] (.int i :: .ref a :: r) g = mx_ai (mx_av sc g a) i (fun _ f => den sc d ML_law 545 [l0, l1, l2, l3] (.int (f i.toNatClampNeg) :: r) g) := eb_iald hM_L_law dL_law_544
theorem s_L_law_545 {a0 : Int32} (hrc : mx_rc g a = some 10) : den sc (d + 1) ML_law 545 [l0, l1, l2, l3] (.int a0 :: .ref a :: r) g = mx_ck r (call sc d MX10_years [.ref a, .int a0] g) (fun v g' => den sc (d + 1) ML_law 548 [l0, l1, l2, l3] (v.toList ++ r) g') := eb_virtual hM_L_law hC_L_law rc_12_60_10 (by decide) rfl dL_law_545 rfl rfl rfl rfl hrc
theorem s_L_law_548 : den sc d ML_law 548 [l0, l1, some (.ref a), l3] (r) g = den sc d ML_law 549 [l0, l1, some (.ref a), l3] (.ref a :: r) g := eb_aload_n hM_L_law rfl dL_law_548
theorem s_L_law_549 : den sc d ML_law 549 [some (.ref a), l1, l2, l3] (r) g = den sc d ML_law 550 [some (.ref a), l1, l2, l3] (.ref a :: r) g := eb_aload_n hM_L_law rfl dL_law_549
theorem s_L_law_550 : den sc d ML_law 550 [l0, l1, l2, some (.int x)] (r) g = den sc d ML_law 551 [l0, l1, l2, some (.int x)] (.int x :: r) g := eb_iload_n hM_L_law rfl dL_law_550
theorem s_L_law_551 : den sc d ML_law 551 [l0, l1, l2, l3] (r) g = den sc d ML_law 552 [l0, l1, l2, l3] (.int (1) :: r) g := eb_iconst hM_L_law rfl dL_law_551
theorem s_L_law_552 : den sc d ML_law 552 [l0, l1, l2, l3] (.int y :: .int x :: r) g = den sc d ML_law 553 [l0, l1, l2, l3] (.int (x + y) :: r) g := eb_iadd hM_L_law dL_law_552
theorem s_L_law_553 : den sc d ML_law 553 [l0, l1, l2, l3] (.int i :: .ref a :: r) g = mx_ai (mx_av sc g a) i (fun _ f => den sc d ML_law 554 [l0, l1, l2, l3] (.int (f i.toNatClampNeg) :: r) g) := eb_iald hM_L_law dL_law_553
theorem s_L_law_554 {a0 : Int32} (hrc : mx_rc g a = some 11) : den sc (d + 1) ML_law 554 [l0, l1, l2, l3] (.int a0 :: .ref a :: r) g = mx_ck r (call sc d MX11_years [.ref a, .int a0] g) (fun v g' => den sc (d + 1) ML_law 557 [l0, l1, l2, l3] (v.toList ++ r) g') := eb_virtual hM_L_law hC_L_law rc_12_63_11 (by decide) rfl dL_law_554 rfl rfl rfl rfl hrc
theorem s_L_law_557 : den sc d ML_law 557 [l0, l1, l2, l3] (.int y :: .int x :: r) g = if x = y then den sc d ML_law 1338 [l0, l1, l2, l3] (r) g else den sc d ML_law 560 [l0, l1, l2, l3] (r) g := eb_icmp_eq hM_L_law rfl dL_law_557
theorem s_L_law_560 : den sc d ML_law 560 [l0, l1, l2, l3] (r) g = den sc d ML_law 561 [l0, l1, l2, l3] (.int (0) :: r) g := eb_iconst hM_L_law rfl dL_law_560
theorem s_L_law_561 (hn : narrow .boolean (.int x) = .int x) : den sc d ML_law 561 [l0, l1, l2, l3] ([.int x]) g = some (some (.int x), g) := eb_reti hM_L_law hT_L_law hn dL_law_561
theorem s_L_law_561_0 : den sc d ML_law 561 [l0, l1, l2, l3] ([.int 0]) g = some (some (.int 0), g) := eb_reti hM_L_law hT_L_law rfl dL_law_561
theorem s_L_law_561_1 : den sc d ML_law 561 [l0, l1, l2, l3] ([.int 1]) g = some (some (.int 1), g) := eb_reti hM_L_law hT_L_law rfl dL_law_561
theorem s_L_law_562 : den sc d ML_law 562 [l0, some (.ref a), l2, l3] (r) g = den sc d ML_law 563 [l0, some (.ref a), l2, l3] (.ref a :: r) g := eb_aload_n hM_L_law rfl dL_law_562
theorem s_L_law_563 : den sc d ML_law 563 [some (.ref a), l1, l2, l3] (r) g = den sc d ML_law 564 [some (.ref a), l1, l2, l3] (.ref a :: r) g := eb_aload_n hM_L_law rfl dL_law_563
theorem s_L_law_564 : den sc d ML_law 564 [l0, l1, l2, some (.int x)] (r) g = den sc d ML_law 565 [l0, l1, l2, some (.int x)] (.int x :: r) g := eb_iload_n hM_L_law rfl dL_law_564
theorem s_L_law_565 : den sc d ML_law 565 [l0, l1, l2, l3] (r) g = den sc d ML_law 566 [l0, l1, l2, l3] (.int (1) :: r) g := eb_iconst hM_L_law rfl dL_law_565
theorem s_L_law_566 : den sc d ML_law 566 [l0, l1, l2, l3] (.int y :: .int x :: r) g = den sc d ML_law 567 [l0, l1, l2, l3] (.int (x + y) :: r) g := eb_iadd hM_L_law dL_law_566
theorem s_L_law_567 : den sc d ML_law 567 [l0, l1, l2, l3] (.int i :: .ref a :: r) g = mx_ai (mx_av sc g a) i (fun _ f => den sc d ML_law 568 [l0, l1, l2, l3] (.int (f i.toNatClampNeg) :: r) g) := eb_iald hM_L_law dL_law_567
theorem s_L_law_568 {a0 : Int32} (hrc : mx_rc g a = some 10) : den sc (d + 1) ML_law 568 [l0, l1, l2, l3] (.int a0 :: .ref a :: r) g = mx_ck r (call sc d MX10_now [.ref a, .int a0] g) (fun v g' => den sc (d + 1) ML_law 571 [l0, l1, l2, l3] (v.toList ++ r) g') := eb_virtual hM_L_law hC_L_law rc_12_64_10 (by decide) rfl dL_law_568 rfl rfl rfl rfl hrc
theorem s_L_law_571 : den sc d ML_law 571 [l0, l1, some (.ref a), l3] (r) g = den sc d ML_law 572 [l0, l1, some (.ref a), l3] (.ref a :: r) g := eb_aload_n hM_L_law rfl dL_law_571
theorem s_L_law_572 : den sc d ML_law 572 [some (.ref a), l1, l2, l3] (r) g = den sc d ML_law 573 [some (.ref a), l1, l2, l3] (.ref a :: r) g := eb_aload_n hM_L_law rfl dL_law_572
theorem s_L_law_573 : den sc d ML_law 573 [l0, l1, l2, some (.int x)] (r) g = den sc d ML_law 574 [l0, l1, l2, some (.int x)] (.int x :: r) g := eb_iload_n hM_L_law rfl dL_law_573
theorem s_L_law_574 : den sc d ML_law 574 [l0, l1, l2, l3] (r) g = den sc d ML_law 575 [l0, l1, l2, l3] (.int (1) :: r) g := eb_iconst hM_L_law rfl dL_law_574
theorem s_L_law_575 : den sc d ML_law 575 [l0, l1, l2, l3] (.int y :: .int x :: r) g = den sc d ML_law 576 [l0, l1, l2, l3] (.int (x + y) :: r) g := eb_iadd hM_L_law dL_law_575
theorem s_L_law_576 : den sc d ML_law 576 [l0, l1, l2, l3] (.int i :: .ref a :: r) g = mx_ai (mx_av sc g a) i (fun _ f => den sc d ML_law 577 [l0, l1, l2, l3] (.int (f i.toNatClampNeg) :: r) g) := eb_iald hM_L_law dL_law_576
theorem s_L_law_577 {a0 : Int32} (hrc : mx_rc g a = some 11) : den sc (d + 1) ML_law 577 [l0, l1, l2, l3] (.int a0 :: .ref a :: r) g = mx_ck r (call sc d MX11_now [.ref a, .int a0] g) (fun v g' => den sc (d + 1) ML_law 580 [l0, l1, l2, l3] (v.toList ++ r) g') := eb_virtual hM_L_law hC_L_law rc_12_67_11 (by decide) rfl dL_law_577 rfl rfl rfl rfl hrc
theorem s_L_law_580 : den sc d ML_law 580 [l0, l1, l2, l3] (.int y :: .int x :: r) g = if x = y then den sc d ML_law 1338 [l0, l1, l2, l3] (r) g else den sc d ML_law 583 [l0, l1, l2, l3] (r) g := eb_icmp_eq hM_L_law rfl dL_law_580
theorem s_L_law_583 : den sc d ML_law 583 [l0, l1, l2, l3] (r) g = den sc d ML_law 584 [l0, l1, l2, l3] (.int (0) :: r) g := eb_iconst hM_L_law rfl dL_law_583
theorem s_L_law_584 (hn : narrow .boolean (.int x) = .int x) : den sc d ML_law 584 [l0, l1, l2, l3] ([.int x]) g = some (some (.int x), g) := eb_reti hM_L_law hT_L_law hn dL_law_584
theorem s_L_law_584_0 : den sc d ML_law 584 [l0, l1, l2, l3] ([.int 0]) g = some (some (.int 0), g) := eb_reti hM_L_law hT_L_law rfl dL_law_584
theorem s_L_law_584_1 : den sc d ML_law 584 [l0, l1, l2, l3] ([.int 1]) g = some (some (.int 1), g) := eb_reti hM_L_law hT_L_law rfl dL_law_584
theorem s_L_law_585 : den sc d ML_law 585 [l0, some (.ref a), l2, l3] (r) g = den sc d ML_law 586 [l0, some (.ref a), l2, l3] (.ref a :: r) g := eb_aload_n hM_L_law rfl dL_law_585
theorem s_L_law_586 : den sc d ML_law 586 [some (.ref a), l1, l2, l3] (r) g = den sc d ML_law 587 [some (.ref a), l1, l2, l3] (.ref a :: r) g := eb_aload_n hM_L_law rfl dL_law_586
theorem s_L_law_587 : den sc d ML_law 587 [l0, l1, l2, some (.int x)] (r) g = den sc d ML_law 588 [l0, l1, l2, some (.int x)] (.int x :: r) g := eb_iload_n hM_L_law rfl dL_law_587
theorem s_L_law_588 : den sc d ML_law 588 [l0, l1, l2, l3] (r) g = den sc d ML_law 589 [l0, l1, l2, l3] (.int (1) :: r) g := eb_iconst hM_L_law rfl dL_law_588
theorem s_L_law_589 : den sc d ML_law 589 [l0, l1, l2, l3] (.int y :: .int x :: r) g = den sc d ML_law 590 [l0, l1, l2, l3] (.int (x + y) :: r) g := eb_iadd hM_L_law dL_law_589
theorem s_L_law_590 : den sc d ML_law 590 [l0, l1, l2, l3] (.int i :: .ref a :: r) g = mx_ai (mx_av sc g a) i (fun _ f => den sc d ML_law 591 [l0, l1, l2, l3] (.int (f i.toNatClampNeg) :: r) g) := eb_iald hM_L_law dL_law_590
theorem s_L_law_591 : den sc d ML_law 591 [some (.ref a), l1, l2, l3] (r) g = den sc d ML_law 592 [some (.ref a), l1, l2, l3] (.ref a :: r) g := eb_aload_n hM_L_law rfl dL_law_591
theorem s_L_law_592 : den sc d ML_law 592 [l0, l1, l2, some (.int x)] (r) g = den sc d ML_law 593 [l0, l1, l2, some (.int x)] (.int x :: r) g := eb_iload_n hM_L_law rfl dL_law_592
theorem s_L_law_593 : den sc d ML_law 593 [l0, l1, l2, l3] (r) g = den sc d ML_law 594 [l0, l1, l2, l3] (.int (2) :: r) g := eb_iconst hM_L_law rfl dL_law_593
theorem s_L_law_594 : den sc d ML_law 594 [l0, l1, l2, l3] (.int y :: .int x :: r) g = den sc d ML_law 595 [l0, l1, l2, l3] (.int (x + y) :: r) g := eb_iadd hM_L_law dL_law_594
theorem s_L_law_595 : den sc d ML_law 595 [l0, l1, l2, l3] (.int i :: .ref a :: r) g = mx_ai (mx_av sc g a) i (fun _ f => den sc d ML_law 596 [l0, l1, l2, l3] (.int (f i.toNatClampNeg) :: r) g) := eb_iald hM_L_law dL_law_595
theorem s_L_law_596 : den sc d ML_law 596 [some (.ref a), l1, l2, l3] (r) g = den sc d ML_law 597 [some (.ref a), l1, l2, l3] (.ref a :: r) g := eb_aload_n hM_L_law rfl dL_law_596
theorem s_L_law_597 : den sc d ML_law 597 [l0, l1, l2, some (.int x)] (r) g = den sc d ML_law 598 [l0, l1, l2, some (.int x)] (.int x :: r) g := eb_iload_n hM_L_law rfl dL_law_597
theorem s_L_law_598 : den sc d ML_law 598 [l0, l1, l2, l3] (r) g = den sc d ML_law 599 [l0, l1, l2, l3] (.int (3) :: r) g := eb_iconst hM_L_law rfl dL_law_598
theorem s_L_law_599 : den sc d ML_law 599 [l0, l1, l2, l3] (.int y :: .int x :: r) g = den sc d ML_law 600 [l0, l1, l2, l3] (.int (x + y) :: r) g := eb_iadd hM_L_law dL_law_599
theorem s_L_law_600 : den sc d ML_law 600 [l0, l1, l2, l3] (.int i :: .ref a :: r) g = mx_ai (mx_av sc g a) i (fun _ f => den sc d ML_law 601 [l0, l1, l2, l3] (.int (f i.toNatClampNeg) :: r) g) := eb_iald hM_L_law dL_law_600
theorem s_L_law_601 {a0 : Int32} {a1 : Int32} {a2 : Int32} (hrc : mx_rc g a = some 10) : den sc (d + 1) ML_law 601 [l0, l1, l2, l3] (.int a2 :: .int a1 :: .int a0 :: .ref a :: r) g = mx_ck r (call sc d MX10_on [.ref a, .int a0, .int a1, .int a2] g) (fun v g' => den sc (d + 1) ML_law 604 [l0, l1, l2, l3] (v.toList ++ r) g') := eb_virtual hM_L_law hC_L_law rc_12_68_10 (by decide) rfl dL_law_601 rfl rfl rfl rfl hrc
theorem s_L_law_604 : den sc d ML_law 604 [l0, l1, some (.ref a), l3] (r) g = den sc d ML_law 605 [l0, l1, some (.ref a), l3] (.ref a :: r) g := eb_aload_n hM_L_law rfl dL_law_604
theorem s_L_law_605 : den sc d ML_law 605 [some (.ref a), l1, l2, l3] (r) g = den sc d ML_law 606 [some (.ref a), l1, l2, l3] (.ref a :: r) g := eb_aload_n hM_L_law rfl dL_law_605
theorem s_L_law_606 : den sc d ML_law 606 [l0, l1, l2, some (.int x)] (r) g = den sc d ML_law 607 [l0, l1, l2, some (.int x)] (.int x :: r) g := eb_iload_n hM_L_law rfl dL_law_606
theorem s_L_law_607 : den sc d ML_law 607 [l0, l1, l2, l3] (r) g = den sc d ML_law 608 [l0, l1, l2, l3] (.int (1) :: r) g := eb_iconst hM_L_law rfl dL_law_607
theorem s_L_law_608 : den sc d ML_law 608 [l0, l1, l2, l3] (.int y :: .int x :: r) g = den sc d ML_law 609 [l0, l1, l2, l3] (.int (x + y) :: r) g := eb_iadd hM_L_law dL_law_608
theorem s_L_law_609 : den sc d ML_law 609 [l0, l1, l2, l3] (.int i :: .ref a :: r) g = mx_ai (mx_av sc g a) i (fun _ f => den sc d ML_law 610 [l0, l1, l2, l3] (.int (f i.toNatClampNeg) :: r) g) := eb_iald hM_L_law dL_law_609
theorem s_L_law_610 : den sc d ML_law 610 [some (.ref a), l1, l2, l3] (r) g = den sc d ML_law 611 [some (.ref a), l1, l2, l3] (.ref a :: r) g := eb_aload_n hM_L_law rfl dL_law_610
theorem s_L_law_611 : den sc d ML_law 611 [l0, l1, l2, some (.int x)] (r) g = den sc d ML_law 612 [l0, l1, l2, some (.int x)] (.int x :: r) g := eb_iload_n hM_L_law rfl dL_law_611
theorem s_L_law_612 : den sc d ML_law 612 [l0, l1, l2, l3] (r) g = den sc d ML_law 613 [l0, l1, l2, l3] (.int (2) :: r) g := eb_iconst hM_L_law rfl dL_law_612
theorem s_L_law_613 : den sc d ML_law 613 [l0, l1, l2, l3] (.int y :: .int x :: r) g = den sc d ML_law 614 [l0, l1, l2, l3] (.int (x + y) :: r) g := eb_iadd hM_L_law dL_law_613
theorem s_L_law_614 : den sc d ML_law 614 [l0, l1, l2, l3] (.int i :: .ref a :: r) g = mx_ai (mx_av sc g a) i (fun _ f => den sc d ML_law 615 [l0, l1, l2, l3] (.int (f i.toNatClampNeg) :: r) g) := eb_iald hM_L_law dL_law_614
theorem s_L_law_615 : den sc d ML_law 615 [some (.ref a), l1, l2, l3] (r) g = den sc d ML_law 616 [some (.ref a), l1, l2, l3] (.ref a :: r) g := eb_aload_n hM_L_law rfl dL_law_615
theorem s_L_law_616 : den sc d ML_law 616 [l0, l1, l2, some (.int x)] (r) g = den sc d ML_law 617 [l0, l1, l2, some (.int x)] (.int x :: r) g := eb_iload_n hM_L_law rfl dL_law_616
theorem s_L_law_617 : den sc d ML_law 617 [l0, l1, l2, l3] (r) g = den sc d ML_law 618 [l0, l1, l2, l3] (.int (3) :: r) g := eb_iconst hM_L_law rfl dL_law_617
theorem s_L_law_618 : den sc d ML_law 618 [l0, l1, l2, l3] (.int y :: .int x :: r) g = den sc d ML_law 619 [l0, l1, l2, l3] (.int (x + y) :: r) g := eb_iadd hM_L_law dL_law_618
theorem s_L_law_619 : den sc d ML_law 619 [l0, l1, l2, l3] (.int i :: .ref a :: r) g = mx_ai (mx_av sc g a) i (fun _ f => den sc d ML_law 620 [l0, l1, l2, l3] (.int (f i.toNatClampNeg) :: r) g) := eb_iald hM_L_law dL_law_619
theorem s_L_law_620 {a0 : Int32} {a1 : Int32} {a2 : Int32} (hrc : mx_rc g a = some 11) : den sc (d + 1) ML_law 620 [l0, l1, l2, l3] (.int a2 :: .int a1 :: .int a0 :: .ref a :: r) g = mx_ck r (call sc d MX11_on [.ref a, .int a0, .int a1, .int a2] g) (fun v g' => den sc (d + 1) ML_law 623 [l0, l1, l2, l3] (v.toList ++ r) g') := eb_virtual hM_L_law hC_L_law rc_12_71_11 (by decide) rfl dL_law_620 rfl rfl rfl rfl hrc
theorem s_L_law_623 : den sc d ML_law 623 [l0, l1, l2, l3] (.int y :: .int x :: r) g = if x = y then den sc d ML_law 1338 [l0, l1, l2, l3] (r) g else den sc d ML_law 626 [l0, l1, l2, l3] (r) g := eb_icmp_eq hM_L_law rfl dL_law_623
theorem s_L_law_626 : den sc d ML_law 626 [l0, l1, l2, l3] (r) g = den sc d ML_law 627 [l0, l1, l2, l3] (.int (0) :: r) g := eb_iconst hM_L_law rfl dL_law_626
theorem s_L_law_627 (hn : narrow .boolean (.int x) = .int x) : den sc d ML_law 627 [l0, l1, l2, l3] ([.int x]) g = some (some (.int x), g) := eb_reti hM_L_law hT_L_law hn dL_law_627
theorem s_L_law_627_0 : den sc d ML_law 627 [l0, l1, l2, l3] ([.int 0]) g = some (some (.int 0), g) := eb_reti hM_L_law hT_L_law rfl dL_law_627
theorem s_L_law_627_1 : den sc d ML_law 627 [l0, l1, l2, l3] ([.int 1]) g = some (some (.int 1), g) := eb_reti hM_L_law hT_L_law rfl dL_law_627
theorem s_L_law_628 : den sc d ML_law 628 [l0, some (.ref a), l2, l3] (r) g = den sc d ML_law 629 [l0, some (.ref a), l2, l3] (.ref a :: r) g := eb_aload_n hM_L_law rfl dL_law_628
theorem s_L_law_629 : den sc d ML_law 629 [some (.ref a), l1, l2, l3] (r) g = den sc d ML_law 630 [some (.ref a), l1, l2, l3] (.ref a :: r) g := eb_aload_n hM_L_law rfl dL_law_629
theorem s_L_law_630 : den sc d ML_law 630 [l0, l1, l2, some (.int x)] (r) g = den sc d ML_law 631 [l0, l1, l2, some (.int x)] (.int x :: r) g := eb_iload_n hM_L_law rfl dL_law_630
theorem s_L_law_631 : den sc d ML_law 631 [l0, l1, l2, l3] (r) g = den sc d ML_law 632 [l0, l1, l2, l3] (.int (1) :: r) g := eb_iconst hM_L_law rfl dL_law_631
theorem s_L_law_632 : den sc d ML_law 632 [l0, l1, l2, l3] (.int y :: .int x :: r) g = den sc d ML_law 633 [l0, l1, l2, l3] (.int (x + y) :: r) g := eb_iadd hM_L_law dL_law_632
theorem s_L_law_633 : den sc d ML_law 633 [l0, l1, l2, l3] (.int i :: .ref a :: r) g = mx_ai (mx_av sc g a) i (fun _ f => den sc d ML_law 634 [l0, l1, l2, l3] (.int (f i.toNatClampNeg) :: r) g) := eb_iald hM_L_law dL_law_633
theorem s_L_law_634 : den sc d ML_law 634 [some (.ref a), l1, l2, l3] (r) g = den sc d ML_law 635 [some (.ref a), l1, l2, l3] (.ref a :: r) g := eb_aload_n hM_L_law rfl dL_law_634
theorem s_L_law_635 : den sc d ML_law 635 [l0, l1, l2, some (.int x)] (r) g = den sc d ML_law 636 [l0, l1, l2, some (.int x)] (.int x :: r) g := eb_iload_n hM_L_law rfl dL_law_635
theorem s_L_law_636 : den sc d ML_law 636 [l0, l1, l2, l3] (r) g = den sc d ML_law 637 [l0, l1, l2, l3] (.int (2) :: r) g := eb_iconst hM_L_law rfl dL_law_636
theorem s_L_law_637 : den sc d ML_law 637 [l0, l1, l2, l3] (.int y :: .int x :: r) g = den sc d ML_law 638 [l0, l1, l2, l3] (.int (x + y) :: r) g := eb_iadd hM_L_law dL_law_637
theorem s_L_law_638 : den sc d ML_law 638 [l0, l1, l2, l3] (.int i :: .ref a :: r) g = mx_ai (mx_av sc g a) i (fun _ f => den sc d ML_law 639 [l0, l1, l2, l3] (.int (f i.toNatClampNeg) :: r) g) := eb_iald hM_L_law dL_law_638
theorem s_L_law_639 {a0 : Int32} {a1 : Int32} (hrc : mx_rc g a = some 10) : den sc (d + 1) ML_law 639 [l0, l1, l2, l3] (.int a1 :: .int a0 :: .ref a :: r) g = mx_ck r (call sc d MX10_gets [.ref a, .int a0, .int a1] g) (fun v g' => den sc (d + 1) ML_law 642 [l0, l1, l2, l3] (v.toList ++ r) g') := eb_virtual hM_L_law hC_L_law rc_12_72_10 (by decide) rfl dL_law_639 rfl rfl rfl rfl hrc
theorem s_L_law_642 : den sc d ML_law 642 [l0, l1, some (.ref a), l3] (r) g = den sc d ML_law 643 [l0, l1, some (.ref a), l3] (.ref a :: r) g := eb_aload_n hM_L_law rfl dL_law_642
theorem s_L_law_643 : den sc d ML_law 643 [some (.ref a), l1, l2, l3] (r) g = den sc d ML_law 644 [some (.ref a), l1, l2, l3] (.ref a :: r) g := eb_aload_n hM_L_law rfl dL_law_643
theorem s_L_law_644 : den sc d ML_law 644 [l0, l1, l2, some (.int x)] (r) g = den sc d ML_law 645 [l0, l1, l2, some (.int x)] (.int x :: r) g := eb_iload_n hM_L_law rfl dL_law_644
theorem s_L_law_645 : den sc d ML_law 645 [l0, l1, l2, l3] (r) g = den sc d ML_law 646 [l0, l1, l2, l3] (.int (1) :: r) g := eb_iconst hM_L_law rfl dL_law_645
theorem s_L_law_646 : den sc d ML_law 646 [l0, l1, l2, l3] (.int y :: .int x :: r) g = den sc d ML_law 647 [l0, l1, l2, l3] (.int (x + y) :: r) g := eb_iadd hM_L_law dL_law_646
theorem s_L_law_647 : den sc d ML_law 647 [l0, l1, l2, l3] (.int i :: .ref a :: r) g = mx_ai (mx_av sc g a) i (fun _ f => den sc d ML_law 648 [l0, l1, l2, l3] (.int (f i.toNatClampNeg) :: r) g) := eb_iald hM_L_law dL_law_647
theorem s_L_law_648 : den sc d ML_law 648 [some (.ref a), l1, l2, l3] (r) g = den sc d ML_law 649 [some (.ref a), l1, l2, l3] (.ref a :: r) g := eb_aload_n hM_L_law rfl dL_law_648
theorem s_L_law_649 : den sc d ML_law 649 [l0, l1, l2, some (.int x)] (r) g = den sc d ML_law 650 [l0, l1, l2, some (.int x)] (.int x :: r) g := eb_iload_n hM_L_law rfl dL_law_649
theorem s_L_law_650 : den sc d ML_law 650 [l0, l1, l2, l3] (r) g = den sc d ML_law 651 [l0, l1, l2, l3] (.int (2) :: r) g := eb_iconst hM_L_law rfl dL_law_650
theorem s_L_law_651 : den sc d ML_law 651 [l0, l1, l2, l3] (.int y :: .int x :: r) g = den sc d ML_law 652 [l0, l1, l2, l3] (.int (x + y) :: r) g := eb_iadd hM_L_law dL_law_651
theorem s_L_law_652 : den sc d ML_law 652 [l0, l1, l2, l3] (.int i :: .ref a :: r) g = mx_ai (mx_av sc g a) i (fun _ f => den sc d ML_law 653 [l0, l1, l2, l3] (.int (f i.toNatClampNeg) :: r) g) := eb_iald hM_L_law dL_law_652
theorem s_L_law_653 {a0 : Int32} {a1 : Int32} (hrc : mx_rc g a = some 11) : den sc (d + 1) ML_law 653 [l0, l1, l2, l3] (.int a1 :: .int a0 :: .ref a :: r) g = mx_ck r (call sc d MX11_gets [.ref a, .int a0, .int a1] g) (fun v g' => den sc (d + 1) ML_law 656 [l0, l1, l2, l3] (v.toList ++ r) g') := eb_virtual hM_L_law hC_L_law rc_12_75_11 (by decide) rfl dL_law_653 rfl rfl rfl rfl hrc
theorem s_L_law_656 : den sc d ML_law 656 [l0, l1, l2, l3] (.int y :: .int x :: r) g = if x = y then den sc d ML_law 1338 [l0, l1, l2, l3] (r) g else den sc d ML_law 659 [l0, l1, l2, l3] (r) g := eb_icmp_eq hM_L_law rfl dL_law_656
theorem s_L_law_659 : den sc d ML_law 659 [l0, l1, l2, l3] (r) g = den sc d ML_law 660 [l0, l1, l2, l3] (.int (0) :: r) g := eb_iconst hM_L_law rfl dL_law_659
theorem s_L_law_660 (hn : narrow .boolean (.int x) = .int x) : den sc d ML_law 660 [l0, l1, l2, l3] ([.int x]) g = some (some (.int x), g) := eb_reti hM_L_law hT_L_law hn dL_law_660
theorem s_L_law_660_0 : den sc d ML_law 660 [l0, l1, l2, l3] ([.int 0]) g = some (some (.int 0), g) := eb_reti hM_L_law hT_L_law rfl dL_law_660
theorem s_L_law_660_1 : den sc d ML_law 660 [l0, l1, l2, l3] ([.int 1]) g = some (some (.int 1), g) := eb_reti hM_L_law hT_L_law rfl dL_law_660
theorem s_L_law_661 : den sc d ML_law 661 [l0, some (.ref a), l2, l3] (r) g = den sc d ML_law 662 [l0, some (.ref a), l2, l3] (.ref a :: r) g := eb_aload_n hM_L_law rfl dL_law_661
theorem s_L_law_662 : den sc d ML_law 662 [some (.ref a), l1, l2, l3] (r) g = den sc d ML_law 663 [some (.ref a), l1, l2, l3] (.ref a :: r) g := eb_aload_n hM_L_law rfl dL_law_662
theorem s_L_law_663 : den sc d ML_law 663 [l0, l1, l2, some (.int x)] (r) g = den sc d ML_law 664 [l0, l1, l2, some (.int x)] (.int x :: r) g := eb_iload_n hM_L_law rfl dL_law_663
theorem s_L_law_664 : den sc d ML_law 664 [l0, l1, l2, l3] (r) g = den sc d ML_law 665 [l0, l1, l2, l3] (.int (1) :: r) g := eb_iconst hM_L_law rfl dL_law_664
theorem s_L_law_665 : den sc d ML_law 665 [l0, l1, l2, l3] (.int y :: .int x :: r) g = den sc d ML_law 666 [l0, l1, l2, l3] (.int (x + y) :: r) g := eb_iadd hM_L_law dL_law_665
theorem s_L_law_666 : den sc d ML_law 666 [l0, l1, l2, l3] (.int i :: .ref a :: r) g = mx_ai (mx_av sc g a) i (fun _ f => den sc d ML_law 667 [l0, l1, l2, l3] (.int (f i.toNatClampNeg) :: r) g) := eb_iald hM_L_law dL_law_666
theorem s_L_law_667 : den sc d ML_law 667 [some (.ref a), l1, l2, l3] (r) g = den sc d ML_law 668 [some (.ref a), l1, l2, l3] (.ref a :: r) g := eb_aload_n hM_L_law rfl dL_law_667
theorem s_L_law_668 : den sc d ML_law 668 [l0, l1, l2, some (.int x)] (r) g = den sc d ML_law 669 [l0, l1, l2, some (.int x)] (.int x :: r) g := eb_iload_n hM_L_law rfl dL_law_668
theorem s_L_law_669 : den sc d ML_law 669 [l0, l1, l2, l3] (r) g = den sc d ML_law 670 [l0, l1, l2, l3] (.int (2) :: r) g := eb_iconst hM_L_law rfl dL_law_669
theorem s_L_law_670 : den sc d ML_law 670 [l0, l1, l2, l3] (.int y :: .int x :: r) g = den sc d ML_law 671 [l0, l1, l2, l3] (.int (x + y) :: r) g := eb_iadd hM_L_law dL_law_670
theorem s_L_law_671 : den sc d ML_law 671 [l0, l1, l2, l3] (.int i :: .ref a :: r) g = mx_ai (mx_av sc g a) i (fun _ f => den sc d ML_law 672 [l0, l1, l2, l3] (.int (f i.toNatClampNeg) :: r) g) := eb_iald hM_L_law dL_law_671
theorem s_L_law_672 {a0 : Int32} {a1 : Int32} (hrc : mx_rc g a = some 10) : den sc (d + 1) ML_law 672 [l0, l1, l2, l3] (.int a1 :: .int a0 :: .ref a :: r) g = mx_ck r (call sc d MX10_loses [.ref a, .int a0, .int a1] g) (fun v g' => den sc (d + 1) ML_law 675 [l0, l1, l2, l3] (v.toList ++ r) g') := eb_virtual hM_L_law hC_L_law rc_12_76_10 (by decide) rfl dL_law_672 rfl rfl rfl rfl hrc
theorem s_L_law_675 : den sc d ML_law 675 [l0, l1, some (.ref a), l3] (r) g = den sc d ML_law 676 [l0, l1, some (.ref a), l3] (.ref a :: r) g := eb_aload_n hM_L_law rfl dL_law_675
theorem s_L_law_676 : den sc d ML_law 676 [some (.ref a), l1, l2, l3] (r) g = den sc d ML_law 677 [some (.ref a), l1, l2, l3] (.ref a :: r) g := eb_aload_n hM_L_law rfl dL_law_676
theorem s_L_law_677 : den sc d ML_law 677 [l0, l1, l2, some (.int x)] (r) g = den sc d ML_law 678 [l0, l1, l2, some (.int x)] (.int x :: r) g := eb_iload_n hM_L_law rfl dL_law_677
theorem s_L_law_678 : den sc d ML_law 678 [l0, l1, l2, l3] (r) g = den sc d ML_law 679 [l0, l1, l2, l3] (.int (1) :: r) g := eb_iconst hM_L_law rfl dL_law_678
theorem s_L_law_679 : den sc d ML_law 679 [l0, l1, l2, l3] (.int y :: .int x :: r) g = den sc d ML_law 680 [l0, l1, l2, l3] (.int (x + y) :: r) g := eb_iadd hM_L_law dL_law_679
theorem s_L_law_680 : den sc d ML_law 680 [l0, l1, l2, l3] (.int i :: .ref a :: r) g = mx_ai (mx_av sc g a) i (fun _ f => den sc d ML_law 681 [l0, l1, l2, l3] (.int (f i.toNatClampNeg) :: r) g) := eb_iald hM_L_law dL_law_680
theorem s_L_law_681 : den sc d ML_law 681 [some (.ref a), l1, l2, l3] (r) g = den sc d ML_law 682 [some (.ref a), l1, l2, l3] (.ref a :: r) g := eb_aload_n hM_L_law rfl dL_law_681
theorem s_L_law_682 : den sc d ML_law 682 [l0, l1, l2, some (.int x)] (r) g = den sc d ML_law 683 [l0, l1, l2, some (.int x)] (.int x :: r) g := eb_iload_n hM_L_law rfl dL_law_682
theorem s_L_law_683 : den sc d ML_law 683 [l0, l1, l2, l3] (r) g = den sc d ML_law 684 [l0, l1, l2, l3] (.int (2) :: r) g := eb_iconst hM_L_law rfl dL_law_683
theorem s_L_law_684 : den sc d ML_law 684 [l0, l1, l2, l3] (.int y :: .int x :: r) g = den sc d ML_law 685 [l0, l1, l2, l3] (.int (x + y) :: r) g := eb_iadd hM_L_law dL_law_684
theorem s_L_law_685 : den sc d ML_law 685 [l0, l1, l2, l3] (.int i :: .ref a :: r) g = mx_ai (mx_av sc g a) i (fun _ f => den sc d ML_law 686 [l0, l1, l2, l3] (.int (f i.toNatClampNeg) :: r) g) := eb_iald hM_L_law dL_law_685
theorem s_L_law_686 {a0 : Int32} {a1 : Int32} (hrc : mx_rc g a = some 11) : den sc (d + 1) ML_law 686 [l0, l1, l2, l3] (.int a1 :: .int a0 :: .ref a :: r) g = mx_ck r (call sc d MX11_loses [.ref a, .int a0, .int a1] g) (fun v g' => den sc (d + 1) ML_law 689 [l0, l1, l2, l3] (v.toList ++ r) g') := eb_virtual hM_L_law hC_L_law rc_12_79_11 (by decide) rfl dL_law_686 rfl rfl rfl rfl hrc
theorem s_L_law_689 : den sc d ML_law 689 [l0, l1, l2, l3] (.int y :: .int x :: r) g = if x = y then den sc d ML_law 1338 [l0, l1, l2, l3] (r) g else den sc d ML_law 692 [l0, l1, l2, l3] (r) g := eb_icmp_eq hM_L_law rfl dL_law_689
theorem s_L_law_692 : den sc d ML_law 692 [l0, l1, l2, l3] (r) g = den sc d ML_law 693 [l0, l1, l2, l3] (.int (0) :: r) g := eb_iconst hM_L_law rfl dL_law_692
theorem s_L_law_693 (hn : narrow .boolean (.int x) = .int x) : den sc d ML_law 693 [l0, l1, l2, l3] ([.int x]) g = some (some (.int x), g) := eb_reti hM_L_law hT_L_law hn dL_law_693
theorem s_L_law_693_0 : den sc d ML_law 693 [l0, l1, l2, l3] ([.int 0]) g = some (some (.int 0), g) := eb_reti hM_L_law hT_L_law rfl dL_law_693
theorem s_L_law_693_1 : den sc d ML_law 693 [l0, l1, l2, l3] ([.int 1]) g = some (some (.int 1), g) := eb_reti hM_L_law hT_L_law rfl dL_law_693
theorem s_L_law_694 : den sc d ML_law 694 [l0, some (.ref a), l2, l3] (r) g = den sc d ML_law 695 [l0, some (.ref a), l2, l3] (.ref a :: r) g := eb_aload_n hM_L_law rfl dL_law_694
theorem s_L_law_695 : den sc d ML_law 695 [some (.ref a), l1, l2, l3] (r) g = den sc d ML_law 696 [some (.ref a), l1, l2, l3] (.ref a :: r) g := eb_aload_n hM_L_law rfl dL_law_695
theorem s_L_law_696 : den sc d ML_law 696 [l0, l1, l2, some (.int x)] (r) g = den sc d ML_law 697 [l0, l1, l2, some (.int x)] (.int x :: r) g := eb_iload_n hM_L_law rfl dL_law_696
theorem s_L_law_697 : den sc d ML_law 697 [l0, l1, l2, l3] (r) g = den sc d ML_law 698 [l0, l1, l2, l3] (.int (1) :: r) g := eb_iconst hM_L_law rfl dL_law_697
theorem s_L_law_698 : den sc d ML_law 698 [l0, l1, l2, l3] (.int y :: .int x :: r) g = den sc d ML_law 699 [l0, l1, l2, l3] (.int (x + y) :: r) g := eb_iadd hM_L_law dL_law_698
theorem s_L_law_699 : den sc d ML_law 699 [l0, l1, l2, l3] (.int i :: .ref a :: r) g = mx_ai (mx_av sc g a) i (fun _ f => den sc d ML_law 700 [l0, l1, l2, l3] (.int (f i.toNatClampNeg) :: r) g) := eb_iald hM_L_law dL_law_699
theorem s_L_law_700 {a0 : Int32} (hrc : mx_rc g a = some 10) : den sc (d + 1) ML_law 700 [l0, l1, l2, l3] (.int a0 :: .ref a :: r) g = mx_ck r (call sc d MX10_burns [.ref a, .int a0] g) (fun v g' => den sc (d + 1) ML_law 703 [l0, l1, l2, l3] (v.toList ++ r) g') := eb_virtual hM_L_law hC_L_law rc_12_80_10 (by decide) rfl dL_law_700 rfl rfl rfl rfl hrc
theorem s_L_law_703 : den sc d ML_law 703 [l0, l1, some (.ref a), l3] (r) g = den sc d ML_law 704 [l0, l1, some (.ref a), l3] (.ref a :: r) g := eb_aload_n hM_L_law rfl dL_law_703
theorem s_L_law_704 : den sc d ML_law 704 [some (.ref a), l1, l2, l3] (r) g = den sc d ML_law 705 [some (.ref a), l1, l2, l3] (.ref a :: r) g := eb_aload_n hM_L_law rfl dL_law_704
theorem s_L_law_705 : den sc d ML_law 705 [l0, l1, l2, some (.int x)] (r) g = den sc d ML_law 706 [l0, l1, l2, some (.int x)] (.int x :: r) g := eb_iload_n hM_L_law rfl dL_law_705
theorem s_L_law_706 : den sc d ML_law 706 [l0, l1, l2, l3] (r) g = den sc d ML_law 707 [l0, l1, l2, l3] (.int (1) :: r) g := eb_iconst hM_L_law rfl dL_law_706
theorem s_L_law_707 : den sc d ML_law 707 [l0, l1, l2, l3] (.int y :: .int x :: r) g = den sc d ML_law 708 [l0, l1, l2, l3] (.int (x + y) :: r) g := eb_iadd hM_L_law dL_law_707
theorem s_L_law_708 : den sc d ML_law 708 [l0, l1, l2, l3] (.int i :: .ref a :: r) g = mx_ai (mx_av sc g a) i (fun _ f => den sc d ML_law 709 [l0, l1, l2, l3] (.int (f i.toNatClampNeg) :: r) g) := eb_iald hM_L_law dL_law_708
theorem s_L_law_709 {a0 : Int32} (hrc : mx_rc g a = some 11) : den sc (d + 1) ML_law 709 [l0, l1, l2, l3] (.int a0 :: .ref a :: r) g = mx_ck r (call sc d MX11_burns [.ref a, .int a0] g) (fun v g' => den sc (d + 1) ML_law 712 [l0, l1, l2, l3] (v.toList ++ r) g') := eb_virtual hM_L_law hC_L_law rc_12_83_11 (by decide) rfl dL_law_709 rfl rfl rfl rfl hrc
theorem s_L_law_712 : den sc d ML_law 712 [l0, l1, l2, l3] (.int y :: .int x :: r) g = if x = y then den sc d ML_law 1338 [l0, l1, l2, l3] (r) g else den sc d ML_law 715 [l0, l1, l2, l3] (r) g := eb_icmp_eq hM_L_law rfl dL_law_712
theorem s_L_law_715 : den sc d ML_law 715 [l0, l1, l2, l3] (r) g = den sc d ML_law 716 [l0, l1, l2, l3] (.int (0) :: r) g := eb_iconst hM_L_law rfl dL_law_715
theorem s_L_law_716 (hn : narrow .boolean (.int x) = .int x) : den sc d ML_law 716 [l0, l1, l2, l3] ([.int x]) g = some (some (.int x), g) := eb_reti hM_L_law hT_L_law hn dL_law_716
theorem s_L_law_716_0 : den sc d ML_law 716 [l0, l1, l2, l3] ([.int 0]) g = some (some (.int 0), g) := eb_reti hM_L_law hT_L_law rfl dL_law_716
theorem s_L_law_716_1 : den sc d ML_law 716 [l0, l1, l2, l3] ([.int 1]) g = some (some (.int 1), g) := eb_reti hM_L_law hT_L_law rfl dL_law_716
theorem s_L_law_717 : den sc d ML_law 717 [l0, some (.ref a), l2, l3] (r) g = den sc d ML_law 718 [l0, some (.ref a), l2, l3] (.ref a :: r) g := eb_aload_n hM_L_law rfl dL_law_717
theorem s_L_law_718 : den sc d ML_law 718 [some (.ref a), l1, l2, l3] (r) g = den sc d ML_law 719 [some (.ref a), l1, l2, l3] (.ref a :: r) g := eb_aload_n hM_L_law rfl dL_law_718
theorem s_L_law_719 : den sc d ML_law 719 [l0, l1, l2, some (.int x)] (r) g = den sc d ML_law 720 [l0, l1, l2, some (.int x)] (.int x :: r) g := eb_iload_n hM_L_law rfl dL_law_719
theorem s_L_law_720 : den sc d ML_law 720 [l0, l1, l2, l3] (r) g = den sc d ML_law 721 [l0, l1, l2, l3] (.int (1) :: r) g := eb_iconst hM_L_law rfl dL_law_720
theorem s_L_law_721 : den sc d ML_law 721 [l0, l1, l2, l3] (.int y :: .int x :: r) g = den sc d ML_law 722 [l0, l1, l2, l3] (.int (x + y) :: r) g := eb_iadd hM_L_law dL_law_721
theorem s_L_law_722 : den sc d ML_law 722 [l0, l1, l2, l3] (.int i :: .ref a :: r) g = mx_ai (mx_av sc g a) i (fun _ f => den sc d ML_law 723 [l0, l1, l2, l3] (.int (f i.toNatClampNeg) :: r) g) := eb_iald hM_L_law dL_law_722
theorem s_L_law_723 : den sc d ML_law 723 [some (.ref a), l1, l2, l3] (r) g = den sc d ML_law 724 [some (.ref a), l1, l2, l3] (.ref a :: r) g := eb_aload_n hM_L_law rfl dL_law_723
theorem s_L_law_724 : den sc d ML_law 724 [l0, l1, l2, some (.int x)] (r) g = den sc d ML_law 725 [l0, l1, l2, some (.int x)] (.int x :: r) g := eb_iload_n hM_L_law rfl dL_law_724
theorem s_L_law_725 : den sc d ML_law 725 [l0, l1, l2, l3] (r) g = den sc d ML_law 726 [l0, l1, l2, l3] (.int (2) :: r) g := eb_iconst hM_L_law rfl dL_law_725
theorem s_L_law_726 : den sc d ML_law 726 [l0, l1, l2, l3] (.int y :: .int x :: r) g = den sc d ML_law 727 [l0, l1, l2, l3] (.int (x + y) :: r) g := eb_iadd hM_L_law dL_law_726
theorem s_L_law_727 : den sc d ML_law 727 [l0, l1, l2, l3] (.int i :: .ref a :: r) g = mx_ai (mx_av sc g a) i (fun _ f => den sc d ML_law 728 [l0, l1, l2, l3] (.int (f i.toNatClampNeg) :: r) g) := eb_iald hM_L_law dL_law_727
theorem s_L_law_728 {a0 : Int32} {a1 : Int32} (hrc : mx_rc g a = some 10) : den sc (d + 1) ML_law 728 [l0, l1, l2, l3] (.int a1 :: .int a0 :: .ref a :: r) g = mx_ck r (call sc d MX10_cousin [.ref a, .int a0, .int a1] g) (fun v g' => den sc (d + 1) ML_law 731 [l0, l1, l2, l3] (v.toList ++ r) g') := eb_virtual hM_L_law hC_L_law rc_12_84_10 (by decide) rfl dL_law_728 rfl rfl rfl rfl hrc
theorem s_L_law_731 : den sc d ML_law 731 [l0, l1, some (.ref a), l3] (r) g = den sc d ML_law 732 [l0, l1, some (.ref a), l3] (.ref a :: r) g := eb_aload_n hM_L_law rfl dL_law_731
theorem s_L_law_732 : den sc d ML_law 732 [some (.ref a), l1, l2, l3] (r) g = den sc d ML_law 733 [some (.ref a), l1, l2, l3] (.ref a :: r) g := eb_aload_n hM_L_law rfl dL_law_732
theorem s_L_law_733 : den sc d ML_law 733 [l0, l1, l2, some (.int x)] (r) g = den sc d ML_law 734 [l0, l1, l2, some (.int x)] (.int x :: r) g := eb_iload_n hM_L_law rfl dL_law_733
theorem s_L_law_734 : den sc d ML_law 734 [l0, l1, l2, l3] (r) g = den sc d ML_law 735 [l0, l1, l2, l3] (.int (1) :: r) g := eb_iconst hM_L_law rfl dL_law_734
theorem s_L_law_735 : den sc d ML_law 735 [l0, l1, l2, l3] (.int y :: .int x :: r) g = den sc d ML_law 736 [l0, l1, l2, l3] (.int (x + y) :: r) g := eb_iadd hM_L_law dL_law_735
theorem s_L_law_736 : den sc d ML_law 736 [l0, l1, l2, l3] (.int i :: .ref a :: r) g = mx_ai (mx_av sc g a) i (fun _ f => den sc d ML_law 737 [l0, l1, l2, l3] (.int (f i.toNatClampNeg) :: r) g) := eb_iald hM_L_law dL_law_736
theorem s_L_law_737 : den sc d ML_law 737 [some (.ref a), l1, l2, l3] (r) g = den sc d ML_law 738 [some (.ref a), l1, l2, l3] (.ref a :: r) g := eb_aload_n hM_L_law rfl dL_law_737
theorem s_L_law_738 : den sc d ML_law 738 [l0, l1, l2, some (.int x)] (r) g = den sc d ML_law 739 [l0, l1, l2, some (.int x)] (.int x :: r) g := eb_iload_n hM_L_law rfl dL_law_738
theorem s_L_law_739 : den sc d ML_law 739 [l0, l1, l2, l3] (r) g = den sc d ML_law 740 [l0, l1, l2, l3] (.int (2) :: r) g := eb_iconst hM_L_law rfl dL_law_739
theorem s_L_law_740 : den sc d ML_law 740 [l0, l1, l2, l3] (.int y :: .int x :: r) g = den sc d ML_law 741 [l0, l1, l2, l3] (.int (x + y) :: r) g := eb_iadd hM_L_law dL_law_740
theorem s_L_law_741 : den sc d ML_law 741 [l0, l1, l2, l3] (.int i :: .ref a :: r) g = mx_ai (mx_av sc g a) i (fun _ f => den sc d ML_law 742 [l0, l1, l2, l3] (.int (f i.toNatClampNeg) :: r) g) := eb_iald hM_L_law dL_law_741
theorem s_L_law_742 {a0 : Int32} {a1 : Int32} (hrc : mx_rc g a = some 11) : den sc (d + 1) ML_law 742 [l0, l1, l2, l3] (.int a1 :: .int a0 :: .ref a :: r) g = mx_ck r (call sc d MX11_cousin [.ref a, .int a0, .int a1] g) (fun v g' => den sc (d + 1) ML_law 745 [l0, l1, l2, l3] (v.toList ++ r) g') := eb_virtual hM_L_law hC_L_law rc_12_87_11 (by decide) rfl dL_law_742 rfl rfl rfl rfl hrc
theorem s_L_law_745 : den sc d ML_law 745 [l0, l1, l2, l3] (.int y :: .int x :: r) g = if x = y then den sc d ML_law 1338 [l0, l1, l2, l3] (r) g else den sc d ML_law 748 [l0, l1, l2, l3] (r) g := eb_icmp_eq hM_L_law rfl dL_law_745
theorem s_L_law_748 : den sc d ML_law 748 [l0, l1, l2, l3] (r) g = den sc d ML_law 749 [l0, l1, l2, l3] (.int (0) :: r) g := eb_iconst hM_L_law rfl dL_law_748
theorem s_L_law_749 (hn : narrow .boolean (.int x) = .int x) : den sc d ML_law 749 [l0, l1, l2, l3] ([.int x]) g = some (some (.int x), g) := eb_reti hM_L_law hT_L_law hn dL_law_749
theorem s_L_law_749_0 : den sc d ML_law 749 [l0, l1, l2, l3] ([.int 0]) g = some (some (.int 0), g) := eb_reti hM_L_law hT_L_law rfl dL_law_749
theorem s_L_law_749_1 : den sc d ML_law 749 [l0, l1, l2, l3] ([.int 1]) g = some (some (.int 1), g) := eb_reti hM_L_law hT_L_law rfl dL_law_749
theorem s_L_law_750 : den sc d ML_law 750 [l0, some (.ref a), l2, l3] (r) g = den sc d ML_law 751 [l0, some (.ref a), l2, l3] (.ref a :: r) g := eb_aload_n hM_L_law rfl dL_law_750
theorem s_L_law_751 : den sc d ML_law 751 [some (.ref a), l1, l2, l3] (r) g = den sc d ML_law 752 [some (.ref a), l1, l2, l3] (.ref a :: r) g := eb_aload_n hM_L_law rfl dL_law_751
theorem s_L_law_752 : den sc d ML_law 752 [l0, l1, l2, some (.int x)] (r) g = den sc d ML_law 753 [l0, l1, l2, some (.int x)] (.int x :: r) g := eb_iload_n hM_L_law rfl dL_law_752
theorem s_L_law_753 : den sc d ML_law 753 [l0, l1, l2, l3] (r) g = den sc d ML_law 754 [l0, l1, l2, l3] (.int (1) :: r) g := eb_iconst hM_L_law rfl dL_law_753
theorem s_L_law_754 : den sc d ML_law 754 [l0, l1, l2, l3] (.int y :: .int x :: r) g = den sc d ML_law 755 [l0, l1, l2, l3] (.int (x + y) :: r) g := eb_iadd hM_L_law dL_law_754
theorem s_L_law_755 : den sc d ML_law 755 [l0, l1, l2, l3] (.int i :: .ref a :: r) g = mx_ai (mx_av sc g a) i (fun _ f => den sc d ML_law 756 [l0, l1, l2, l3] (.int (f i.toNatClampNeg) :: r) g) := eb_iald hM_L_law dL_law_755
theorem s_L_law_756 : den sc d ML_law 756 [some (.ref a), l1, l2, l3] (r) g = den sc d ML_law 757 [some (.ref a), l1, l2, l3] (.ref a :: r) g := eb_aload_n hM_L_law rfl dL_law_756
theorem s_L_law_757 : den sc d ML_law 757 [l0, l1, l2, some (.int x)] (r) g = den sc d ML_law 758 [l0, l1, l2, some (.int x)] (.int x :: r) g := eb_iload_n hM_L_law rfl dL_law_757
theorem s_L_law_758 : den sc d ML_law 758 [l0, l1, l2, l3] (r) g = den sc d ML_law 759 [l0, l1, l2, l3] (.int (2) :: r) g := eb_iconst hM_L_law rfl dL_law_758
theorem s_L_law_759 : den sc d ML_law 759 [l0, l1, l2, l3] (.int y :: .int x :: r) g = den sc d ML_law 760 [l0, l1, l2, l3] (.int (x + y) :: r) g := eb_iadd hM_L_law dL_law_759
theorem s_L_law_760 : den sc d ML_law 760 [l0, l1, l2, l3] (.int i :: .ref a :: r) g = mx_ai (mx_av sc g a) i (fun _ f => den sc d ML_law 761 [l0, l1, l2, l3] (.int (f i.toNatClampNeg) :: r) g) := eb_iald hM_L_law dL_law_760
theorem s_L_law_761 {a0 : Int32} {a1 : Int32} (hrc : mx_rc g a = some 10) : den sc (d + 1) ML_law 761 [l0, l1, l2, l3] (.int a1 :: .int a0 :: .ref a :: r) g = mx_ck r (call sc d MX10_kind [.ref a, .int a0, .int a1] g) (fun v g' => den sc (d + 1) ML_law 764 [l0, l1, l2, l3] (v.toList ++ r) g') := eb_virtual hM_L_law hC_L_law rc_12_88_10 (by decide) rfl dL_law_761 rfl rfl rfl rfl hrc
theorem s_L_law_764 : den sc d ML_law 764 [l0, l1, some (.ref a), l3] (r) g = den sc d ML_law 765 [l0, l1, some (.ref a), l3] (.ref a :: r) g := eb_aload_n hM_L_law rfl dL_law_764
theorem s_L_law_765 : den sc d ML_law 765 [some (.ref a), l1, l2, l3] (r) g = den sc d ML_law 766 [some (.ref a), l1, l2, l3] (.ref a :: r) g := eb_aload_n hM_L_law rfl dL_law_765
theorem s_L_law_766 : den sc d ML_law 766 [l0, l1, l2, some (.int x)] (r) g = den sc d ML_law 767 [l0, l1, l2, some (.int x)] (.int x :: r) g := eb_iload_n hM_L_law rfl dL_law_766
theorem s_L_law_767 : den sc d ML_law 767 [l0, l1, l2, l3] (r) g = den sc d ML_law 768 [l0, l1, l2, l3] (.int (1) :: r) g := eb_iconst hM_L_law rfl dL_law_767
theorem s_L_law_768 : den sc d ML_law 768 [l0, l1, l2, l3] (.int y :: .int x :: r) g = den sc d ML_law 769 [l0, l1, l2, l3] (.int (x + y) :: r) g := eb_iadd hM_L_law dL_law_768
theorem s_L_law_769 : den sc d ML_law 769 [l0, l1, l2, l3] (.int i :: .ref a :: r) g = mx_ai (mx_av sc g a) i (fun _ f => den sc d ML_law 770 [l0, l1, l2, l3] (.int (f i.toNatClampNeg) :: r) g) := eb_iald hM_L_law dL_law_769
theorem s_L_law_770 : den sc d ML_law 770 [some (.ref a), l1, l2, l3] (r) g = den sc d ML_law 771 [some (.ref a), l1, l2, l3] (.ref a :: r) g := eb_aload_n hM_L_law rfl dL_law_770
theorem s_L_law_771 : den sc d ML_law 771 [l0, l1, l2, some (.int x)] (r) g = den sc d ML_law 772 [l0, l1, l2, some (.int x)] (.int x :: r) g := eb_iload_n hM_L_law rfl dL_law_771
theorem s_L_law_772 : den sc d ML_law 772 [l0, l1, l2, l3] (r) g = den sc d ML_law 773 [l0, l1, l2, l3] (.int (2) :: r) g := eb_iconst hM_L_law rfl dL_law_772
theorem s_L_law_773 : den sc d ML_law 773 [l0, l1, l2, l3] (.int y :: .int x :: r) g = den sc d ML_law 774 [l0, l1, l2, l3] (.int (x + y) :: r) g := eb_iadd hM_L_law dL_law_773
theorem s_L_law_774 : den sc d ML_law 774 [l0, l1, l2, l3] (.int i :: .ref a :: r) g = mx_ai (mx_av sc g a) i (fun _ f => den sc d ML_law 775 [l0, l1, l2, l3] (.int (f i.toNatClampNeg) :: r) g) := eb_iald hM_L_law dL_law_774
theorem s_L_law_775 {a0 : Int32} {a1 : Int32} (hrc : mx_rc g a = some 11) : den sc (d + 1) ML_law 775 [l0, l1, l2, l3] (.int a1 :: .int a0 :: .ref a :: r) g = mx_ck r (call sc d MX11_kind [.ref a, .int a0, .int a1] g) (fun v g' => den sc (d + 1) ML_law 778 [l0, l1, l2, l3] (v.toList ++ r) g') := eb_virtual hM_L_law hC_L_law rc_12_91_11 (by decide) rfl dL_law_775 rfl rfl rfl rfl hrc
theorem s_L_law_778 : den sc d ML_law 778 [l0, l1, l2, l3] (.int y :: .int x :: r) g = if x = y then den sc d ML_law 1338 [l0, l1, l2, l3] (r) g else den sc d ML_law 781 [l0, l1, l2, l3] (r) g := eb_icmp_eq hM_L_law rfl dL_law_778
theorem s_L_law_781 : den sc d ML_law 781 [l0, l1, l2, l3] (r) g = den sc d ML_law 782 [l0, l1, l2, l3] (.int (0) :: r) g := eb_iconst hM_L_law rfl dL_law_781
theorem s_L_law_782 (hn : narrow .boolean (.int x) = .int x) : den sc d ML_law 782 [l0, l1, l2, l3] ([.int x]) g = some (some (.int x), g) := eb_reti hM_L_law hT_L_law hn dL_law_782
theorem s_L_law_782_0 : den sc d ML_law 782 [l0, l1, l2, l3] ([.int 0]) g = some (some (.int 0), g) := eb_reti hM_L_law hT_L_law rfl dL_law_782
theorem s_L_law_782_1 : den sc d ML_law 782 [l0, l1, l2, l3] ([.int 1]) g = some (some (.int 1), g) := eb_reti hM_L_law hT_L_law rfl dL_law_782
theorem s_L_law_783 : den sc d ML_law 783 [l0, some (.ref a), l2, l3] (r) g = den sc d ML_law 784 [l0, some (.ref a), l2, l3] (.ref a :: r) g := eb_aload_n hM_L_law rfl dL_law_783
theorem s_L_law_784 : den sc d ML_law 784 [some (.ref a), l1, l2, l3] (r) g = den sc d ML_law 785 [some (.ref a), l1, l2, l3] (.ref a :: r) g := eb_aload_n hM_L_law rfl dL_law_784
theorem s_L_law_785 : den sc d ML_law 785 [l0, l1, l2, some (.int x)] (r) g = den sc d ML_law 786 [l0, l1, l2, some (.int x)] (.int x :: r) g := eb_iload_n hM_L_law rfl dL_law_785
theorem s_L_law_786 : den sc d ML_law 786 [l0, l1, l2, l3] (r) g = den sc d ML_law 787 [l0, l1, l2, l3] (.int (1) :: r) g := eb_iconst hM_L_law rfl dL_law_786
theorem s_L_law_787 : den sc d ML_law 787 [l0, l1, l2, l3] (.int y :: .int x :: r) g = den sc d ML_law 788 [l0, l1, l2, l3] (.int (x + y) :: r) g := eb_iadd hM_L_law dL_law_787
theorem s_L_law_788 : den sc d ML_law 788 [l0, l1, l2, l3] (.int i :: .ref a :: r) g = mx_ai (mx_av sc g a) i (fun _ f => den sc d ML_law 789 [l0, l1, l2, l3] (.int (f i.toNatClampNeg) :: r) g) := eb_iald hM_L_law dL_law_788
theorem s_L_law_789 : den sc d ML_law 789 [some (.ref a), l1, l2, l3] (r) g = den sc d ML_law 790 [some (.ref a), l1, l2, l3] (.ref a :: r) g := eb_aload_n hM_L_law rfl dL_law_789
theorem s_L_law_790 : den sc d ML_law 790 [l0, l1, l2, some (.int x)] (r) g = den sc d ML_law 791 [l0, l1, l2, some (.int x)] (.int x :: r) g := eb_iload_n hM_L_law rfl dL_law_790
theorem s_L_law_791 : den sc d ML_law 791 [l0, l1, l2, l3] (r) g = den sc d ML_law 792 [l0, l1, l2, l3] (.int (2) :: r) g := eb_iconst hM_L_law rfl dL_law_791
theorem s_L_law_792 : den sc d ML_law 792 [l0, l1, l2, l3] (.int y :: .int x :: r) g = den sc d ML_law 793 [l0, l1, l2, l3] (.int (x + y) :: r) g := eb_iadd hM_L_law dL_law_792
theorem s_L_law_793 : den sc d ML_law 793 [l0, l1, l2, l3] (.int i :: .ref a :: r) g = mx_ai (mx_av sc g a) i (fun _ f => den sc d ML_law 794 [l0, l1, l2, l3] (.int (f i.toNatClampNeg) :: r) g) := eb_iald hM_L_law dL_law_793
theorem s_L_law_794 : den sc d ML_law 794 [some (.ref a), l1, l2, l3] (r) g = den sc d ML_law 795 [some (.ref a), l1, l2, l3] (.ref a :: r) g := eb_aload_n hM_L_law rfl dL_law_794
theorem s_L_law_795 : den sc d ML_law 795 [l0, l1, l2, some (.int x)] (r) g = den sc d ML_law 796 [l0, l1, l2, some (.int x)] (.int x :: r) g := eb_iload_n hM_L_law rfl dL_law_795
theorem s_L_law_796 : den sc d ML_law 796 [l0, l1, l2, l3] (r) g = den sc d ML_law 797 [l0, l1, l2, l3] (.int (3) :: r) g := eb_iconst hM_L_law rfl dL_law_796
theorem s_L_law_797 : den sc d ML_law 797 [l0, l1, l2, l3] (.int y :: .int x :: r) g = den sc d ML_law 798 [l0, l1, l2, l3] (.int (x + y) :: r) g := eb_iadd hM_L_law dL_law_797
theorem s_L_law_798 : den sc d ML_law 798 [l0, l1, l2, l3] (.int i :: .ref a :: r) g = mx_ai (mx_av sc g a) i (fun _ f => den sc d ML_law 799 [l0, l1, l2, l3] (.int (f i.toNatClampNeg) :: r) g) := eb_iald hM_L_law dL_law_798
theorem s_L_law_799 {a0 : Int32} {a1 : Int32} {a2 : Int32} (hrc : mx_rc g a = some 10) : den sc (d + 1) ML_law 799 [l0, l1, l2, l3] (.int a2 :: .int a1 :: .int a0 :: .ref a :: r) g = mx_ck r (call sc d MX10_keep [.ref a, .int a0, .int a1, .int a2] g) (fun v g' => den sc (d + 1) ML_law 802 [l0, l1, l2, l3] (v.toList ++ r) g') := eb_virtual hM_L_law hC_L_law rc_12_92_10 (by decide) rfl dL_law_799 rfl rfl rfl rfl hrc
theorem s_L_law_802 : den sc d ML_law 802 [l0, l1, some (.ref a), l3] (r) g = den sc d ML_law 803 [l0, l1, some (.ref a), l3] (.ref a :: r) g := eb_aload_n hM_L_law rfl dL_law_802
theorem s_L_law_803 : den sc d ML_law 803 [some (.ref a), l1, l2, l3] (r) g = den sc d ML_law 804 [some (.ref a), l1, l2, l3] (.ref a :: r) g := eb_aload_n hM_L_law rfl dL_law_803
theorem s_L_law_804 : den sc d ML_law 804 [l0, l1, l2, some (.int x)] (r) g = den sc d ML_law 805 [l0, l1, l2, some (.int x)] (.int x :: r) g := eb_iload_n hM_L_law rfl dL_law_804
theorem s_L_law_805 : den sc d ML_law 805 [l0, l1, l2, l3] (r) g = den sc d ML_law 806 [l0, l1, l2, l3] (.int (1) :: r) g := eb_iconst hM_L_law rfl dL_law_805
theorem s_L_law_806 : den sc d ML_law 806 [l0, l1, l2, l3] (.int y :: .int x :: r) g = den sc d ML_law 807 [l0, l1, l2, l3] (.int (x + y) :: r) g := eb_iadd hM_L_law dL_law_806
theorem s_L_law_807 : den sc d ML_law 807 [l0, l1, l2, l3] (.int i :: .ref a :: r) g = mx_ai (mx_av sc g a) i (fun _ f => den sc d ML_law 808 [l0, l1, l2, l3] (.int (f i.toNatClampNeg) :: r) g) := eb_iald hM_L_law dL_law_807
theorem s_L_law_808 : den sc d ML_law 808 [some (.ref a), l1, l2, l3] (r) g = den sc d ML_law 809 [some (.ref a), l1, l2, l3] (.ref a :: r) g := eb_aload_n hM_L_law rfl dL_law_808
theorem s_L_law_809 : den sc d ML_law 809 [l0, l1, l2, some (.int x)] (r) g = den sc d ML_law 810 [l0, l1, l2, some (.int x)] (.int x :: r) g := eb_iload_n hM_L_law rfl dL_law_809
theorem s_L_law_810 : den sc d ML_law 810 [l0, l1, l2, l3] (r) g = den sc d ML_law 811 [l0, l1, l2, l3] (.int (2) :: r) g := eb_iconst hM_L_law rfl dL_law_810
theorem s_L_law_811 : den sc d ML_law 811 [l0, l1, l2, l3] (.int y :: .int x :: r) g = den sc d ML_law 812 [l0, l1, l2, l3] (.int (x + y) :: r) g := eb_iadd hM_L_law dL_law_811
theorem s_L_law_812 : den sc d ML_law 812 [l0, l1, l2, l3] (.int i :: .ref a :: r) g = mx_ai (mx_av sc g a) i (fun _ f => den sc d ML_law 813 [l0, l1, l2, l3] (.int (f i.toNatClampNeg) :: r) g) := eb_iald hM_L_law dL_law_812
theorem s_L_law_813 : den sc d ML_law 813 [some (.ref a), l1, l2, l3] (r) g = den sc d ML_law 814 [some (.ref a), l1, l2, l3] (.ref a :: r) g := eb_aload_n hM_L_law rfl dL_law_813
theorem s_L_law_814 : den sc d ML_law 814 [l0, l1, l2, some (.int x)] (r) g = den sc d ML_law 815 [l0, l1, l2, some (.int x)] (.int x :: r) g := eb_iload_n hM_L_law rfl dL_law_814
theorem s_L_law_815 : den sc d ML_law 815 [l0, l1, l2, l3] (r) g = den sc d ML_law 816 [l0, l1, l2, l3] (.int (3) :: r) g := eb_iconst hM_L_law rfl dL_law_815
theorem s_L_law_816 : den sc d ML_law 816 [l0, l1, l2, l3] (.int y :: .int x :: r) g = den sc d ML_law 817 [l0, l1, l2, l3] (.int (x + y) :: r) g := eb_iadd hM_L_law dL_law_816
theorem s_L_law_817 : den sc d ML_law 817 [l0, l1, l2, l3] (.int i :: .ref a :: r) g = mx_ai (mx_av sc g a) i (fun _ f => den sc d ML_law 818 [l0, l1, l2, l3] (.int (f i.toNatClampNeg) :: r) g) := eb_iald hM_L_law dL_law_817
theorem s_L_law_818 {a0 : Int32} {a1 : Int32} {a2 : Int32} (hrc : mx_rc g a = some 11) : den sc (d + 1) ML_law 818 [l0, l1, l2, l3] (.int a2 :: .int a1 :: .int a0 :: .ref a :: r) g = mx_ck r (call sc d MX11_keep [.ref a, .int a0, .int a1, .int a2] g) (fun v g' => den sc (d + 1) ML_law 821 [l0, l1, l2, l3] (v.toList ++ r) g') := eb_virtual hM_L_law hC_L_law rc_12_95_11 (by decide) rfl dL_law_818 rfl rfl rfl rfl hrc
theorem s_L_law_821 : den sc d ML_law 821 [l0, l1, l2, l3] (.int y :: .int x :: r) g = if x = y then den sc d ML_law 1338 [l0, l1, l2, l3] (r) g else den sc d ML_law 824 [l0, l1, l2, l3] (r) g := eb_icmp_eq hM_L_law rfl dL_law_821
theorem s_L_law_824 : den sc d ML_law 824 [l0, l1, l2, l3] (r) g = den sc d ML_law 825 [l0, l1, l2, l3] (.int (0) :: r) g := eb_iconst hM_L_law rfl dL_law_824
theorem s_L_law_825 (hn : narrow .boolean (.int x) = .int x) : den sc d ML_law 825 [l0, l1, l2, l3] ([.int x]) g = some (some (.int x), g) := eb_reti hM_L_law hT_L_law hn dL_law_825
theorem s_L_law_825_0 : den sc d ML_law 825 [l0, l1, l2, l3] ([.int 0]) g = some (some (.int 0), g) := eb_reti hM_L_law hT_L_law rfl dL_law_825
theorem s_L_law_825_1 : den sc d ML_law 825 [l0, l1, l2, l3] ([.int 1]) g = some (some (.int 1), g) := eb_reti hM_L_law hT_L_law rfl dL_law_825
theorem s_L_law_826 : den sc d ML_law 826 [l0, some (.ref a), l2, l3] (r) g = den sc d ML_law 827 [l0, some (.ref a), l2, l3] (.ref a :: r) g := eb_aload_n hM_L_law rfl dL_law_826
theorem s_L_law_827 : den sc d ML_law 827 [some (.ref a), l1, l2, l3] (r) g = den sc d ML_law 828 [some (.ref a), l1, l2, l3] (.ref a :: r) g := eb_aload_n hM_L_law rfl dL_law_827
theorem s_L_law_828 : den sc d ML_law 828 [l0, l1, l2, some (.int x)] (r) g = den sc d ML_law 829 [l0, l1, l2, some (.int x)] (.int x :: r) g := eb_iload_n hM_L_law rfl dL_law_828
theorem s_L_law_829 : den sc d ML_law 829 [l0, l1, l2, l3] (r) g = den sc d ML_law 830 [l0, l1, l2, l3] (.int (1) :: r) g := eb_iconst hM_L_law rfl dL_law_829
theorem s_L_law_830 : den sc d ML_law 830 [l0, l1, l2, l3] (.int y :: .int x :: r) g = den sc d ML_law 831 [l0, l1, l2, l3] (.int (x + y) :: r) g := eb_iadd hM_L_law dL_law_830
theorem s_L_law_831 : den sc d ML_law 831 [l0, l1, l2, l3] (.int i :: .ref a :: r) g = mx_ai (mx_av sc g a) i (fun _ f => den sc d ML_law 832 [l0, l1, l2, l3] (.int (f i.toNatClampNeg) :: r) g) := eb_iald hM_L_law dL_law_831
theorem s_L_law_832 : den sc d ML_law 832 [some (.ref a), l1, l2, l3] (r) g = den sc d ML_law 833 [some (.ref a), l1, l2, l3] (.ref a :: r) g := eb_aload_n hM_L_law rfl dL_law_832
theorem s_L_law_833 : den sc d ML_law 833 [l0, l1, l2, some (.int x)] (r) g = den sc d ML_law 834 [l0, l1, l2, some (.int x)] (.int x :: r) g := eb_iload_n hM_L_law rfl dL_law_833
theorem s_L_law_834 : den sc d ML_law 834 [l0, l1, l2, l3] (r) g = den sc d ML_law 835 [l0, l1, l2, l3] (.int (2) :: r) g := eb_iconst hM_L_law rfl dL_law_834
theorem s_L_law_835 : den sc d ML_law 835 [l0, l1, l2, l3] (.int y :: .int x :: r) g = den sc d ML_law 836 [l0, l1, l2, l3] (.int (x + y) :: r) g := eb_iadd hM_L_law dL_law_835
theorem s_L_law_836 : den sc d ML_law 836 [l0, l1, l2, l3] (.int i :: .ref a :: r) g = mx_ai (mx_av sc g a) i (fun _ f => den sc d ML_law 837 [l0, l1, l2, l3] (.int (f i.toNatClampNeg) :: r) g) := eb_iald hM_L_law dL_law_836
theorem s_L_law_837 {a0 : Int32} {a1 : Int32} (hrc : mx_rc g a = some 10) : den sc (d + 1) ML_law 837 [l0, l1, l2, l3] (.int a1 :: .int a0 :: .ref a :: r) g = mx_ck r (call sc d MX10_best [.ref a, .int a0, .int a1] g) (fun v g' => den sc (d + 1) ML_law 840 [l0, l1, l2, l3] (v.toList ++ r) g') := eb_virtual hM_L_law hC_L_law rc_12_96_10 (by decide) rfl dL_law_837 rfl rfl rfl rfl hrc
theorem s_L_law_840 : den sc d ML_law 840 [l0, l1, some (.ref a), l3] (r) g = den sc d ML_law 841 [l0, l1, some (.ref a), l3] (.ref a :: r) g := eb_aload_n hM_L_law rfl dL_law_840
theorem s_L_law_841 : den sc d ML_law 841 [some (.ref a), l1, l2, l3] (r) g = den sc d ML_law 842 [some (.ref a), l1, l2, l3] (.ref a :: r) g := eb_aload_n hM_L_law rfl dL_law_841
theorem s_L_law_842 : den sc d ML_law 842 [l0, l1, l2, some (.int x)] (r) g = den sc d ML_law 843 [l0, l1, l2, some (.int x)] (.int x :: r) g := eb_iload_n hM_L_law rfl dL_law_842
theorem s_L_law_843 : den sc d ML_law 843 [l0, l1, l2, l3] (r) g = den sc d ML_law 844 [l0, l1, l2, l3] (.int (1) :: r) g := eb_iconst hM_L_law rfl dL_law_843
theorem s_L_law_844 : den sc d ML_law 844 [l0, l1, l2, l3] (.int y :: .int x :: r) g = den sc d ML_law 845 [l0, l1, l2, l3] (.int (x + y) :: r) g := eb_iadd hM_L_law dL_law_844
theorem s_L_law_845 : den sc d ML_law 845 [l0, l1, l2, l3] (.int i :: .ref a :: r) g = mx_ai (mx_av sc g a) i (fun _ f => den sc d ML_law 846 [l0, l1, l2, l3] (.int (f i.toNatClampNeg) :: r) g) := eb_iald hM_L_law dL_law_845
theorem s_L_law_846 : den sc d ML_law 846 [some (.ref a), l1, l2, l3] (r) g = den sc d ML_law 847 [some (.ref a), l1, l2, l3] (.ref a :: r) g := eb_aload_n hM_L_law rfl dL_law_846
theorem s_L_law_847 : den sc d ML_law 847 [l0, l1, l2, some (.int x)] (r) g = den sc d ML_law 848 [l0, l1, l2, some (.int x)] (.int x :: r) g := eb_iload_n hM_L_law rfl dL_law_847
theorem s_L_law_848 : den sc d ML_law 848 [l0, l1, l2, l3] (r) g = den sc d ML_law 849 [l0, l1, l2, l3] (.int (2) :: r) g := eb_iconst hM_L_law rfl dL_law_848
theorem s_L_law_849 : den sc d ML_law 849 [l0, l1, l2, l3] (.int y :: .int x :: r) g = den sc d ML_law 850 [l0, l1, l2, l3] (.int (x + y) :: r) g := eb_iadd hM_L_law dL_law_849
theorem s_L_law_850 : den sc d ML_law 850 [l0, l1, l2, l3] (.int i :: .ref a :: r) g = mx_ai (mx_av sc g a) i (fun _ f => den sc d ML_law 851 [l0, l1, l2, l3] (.int (f i.toNatClampNeg) :: r) g) := eb_iald hM_L_law dL_law_850
theorem s_L_law_851 {a0 : Int32} {a1 : Int32} (hrc : mx_rc g a = some 11) : den sc (d + 1) ML_law 851 [l0, l1, l2, l3] (.int a1 :: .int a0 :: .ref a :: r) g = mx_ck r (call sc d MX11_best [.ref a, .int a0, .int a1] g) (fun v g' => den sc (d + 1) ML_law 854 [l0, l1, l2, l3] (v.toList ++ r) g') := eb_virtual hM_L_law hC_L_law rc_12_99_11 (by decide) rfl dL_law_851 rfl rfl rfl rfl hrc
theorem s_L_law_854 : den sc d ML_law 854 [l0, l1, l2, l3] (.int y :: .int x :: r) g = if x = y then den sc d ML_law 1338 [l0, l1, l2, l3] (r) g else den sc d ML_law 857 [l0, l1, l2, l3] (r) g := eb_icmp_eq hM_L_law rfl dL_law_854
theorem s_L_law_857 : den sc d ML_law 857 [l0, l1, l2, l3] (r) g = den sc d ML_law 858 [l0, l1, l2, l3] (.int (0) :: r) g := eb_iconst hM_L_law rfl dL_law_857
theorem s_L_law_858 (hn : narrow .boolean (.int x) = .int x) : den sc d ML_law 858 [l0, l1, l2, l3] ([.int x]) g = some (some (.int x), g) := eb_reti hM_L_law hT_L_law hn dL_law_858
theorem s_L_law_858_0 : den sc d ML_law 858 [l0, l1, l2, l3] ([.int 0]) g = some (some (.int 0), g) := eb_reti hM_L_law hT_L_law rfl dL_law_858
theorem s_L_law_858_1 : den sc d ML_law 858 [l0, l1, l2, l3] ([.int 1]) g = some (some (.int 1), g) := eb_reti hM_L_law hT_L_law rfl dL_law_858
theorem s_L_law_859 : den sc d ML_law 859 [l0, some (.ref a), l2, l3] (r) g = den sc d ML_law 860 [l0, some (.ref a), l2, l3] (.ref a :: r) g := eb_aload_n hM_L_law rfl dL_law_859
theorem s_L_law_860 : den sc d ML_law 860 [some (.ref a), l1, l2, l3] (r) g = den sc d ML_law 861 [some (.ref a), l1, l2, l3] (.ref a :: r) g := eb_aload_n hM_L_law rfl dL_law_860
theorem s_L_law_861 : den sc d ML_law 861 [l0, l1, l2, some (.int x)] (r) g = den sc d ML_law 862 [l0, l1, l2, some (.int x)] (.int x :: r) g := eb_iload_n hM_L_law rfl dL_law_861
theorem s_L_law_862 : den sc d ML_law 862 [l0, l1, l2, l3] (r) g = den sc d ML_law 863 [l0, l1, l2, l3] (.int (1) :: r) g := eb_iconst hM_L_law rfl dL_law_862
theorem s_L_law_863 : den sc d ML_law 863 [l0, l1, l2, l3] (.int y :: .int x :: r) g = den sc d ML_law 864 [l0, l1, l2, l3] (.int (x + y) :: r) g := eb_iadd hM_L_law dL_law_863
theorem s_L_law_864 : den sc d ML_law 864 [l0, l1, l2, l3] (.int i :: .ref a :: r) g = mx_ai (mx_av sc g a) i (fun _ f => den sc d ML_law 865 [l0, l1, l2, l3] (.int (f i.toNatClampNeg) :: r) g) := eb_iald hM_L_law dL_law_864
theorem s_L_law_865 {a0 : Int32} (hrc : mx_rc g a = some 10) : den sc (d + 1) ML_law 865 [l0, l1, l2, l3] (.int a0 :: .ref a :: r) g = mx_ck r (call sc d MX10_richest [.ref a, .int a0] g) (fun v g' => den sc (d + 1) ML_law 868 [l0, l1, l2, l3] (v.toList ++ r) g') := eb_virtual hM_L_law hC_L_law rc_12_100_10 (by decide) rfl dL_law_865 rfl rfl rfl rfl hrc
theorem s_L_law_868 : den sc d ML_law 868 [l0, l1, some (.ref a), l3] (r) g = den sc d ML_law 869 [l0, l1, some (.ref a), l3] (.ref a :: r) g := eb_aload_n hM_L_law rfl dL_law_868
theorem s_L_law_869 : den sc d ML_law 869 [some (.ref a), l1, l2, l3] (r) g = den sc d ML_law 870 [some (.ref a), l1, l2, l3] (.ref a :: r) g := eb_aload_n hM_L_law rfl dL_law_869
theorem s_L_law_870 : den sc d ML_law 870 [l0, l1, l2, some (.int x)] (r) g = den sc d ML_law 871 [l0, l1, l2, some (.int x)] (.int x :: r) g := eb_iload_n hM_L_law rfl dL_law_870
theorem s_L_law_871 : den sc d ML_law 871 [l0, l1, l2, l3] (r) g = den sc d ML_law 872 [l0, l1, l2, l3] (.int (1) :: r) g := eb_iconst hM_L_law rfl dL_law_871
theorem s_L_law_872 : den sc d ML_law 872 [l0, l1, l2, l3] (.int y :: .int x :: r) g = den sc d ML_law 873 [l0, l1, l2, l3] (.int (x + y) :: r) g := eb_iadd hM_L_law dL_law_872
theorem s_L_law_873 : den sc d ML_law 873 [l0, l1, l2, l3] (.int i :: .ref a :: r) g = mx_ai (mx_av sc g a) i (fun _ f => den sc d ML_law 874 [l0, l1, l2, l3] (.int (f i.toNatClampNeg) :: r) g) := eb_iald hM_L_law dL_law_873
theorem s_L_law_874 {a0 : Int32} (hrc : mx_rc g a = some 11) : den sc (d + 1) ML_law 874 [l0, l1, l2, l3] (.int a0 :: .ref a :: r) g = mx_ck r (call sc d MX11_richest [.ref a, .int a0] g) (fun v g' => den sc (d + 1) ML_law 877 [l0, l1, l2, l3] (v.toList ++ r) g') := eb_virtual hM_L_law hC_L_law rc_12_103_11 (by decide) rfl dL_law_874 rfl rfl rfl rfl hrc
theorem s_L_law_877 : den sc d ML_law 877 [l0, l1, l2, l3] (.int y :: .int x :: r) g = if x = y then den sc d ML_law 1338 [l0, l1, l2, l3] (r) g else den sc d ML_law 880 [l0, l1, l2, l3] (r) g := eb_icmp_eq hM_L_law rfl dL_law_877
theorem s_L_law_880 : den sc d ML_law 880 [l0, l1, l2, l3] (r) g = den sc d ML_law 881 [l0, l1, l2, l3] (.int (0) :: r) g := eb_iconst hM_L_law rfl dL_law_880
theorem s_L_law_881 (hn : narrow .boolean (.int x) = .int x) : den sc d ML_law 881 [l0, l1, l2, l3] ([.int x]) g = some (some (.int x), g) := eb_reti hM_L_law hT_L_law hn dL_law_881
theorem s_L_law_881_0 : den sc d ML_law 881 [l0, l1, l2, l3] ([.int 0]) g = some (some (.int 0), g) := eb_reti hM_L_law hT_L_law rfl dL_law_881
theorem s_L_law_881_1 : den sc d ML_law 881 [l0, l1, l2, l3] ([.int 1]) g = some (some (.int 1), g) := eb_reti hM_L_law hT_L_law rfl dL_law_881
theorem s_L_law_882 : den sc d ML_law 882 [l0, some (.ref a), l2, l3] (r) g = den sc d ML_law 883 [l0, some (.ref a), l2, l3] (.ref a :: r) g := eb_aload_n hM_L_law rfl dL_law_882
theorem s_L_law_883 : den sc d ML_law 883 [some (.ref a), l1, l2, l3] (r) g = den sc d ML_law 884 [some (.ref a), l1, l2, l3] (.ref a :: r) g := eb_aload_n hM_L_law rfl dL_law_883
theorem s_L_law_884 : den sc d ML_law 884 [l0, l1, l2, some (.int x)] (r) g = den sc d ML_law 885 [l0, l1, l2, some (.int x)] (.int x :: r) g := eb_iload_n hM_L_law rfl dL_law_884
theorem s_L_law_885 : den sc d ML_law 885 [l0, l1, l2, l3] (r) g = den sc d ML_law 886 [l0, l1, l2, l3] (.int (1) :: r) g := eb_iconst hM_L_law rfl dL_law_885
theorem s_L_law_886 : den sc d ML_law 886 [l0, l1, l2, l3] (.int y :: .int x :: r) g = den sc d ML_law 887 [l0, l1, l2, l3] (.int (x + y) :: r) g := eb_iadd hM_L_law dL_law_886
theorem s_L_law_887 : den sc d ML_law 887 [l0, l1, l2, l3] (.int i :: .ref a :: r) g = mx_ai (mx_av sc g a) i (fun _ f => den sc d ML_law 888 [l0, l1, l2, l3] (.int (f i.toNatClampNeg) :: r) g) := eb_iald hM_L_law dL_law_887
theorem s_L_law_888 : den sc d ML_law 888 [some (.ref a), l1, l2, l3] (r) g = den sc d ML_law 889 [some (.ref a), l1, l2, l3] (.ref a :: r) g := eb_aload_n hM_L_law rfl dL_law_888
theorem s_L_law_889 : den sc d ML_law 889 [l0, l1, l2, some (.int x)] (r) g = den sc d ML_law 890 [l0, l1, l2, some (.int x)] (.int x :: r) g := eb_iload_n hM_L_law rfl dL_law_889
theorem s_L_law_890 : den sc d ML_law 890 [l0, l1, l2, l3] (r) g = den sc d ML_law 891 [l0, l1, l2, l3] (.int (2) :: r) g := eb_iconst hM_L_law rfl dL_law_890
theorem s_L_law_891 : den sc d ML_law 891 [l0, l1, l2, l3] (.int y :: .int x :: r) g = den sc d ML_law 892 [l0, l1, l2, l3] (.int (x + y) :: r) g := eb_iadd hM_L_law dL_law_891
theorem s_L_law_892 : den sc d ML_law 892 [l0, l1, l2, l3] (.int i :: .ref a :: r) g = mx_ai (mx_av sc g a) i (fun _ f => den sc d ML_law 893 [l0, l1, l2, l3] (.int (f i.toNatClampNeg) :: r) g) := eb_iald hM_L_law dL_law_892
theorem s_L_law_893 : den sc d ML_law 893 [some (.ref a), l1, l2, l3] (r) g = den sc d ML_law 894 [some (.ref a), l1, l2, l3] (.ref a :: r) g := eb_aload_n hM_L_law rfl dL_law_893
theorem s_L_law_894 : den sc d ML_law 894 [l0, l1, l2, some (.int x)] (r) g = den sc d ML_law 895 [l0, l1, l2, some (.int x)] (.int x :: r) g := eb_iload_n hM_L_law rfl dL_law_894
theorem s_L_law_895 : den sc d ML_law 895 [l0, l1, l2, l3] (r) g = den sc d ML_law 896 [l0, l1, l2, l3] (.int (3) :: r) g := eb_iconst hM_L_law rfl dL_law_895
theorem s_L_law_896 : den sc d ML_law 896 [l0, l1, l2, l3] (.int y :: .int x :: r) g = den sc d ML_law 897 [l0, l1, l2, l3] (.int (x + y) :: r) g := eb_iadd hM_L_law dL_law_896
theorem s_L_law_897 : den sc d ML_law 897 [l0, l1, l2, l3] (.int i :: .ref a :: r) g = mx_ai (mx_av sc g a) i (fun _ f => den sc d ML_law 898 [l0, l1, l2, l3] (.int (f i.toNatClampNeg) :: r) g) := eb_iald hM_L_law dL_law_897
theorem s_L_law_898 {a0 : Int32} {a1 : Int32} {a2 : Int32} (hrc : mx_rc g a = some 10) : den sc (d + 1) ML_law 898 [l0, l1, l2, l3] (.int a2 :: .int a1 :: .int a0 :: .ref a :: r) g = mx_ck r (call sc d MX10_fewest [.ref a, .int a0, .int a1, .int a2] g) (fun v g' => den sc (d + 1) ML_law 901 [l0, l1, l2, l3] (v.toList ++ r) g') := eb_virtual hM_L_law hC_L_law rc_12_104_10 (by decide) rfl dL_law_898 rfl rfl rfl rfl hrc
theorem s_L_law_901 : den sc d ML_law 901 [l0, l1, some (.ref a), l3] (r) g = den sc d ML_law 902 [l0, l1, some (.ref a), l3] (.ref a :: r) g := eb_aload_n hM_L_law rfl dL_law_901
theorem s_L_law_902 : den sc d ML_law 902 [some (.ref a), l1, l2, l3] (r) g = den sc d ML_law 903 [some (.ref a), l1, l2, l3] (.ref a :: r) g := eb_aload_n hM_L_law rfl dL_law_902
theorem s_L_law_903 : den sc d ML_law 903 [l0, l1, l2, some (.int x)] (r) g = den sc d ML_law 904 [l0, l1, l2, some (.int x)] (.int x :: r) g := eb_iload_n hM_L_law rfl dL_law_903
theorem s_L_law_904 : den sc d ML_law 904 [l0, l1, l2, l3] (r) g = den sc d ML_law 905 [l0, l1, l2, l3] (.int (1) :: r) g := eb_iconst hM_L_law rfl dL_law_904
theorem s_L_law_905 : den sc d ML_law 905 [l0, l1, l2, l3] (.int y :: .int x :: r) g = den sc d ML_law 906 [l0, l1, l2, l3] (.int (x + y) :: r) g := eb_iadd hM_L_law dL_law_905
theorem s_L_law_906 : den sc d ML_law 906 [l0, l1, l2, l3] (.int i :: .ref a :: r) g = mx_ai (mx_av sc g a) i (fun _ f => den sc d ML_law 907 [l0, l1, l2, l3] (.int (f i.toNatClampNeg) :: r) g) := eb_iald hM_L_law dL_law_906
theorem s_L_law_907 : den sc d ML_law 907 [some (.ref a), l1, l2, l3] (r) g = den sc d ML_law 908 [some (.ref a), l1, l2, l3] (.ref a :: r) g := eb_aload_n hM_L_law rfl dL_law_907
theorem s_L_law_908 : den sc d ML_law 908 [l0, l1, l2, some (.int x)] (r) g = den sc d ML_law 909 [l0, l1, l2, some (.int x)] (.int x :: r) g := eb_iload_n hM_L_law rfl dL_law_908
theorem s_L_law_909 : den sc d ML_law 909 [l0, l1, l2, l3] (r) g = den sc d ML_law 910 [l0, l1, l2, l3] (.int (2) :: r) g := eb_iconst hM_L_law rfl dL_law_909
theorem s_L_law_910 : den sc d ML_law 910 [l0, l1, l2, l3] (.int y :: .int x :: r) g = den sc d ML_law 911 [l0, l1, l2, l3] (.int (x + y) :: r) g := eb_iadd hM_L_law dL_law_910
theorem s_L_law_911 : den sc d ML_law 911 [l0, l1, l2, l3] (.int i :: .ref a :: r) g = mx_ai (mx_av sc g a) i (fun _ f => den sc d ML_law 912 [l0, l1, l2, l3] (.int (f i.toNatClampNeg) :: r) g) := eb_iald hM_L_law dL_law_911
theorem s_L_law_912 : den sc d ML_law 912 [some (.ref a), l1, l2, l3] (r) g = den sc d ML_law 913 [some (.ref a), l1, l2, l3] (.ref a :: r) g := eb_aload_n hM_L_law rfl dL_law_912
theorem s_L_law_913 : den sc d ML_law 913 [l0, l1, l2, some (.int x)] (r) g = den sc d ML_law 914 [l0, l1, l2, some (.int x)] (.int x :: r) g := eb_iload_n hM_L_law rfl dL_law_913
theorem s_L_law_914 : den sc d ML_law 914 [l0, l1, l2, l3] (r) g = den sc d ML_law 915 [l0, l1, l2, l3] (.int (3) :: r) g := eb_iconst hM_L_law rfl dL_law_914
theorem s_L_law_915 : den sc d ML_law 915 [l0, l1, l2, l3] (.int y :: .int x :: r) g = den sc d ML_law 916 [l0, l1, l2, l3] (.int (x + y) :: r) g := eb_iadd hM_L_law dL_law_915
theorem s_L_law_916 : den sc d ML_law 916 [l0, l1, l2, l3] (.int i :: .ref a :: r) g = mx_ai (mx_av sc g a) i (fun _ f => den sc d ML_law 917 [l0, l1, l2, l3] (.int (f i.toNatClampNeg) :: r) g) := eb_iald hM_L_law dL_law_916
theorem s_L_law_917 {a0 : Int32} {a1 : Int32} {a2 : Int32} (hrc : mx_rc g a = some 11) : den sc (d + 1) ML_law 917 [l0, l1, l2, l3] (.int a2 :: .int a1 :: .int a0 :: .ref a :: r) g = mx_ck r (call sc d MX11_fewest [.ref a, .int a0, .int a1, .int a2] g) (fun v g' => den sc (d + 1) ML_law 920 [l0, l1, l2, l3] (v.toList ++ r) g') := eb_virtual hM_L_law hC_L_law rc_12_107_11 (by decide) rfl dL_law_917 rfl rfl rfl rfl hrc
theorem s_L_law_920 : den sc d ML_law 920 [l0, l1, l2, l3] (.int y :: .int x :: r) g = if x = y then den sc d ML_law 1338 [l0, l1, l2, l3] (r) g else den sc d ML_law 923 [l0, l1, l2, l3] (r) g := eb_icmp_eq hM_L_law rfl dL_law_920
theorem s_L_law_923 : den sc d ML_law 923 [l0, l1, l2, l3] (r) g = den sc d ML_law 924 [l0, l1, l2, l3] (.int (0) :: r) g := eb_iconst hM_L_law rfl dL_law_923
theorem s_L_law_924 (hn : narrow .boolean (.int x) = .int x) : den sc d ML_law 924 [l0, l1, l2, l3] ([.int x]) g = some (some (.int x), g) := eb_reti hM_L_law hT_L_law hn dL_law_924
theorem s_L_law_924_0 : den sc d ML_law 924 [l0, l1, l2, l3] ([.int 0]) g = some (some (.int 0), g) := eb_reti hM_L_law hT_L_law rfl dL_law_924
theorem s_L_law_924_1 : den sc d ML_law 924 [l0, l1, l2, l3] ([.int 1]) g = some (some (.int 1), g) := eb_reti hM_L_law hT_L_law rfl dL_law_924
theorem s_L_law_925 : den sc d ML_law 925 [l0, some (.ref a), l2, l3] (r) g = den sc d ML_law 926 [l0, some (.ref a), l2, l3] (.ref a :: r) g := eb_aload_n hM_L_law rfl dL_law_925
theorem s_L_law_926 : den sc d ML_law 926 [some (.ref a), l1, l2, l3] (r) g = den sc d ML_law 927 [some (.ref a), l1, l2, l3] (.ref a :: r) g := eb_aload_n hM_L_law rfl dL_law_926
theorem s_L_law_927 : den sc d ML_law 927 [l0, l1, l2, some (.int x)] (r) g = den sc d ML_law 928 [l0, l1, l2, some (.int x)] (.int x :: r) g := eb_iload_n hM_L_law rfl dL_law_927
theorem s_L_law_928 : den sc d ML_law 928 [l0, l1, l2, l3] (r) g = den sc d ML_law 929 [l0, l1, l2, l3] (.int (1) :: r) g := eb_iconst hM_L_law rfl dL_law_928
theorem s_L_law_929 : den sc d ML_law 929 [l0, l1, l2, l3] (.int y :: .int x :: r) g = den sc d ML_law 930 [l0, l1, l2, l3] (.int (x + y) :: r) g := eb_iadd hM_L_law dL_law_929
theorem s_L_law_930 : den sc d ML_law 930 [l0, l1, l2, l3] (.int i :: .ref a :: r) g = mx_ai (mx_av sc g a) i (fun _ f => den sc d ML_law 931 [l0, l1, l2, l3] (.int (f i.toNatClampNeg) :: r) g) := eb_iald hM_L_law dL_law_930
theorem s_L_law_931 : den sc d ML_law 931 [some (.ref a), l1, l2, l3] (r) g = den sc d ML_law 932 [some (.ref a), l1, l2, l3] (.ref a :: r) g := eb_aload_n hM_L_law rfl dL_law_931
theorem s_L_law_932 : den sc d ML_law 932 [l0, l1, l2, some (.int x)] (r) g = den sc d ML_law 933 [l0, l1, l2, some (.int x)] (.int x :: r) g := eb_iload_n hM_L_law rfl dL_law_932
theorem s_L_law_933 : den sc d ML_law 933 [l0, l1, l2, l3] (r) g = den sc d ML_law 934 [l0, l1, l2, l3] (.int (2) :: r) g := eb_iconst hM_L_law rfl dL_law_933
theorem s_L_law_934 : den sc d ML_law 934 [l0, l1, l2, l3] (.int y :: .int x :: r) g = den sc d ML_law 935 [l0, l1, l2, l3] (.int (x + y) :: r) g := eb_iadd hM_L_law dL_law_934
theorem s_L_law_935 : den sc d ML_law 935 [l0, l1, l2, l3] (.int i :: .ref a :: r) g = mx_ai (mx_av sc g a) i (fun _ f => den sc d ML_law 936 [l0, l1, l2, l3] (.int (f i.toNatClampNeg) :: r) g) := eb_iald hM_L_law dL_law_935
theorem s_L_law_936 {a0 : Int32} {a1 : Int32} (hrc : mx_rc g a = some 10) : den sc (d + 1) ML_law 936 [l0, l1, l2, l3] (.int a1 :: .int a0 :: .ref a :: r) g = mx_ck r (call sc d MX10_feed [.ref a, .int a0, .int a1] g) (fun v g' => den sc (d + 1) ML_law 939 [l0, l1, l2, l3] (v.toList ++ r) g') := eb_virtual hM_L_law hC_L_law rc_12_108_10 (by decide) rfl dL_law_936 rfl rfl rfl rfl hrc
theorem s_L_law_939 : den sc d ML_law 939 [l0, l1, some (.ref a), l3] (r) g = den sc d ML_law 940 [l0, l1, some (.ref a), l3] (.ref a :: r) g := eb_aload_n hM_L_law rfl dL_law_939
theorem s_L_law_940 : den sc d ML_law 940 [some (.ref a), l1, l2, l3] (r) g = den sc d ML_law 941 [some (.ref a), l1, l2, l3] (.ref a :: r) g := eb_aload_n hM_L_law rfl dL_law_940
theorem s_L_law_941 : den sc d ML_law 941 [l0, l1, l2, some (.int x)] (r) g = den sc d ML_law 942 [l0, l1, l2, some (.int x)] (.int x :: r) g := eb_iload_n hM_L_law rfl dL_law_941
theorem s_L_law_942 : den sc d ML_law 942 [l0, l1, l2, l3] (r) g = den sc d ML_law 943 [l0, l1, l2, l3] (.int (1) :: r) g := eb_iconst hM_L_law rfl dL_law_942
theorem s_L_law_943 : den sc d ML_law 943 [l0, l1, l2, l3] (.int y :: .int x :: r) g = den sc d ML_law 944 [l0, l1, l2, l3] (.int (x + y) :: r) g := eb_iadd hM_L_law dL_law_943
theorem s_L_law_944 : den sc d ML_law 944 [l0, l1, l2, l3] (.int i :: .ref a :: r) g = mx_ai (mx_av sc g a) i (fun _ f => den sc d ML_law 945 [l0, l1, l2, l3] (.int (f i.toNatClampNeg) :: r) g) := eb_iald hM_L_law dL_law_944
theorem s_L_law_945 : den sc d ML_law 945 [some (.ref a), l1, l2, l3] (r) g = den sc d ML_law 946 [some (.ref a), l1, l2, l3] (.ref a :: r) g := eb_aload_n hM_L_law rfl dL_law_945
theorem s_L_law_946 : den sc d ML_law 946 [l0, l1, l2, some (.int x)] (r) g = den sc d ML_law 947 [l0, l1, l2, some (.int x)] (.int x :: r) g := eb_iload_n hM_L_law rfl dL_law_946
theorem s_L_law_947 : den sc d ML_law 947 [l0, l1, l2, l3] (r) g = den sc d ML_law 948 [l0, l1, l2, l3] (.int (2) :: r) g := eb_iconst hM_L_law rfl dL_law_947
theorem s_L_law_948 : den sc d ML_law 948 [l0, l1, l2, l3] (.int y :: .int x :: r) g = den sc d ML_law 949 [l0, l1, l2, l3] (.int (x + y) :: r) g := eb_iadd hM_L_law dL_law_948
theorem s_L_law_949 : den sc d ML_law 949 [l0, l1, l2, l3] (.int i :: .ref a :: r) g = mx_ai (mx_av sc g a) i (fun _ f => den sc d ML_law 950 [l0, l1, l2, l3] (.int (f i.toNatClampNeg) :: r) g) := eb_iald hM_L_law dL_law_949
theorem s_L_law_950 {a0 : Int32} {a1 : Int32} (hrc : mx_rc g a = some 11) : den sc (d + 1) ML_law 950 [l0, l1, l2, l3] (.int a1 :: .int a0 :: .ref a :: r) g = mx_ck r (call sc d MX11_feed [.ref a, .int a0, .int a1] g) (fun v g' => den sc (d + 1) ML_law 953 [l0, l1, l2, l3] (v.toList ++ r) g') := eb_virtual hM_L_law hC_L_law rc_12_111_11 (by decide) rfl dL_law_950 rfl rfl rfl rfl hrc
theorem s_L_law_953 : den sc d ML_law 953 [l0, l1, l2, l3] (.int y :: .int x :: r) g = if x = y then den sc d ML_law 1338 [l0, l1, l2, l3] (r) g else den sc d ML_law 956 [l0, l1, l2, l3] (r) g := eb_icmp_eq hM_L_law rfl dL_law_953
theorem s_L_law_956 : den sc d ML_law 956 [l0, l1, l2, l3] (r) g = den sc d ML_law 957 [l0, l1, l2, l3] (.int (0) :: r) g := eb_iconst hM_L_law rfl dL_law_956
theorem s_L_law_957 (hn : narrow .boolean (.int x) = .int x) : den sc d ML_law 957 [l0, l1, l2, l3] ([.int x]) g = some (some (.int x), g) := eb_reti hM_L_law hT_L_law hn dL_law_957
theorem s_L_law_957_0 : den sc d ML_law 957 [l0, l1, l2, l3] ([.int 0]) g = some (some (.int 0), g) := eb_reti hM_L_law hT_L_law rfl dL_law_957
theorem s_L_law_957_1 : den sc d ML_law 957 [l0, l1, l2, l3] ([.int 1]) g = some (some (.int 1), g) := eb_reti hM_L_law hT_L_law rfl dL_law_957
theorem s_L_law_958 : den sc d ML_law 958 [l0, some (.ref a), l2, l3] (r) g = den sc d ML_law 959 [l0, some (.ref a), l2, l3] (.ref a :: r) g := eb_aload_n hM_L_law rfl dL_law_958
theorem s_L_law_959  (hrc : mx_rc g a = some 10) : den sc (d + 1) ML_law 959 [l0, l1, l2, l3] (.ref a :: r) g = mx_ck r (call sc d MX10_wipe [.ref a] g) (fun v g' => den sc (d + 1) ML_law 962 [l0, l1, l2, l3] (v.toList ++ r) g') := eb_virtual hM_L_law hC_L_law rc_12_112_10 (by decide) rfl dL_law_959 rfl rfl rfl rfl hrc
theorem s_L_law_962 : den sc d ML_law 962 [l0, l1, some (.ref a), l3] (r) g = den sc d ML_law 963 [l0, l1, some (.ref a), l3] (.ref a :: r) g := eb_aload_n hM_L_law rfl dL_law_962
theorem s_L_law_963  (hrc : mx_rc g a = some 11) : den sc (d + 1) ML_law 963 [l0, l1, l2, l3] (.ref a :: r) g = mx_ck r (call sc d MX11_wipe [.ref a] g) (fun v g' => den sc (d + 1) ML_law 966 [l0, l1, l2, l3] (v.toList ++ r) g') := eb_virtual hM_L_law hC_L_law rc_12_116_11 (by decide) rfl dL_law_963 rfl rfl rfl rfl hrc
theorem s_L_law_966 : den sc d ML_law 966 [l0, l1, l2, l3] (.int y :: .int x :: r) g = if x = y then den sc d ML_law 1338 [l0, l1, l2, l3] (r) g else den sc d ML_law 969 [l0, l1, l2, l3] (r) g := eb_icmp_eq hM_L_law rfl dL_law_966
theorem s_L_law_969 : den sc d ML_law 969 [l0, l1, l2, l3] (r) g = den sc d ML_law 970 [l0, l1, l2, l3] (.int (0) :: r) g := eb_iconst hM_L_law rfl dL_law_969
theorem s_L_law_970 (hn : narrow .boolean (.int x) = .int x) : den sc d ML_law 970 [l0, l1, l2, l3] ([.int x]) g = some (some (.int x), g) := eb_reti hM_L_law hT_L_law hn dL_law_970
theorem s_L_law_970_0 : den sc d ML_law 970 [l0, l1, l2, l3] ([.int 0]) g = some (some (.int 0), g) := eb_reti hM_L_law hT_L_law rfl dL_law_970
theorem s_L_law_970_1 : den sc d ML_law 970 [l0, l1, l2, l3] ([.int 1]) g = some (some (.int 1), g) := eb_reti hM_L_law hT_L_law rfl dL_law_970
theorem s_L_law_971 : den sc d ML_law 971 [l0, some (.ref a), l2, l3] (r) g = den sc d ML_law 972 [l0, some (.ref a), l2, l3] (.ref a :: r) g := eb_aload_n hM_L_law rfl dL_law_971
theorem s_L_law_972  (hrc : mx_rc g a = some 10) : den sc (d + 1) ML_law 972 [l0, l1, l2, l3] (.ref a :: r) g = mx_ck r (call sc d MX10_family [.ref a] g) (fun v g' => den sc (d + 1) ML_law 975 [l0, l1, l2, l3] (v.toList ++ r) g') := eb_virtual hM_L_law hC_L_law rc_12_117_10 (by decide) rfl dL_law_972 rfl rfl rfl rfl hrc
theorem s_L_law_975 : den sc d ML_law 975 [l0, l1, some (.ref a), l3] (r) g = den sc d ML_law 976 [l0, l1, some (.ref a), l3] (.ref a :: r) g := eb_aload_n hM_L_law rfl dL_law_975
theorem s_L_law_976  (hrc : mx_rc g a = some 11) : den sc (d + 1) ML_law 976 [l0, l1, l2, l3] (.ref a :: r) g = mx_ck r (call sc d MX11_family [.ref a] g) (fun v g' => den sc (d + 1) ML_law 979 [l0, l1, l2, l3] (v.toList ++ r) g') := eb_virtual hM_L_law hC_L_law rc_12_120_11 (by decide) rfl dL_law_976 rfl rfl rfl rfl hrc
theorem s_L_law_979 : den sc d ML_law 979 [l0, l1, l2, l3] (.int y :: .int x :: r) g = if x = y then den sc d ML_law 1338 [l0, l1, l2, l3] (r) g else den sc d ML_law 982 [l0, l1, l2, l3] (r) g := eb_icmp_eq hM_L_law rfl dL_law_979
theorem s_L_law_982 : den sc d ML_law 982 [l0, l1, l2, l3] (r) g = den sc d ML_law 983 [l0, l1, l2, l3] (.int (0) :: r) g := eb_iconst hM_L_law rfl dL_law_982
theorem s_L_law_983 (hn : narrow .boolean (.int x) = .int x) : den sc d ML_law 983 [l0, l1, l2, l3] ([.int x]) g = some (some (.int x), g) := eb_reti hM_L_law hT_L_law hn dL_law_983
theorem s_L_law_983_0 : den sc d ML_law 983 [l0, l1, l2, l3] ([.int 0]) g = some (some (.int 0), g) := eb_reti hM_L_law hT_L_law rfl dL_law_983
theorem s_L_law_983_1 : den sc d ML_law 983 [l0, l1, l2, l3] ([.int 1]) g = some (some (.int 1), g) := eb_reti hM_L_law hT_L_law rfl dL_law_983
theorem s_L_law_984 : den sc d ML_law 984 [l0, some (.ref a), l2, l3] (r) g = den sc d ML_law 985 [l0, some (.ref a), l2, l3] (.ref a :: r) g := eb_aload_n hM_L_law rfl dL_law_984
theorem s_L_law_985 : den sc d ML_law 985 [some (.ref a), l1, l2, l3] (r) g = den sc d ML_law 986 [some (.ref a), l1, l2, l3] (.ref a :: r) g := eb_aload_n hM_L_law rfl dL_law_985
theorem s_L_law_986 : den sc d ML_law 986 [l0, l1, l2, some (.int x)] (r) g = den sc d ML_law 987 [l0, l1, l2, some (.int x)] (.int x :: r) g := eb_iload_n hM_L_law rfl dL_law_986
theorem s_L_law_987 : den sc d ML_law 987 [l0, l1, l2, l3] (r) g = den sc d ML_law 988 [l0, l1, l2, l3] (.int (1) :: r) g := eb_iconst hM_L_law rfl dL_law_987
theorem s_L_law_988 : den sc d ML_law 988 [l0, l1, l2, l3] (.int y :: .int x :: r) g = den sc d ML_law 989 [l0, l1, l2, l3] (.int (x + y) :: r) g := eb_iadd hM_L_law dL_law_988
theorem s_L_law_989 : den sc d ML_law 989 [l0, l1, l2, l3] (.int i :: .ref a :: r) g = mx_ai (mx_av sc g a) i (fun _ f => den sc d ML_law 990 [l0, l1, l2, l3] (.int (f i.toNatClampNeg) :: r) g) := eb_iald hM_L_law dL_law_989
theorem s_L_law_990 : den sc d ML_law 990 [some (.ref a), l1, l2, l3] (r) g = den sc d ML_law 991 [some (.ref a), l1, l2, l3] (.ref a :: r) g := eb_aload_n hM_L_law rfl dL_law_990
theorem s_L_law_991 : den sc d ML_law 991 [l0, l1, l2, some (.int x)] (r) g = den sc d ML_law 992 [l0, l1, l2, some (.int x)] (.int x :: r) g := eb_iload_n hM_L_law rfl dL_law_991
theorem s_L_law_992 : den sc d ML_law 992 [l0, l1, l2, l3] (r) g = den sc d ML_law 993 [l0, l1, l2, l3] (.int (2) :: r) g := eb_iconst hM_L_law rfl dL_law_992
theorem s_L_law_993 : den sc d ML_law 993 [l0, l1, l2, l3] (.int y :: .int x :: r) g = den sc d ML_law 994 [l0, l1, l2, l3] (.int (x + y) :: r) g := eb_iadd hM_L_law dL_law_993
theorem s_L_law_994 : den sc d ML_law 994 [l0, l1, l2, l3] (.int i :: .ref a :: r) g = mx_ai (mx_av sc g a) i (fun _ f => den sc d ML_law 995 [l0, l1, l2, l3] (.int (f i.toNatClampNeg) :: r) g) := eb_iald hM_L_law dL_law_994
theorem s_L_law_995 : den sc d ML_law 995 [some (.ref a), l1, l2, l3] (r) g = den sc d ML_law 996 [some (.ref a), l1, l2, l3] (.ref a :: r) g := eb_aload_n hM_L_law rfl dL_law_995
theorem s_L_law_996 : den sc d ML_law 996 [l0, l1, l2, some (.int x)] (r) g = den sc d ML_law 997 [l0, l1, l2, some (.int x)] (.int x :: r) g := eb_iload_n hM_L_law rfl dL_law_996
theorem s_L_law_997 : den sc d ML_law 997 [l0, l1, l2, l3] (r) g = den sc d ML_law 998 [l0, l1, l2, l3] (.int (3) :: r) g := eb_iconst hM_L_law rfl dL_law_997
theorem s_L_law_998 : den sc d ML_law 998 [l0, l1, l2, l3] (.int y :: .int x :: r) g = den sc d ML_law 999 [l0, l1, l2, l3] (.int (x + y) :: r) g := eb_iadd hM_L_law dL_law_998
theorem s_L_law_999 : den sc d ML_law 999 [l0, l1, l2, l3] (.int i :: .ref a :: r) g = mx_ai (mx_av sc g a) i (fun _ f => den sc d ML_law 1000 [l0, l1, l2, l3] (.int (f i.toNatClampNeg) :: r) g) := eb_iald hM_L_law dL_law_999
theorem s_L_law_1000 {a0 : Int32} {a1 : Int32} {a2 : Int32} (hrc : mx_rc g a = some 10) : den sc (d + 1) ML_law 1000 [l0, l1, l2, l3] (.int a2 :: .int a1 :: .int a0 :: .ref a :: r) g = mx_ck r (call sc d MX10_sheet [.ref a, .int a0, .int a1, .int a2] g) (fun v g' => den sc (d + 1) ML_law 1003 [l0, l1, l2, l3] (v.toList ++ r) g') := eb_virtual hM_L_law hC_L_law rc_12_121_10 (by decide) rfl dL_law_1000 rfl rfl rfl rfl hrc
theorem s_L_law_1003 : den sc d ML_law 1003 [l0, l1, some (.ref a), l3] (r) g = den sc d ML_law 1004 [l0, l1, some (.ref a), l3] (.ref a :: r) g := eb_aload_n hM_L_law rfl dL_law_1003
theorem s_L_law_1004 : den sc d ML_law 1004 [some (.ref a), l1, l2, l3] (r) g = den sc d ML_law 1005 [some (.ref a), l1, l2, l3] (.ref a :: r) g := eb_aload_n hM_L_law rfl dL_law_1004
theorem s_L_law_1005 : den sc d ML_law 1005 [l0, l1, l2, some (.int x)] (r) g = den sc d ML_law 1006 [l0, l1, l2, some (.int x)] (.int x :: r) g := eb_iload_n hM_L_law rfl dL_law_1005
theorem s_L_law_1006 : den sc d ML_law 1006 [l0, l1, l2, l3] (r) g = den sc d ML_law 1007 [l0, l1, l2, l3] (.int (1) :: r) g := eb_iconst hM_L_law rfl dL_law_1006
theorem s_L_law_1007 : den sc d ML_law 1007 [l0, l1, l2, l3] (.int y :: .int x :: r) g = den sc d ML_law 1008 [l0, l1, l2, l3] (.int (x + y) :: r) g := eb_iadd hM_L_law dL_law_1007
theorem s_L_law_1008 : den sc d ML_law 1008 [l0, l1, l2, l3] (.int i :: .ref a :: r) g = mx_ai (mx_av sc g a) i (fun _ f => den sc d ML_law 1009 [l0, l1, l2, l3] (.int (f i.toNatClampNeg) :: r) g) := eb_iald hM_L_law dL_law_1008
theorem s_L_law_1009 : den sc d ML_law 1009 [some (.ref a), l1, l2, l3] (r) g = den sc d ML_law 1010 [some (.ref a), l1, l2, l3] (.ref a :: r) g := eb_aload_n hM_L_law rfl dL_law_1009
theorem s_L_law_1010 : den sc d ML_law 1010 [l0, l1, l2, some (.int x)] (r) g = den sc d ML_law 1011 [l0, l1, l2, some (.int x)] (.int x :: r) g := eb_iload_n hM_L_law rfl dL_law_1010
theorem s_L_law_1011 : den sc d ML_law 1011 [l0, l1, l2, l3] (r) g = den sc d ML_law 1012 [l0, l1, l2, l3] (.int (2) :: r) g := eb_iconst hM_L_law rfl dL_law_1011
theorem s_L_law_1012 : den sc d ML_law 1012 [l0, l1, l2, l3] (.int y :: .int x :: r) g = den sc d ML_law 1013 [l0, l1, l2, l3] (.int (x + y) :: r) g := eb_iadd hM_L_law dL_law_1012
theorem s_L_law_1013 : den sc d ML_law 1013 [l0, l1, l2, l3] (.int i :: .ref a :: r) g = mx_ai (mx_av sc g a) i (fun _ f => den sc d ML_law 1014 [l0, l1, l2, l3] (.int (f i.toNatClampNeg) :: r) g) := eb_iald hM_L_law dL_law_1013
theorem s_L_law_1014 : den sc d ML_law 1014 [some (.ref a), l1, l2, l3] (r) g = den sc d ML_law 1015 [some (.ref a), l1, l2, l3] (.ref a :: r) g := eb_aload_n hM_L_law rfl dL_law_1014
theorem s_L_law_1015 : den sc d ML_law 1015 [l0, l1, l2, some (.int x)] (r) g = den sc d ML_law 1016 [l0, l1, l2, some (.int x)] (.int x :: r) g := eb_iload_n hM_L_law rfl dL_law_1015
theorem s_L_law_1016 : den sc d ML_law 1016 [l0, l1, l2, l3] (r) g = den sc d ML_law 1017 [l0, l1, l2, l3] (.int (3) :: r) g := eb_iconst hM_L_law rfl dL_law_1016
theorem s_L_law_1017 : den sc d ML_law 1017 [l0, l1, l2, l3] (.int y :: .int x :: r) g = den sc d ML_law 1018 [l0, l1, l2, l3] (.int (x + y) :: r) g := eb_iadd hM_L_law dL_law_1017
theorem s_L_law_1018 : den sc d ML_law 1018 [l0, l1, l2, l3] (.int i :: .ref a :: r) g = mx_ai (mx_av sc g a) i (fun _ f => den sc d ML_law 1019 [l0, l1, l2, l3] (.int (f i.toNatClampNeg) :: r) g) := eb_iald hM_L_law dL_law_1018
theorem s_L_law_1019 {a0 : Int32} {a1 : Int32} {a2 : Int32} (hrc : mx_rc g a = some 11) : den sc (d + 1) ML_law 1019 [l0, l1, l2, l3] (.int a2 :: .int a1 :: .int a0 :: .ref a :: r) g = mx_ck r (call sc d MX11_sheet [.ref a, .int a0, .int a1, .int a2] g) (fun v g' => den sc (d + 1) ML_law 1022 [l0, l1, l2, l3] (v.toList ++ r) g') := eb_virtual hM_L_law hC_L_law rc_12_124_11 (by decide) rfl dL_law_1019 rfl rfl rfl rfl hrc
theorem s_L_law_1022 : den sc d ML_law 1022 [l0, l1, l2, l3] (.int y :: .int x :: r) g = if x = y then den sc d ML_law 1338 [l0, l1, l2, l3] (r) g else den sc d ML_law 1025 [l0, l1, l2, l3] (r) g := eb_icmp_eq hM_L_law rfl dL_law_1022
theorem s_L_law_1025 : den sc d ML_law 1025 [l0, l1, l2, l3] (r) g = den sc d ML_law 1026 [l0, l1, l2, l3] (.int (0) :: r) g := eb_iconst hM_L_law rfl dL_law_1025
theorem s_L_law_1026 (hn : narrow .boolean (.int x) = .int x) : den sc d ML_law 1026 [l0, l1, l2, l3] ([.int x]) g = some (some (.int x), g) := eb_reti hM_L_law hT_L_law hn dL_law_1026
theorem s_L_law_1026_0 : den sc d ML_law 1026 [l0, l1, l2, l3] ([.int 0]) g = some (some (.int 0), g) := eb_reti hM_L_law hT_L_law rfl dL_law_1026
theorem s_L_law_1026_1 : den sc d ML_law 1026 [l0, l1, l2, l3] ([.int 1]) g = some (some (.int 1), g) := eb_reti hM_L_law hT_L_law rfl dL_law_1026
theorem s_L_law_1027 : den sc d ML_law 1027 [l0, some (.ref a), l2, l3] (r) g = den sc d ML_law 1028 [l0, some (.ref a), l2, l3] (.ref a :: r) g := eb_aload_n hM_L_law rfl dL_law_1027
theorem s_L_law_1028 : den sc d ML_law 1028 [some (.ref a), l1, l2, l3] (r) g = den sc d ML_law 1029 [some (.ref a), l1, l2, l3] (.ref a :: r) g := eb_aload_n hM_L_law rfl dL_law_1028
theorem s_L_law_1029 : den sc d ML_law 1029 [l0, l1, l2, some (.int x)] (r) g = den sc d ML_law 1030 [l0, l1, l2, some (.int x)] (.int x :: r) g := eb_iload_n hM_L_law rfl dL_law_1029
theorem s_L_law_1030 : den sc d ML_law 1030 [l0, l1, l2, l3] (r) g = den sc d ML_law 1031 [l0, l1, l2, l3] (.int (1) :: r) g := eb_iconst hM_L_law rfl dL_law_1030
theorem s_L_law_1031 : den sc d ML_law 1031 [l0, l1, l2, l3] (.int y :: .int x :: r) g = den sc d ML_law 1032 [l0, l1, l2, l3] (.int (x + y) :: r) g := eb_iadd hM_L_law dL_law_1031
theorem s_L_law_1032 : den sc d ML_law 1032 [l0, l1, l2, l3] (.int i :: .ref a :: r) g = mx_ai (mx_av sc g a) i (fun _ f => den sc d ML_law 1033 [l0, l1, l2, l3] (.int (f i.toNatClampNeg) :: r) g) := eb_iald hM_L_law dL_law_1032
theorem s_L_law_1033 : den sc d ML_law 1033 [some (.ref a), l1, l2, l3] (r) g = den sc d ML_law 1034 [some (.ref a), l1, l2, l3] (.ref a :: r) g := eb_aload_n hM_L_law rfl dL_law_1033
theorem s_L_law_1034 : den sc d ML_law 1034 [l0, l1, l2, some (.int x)] (r) g = den sc d ML_law 1035 [l0, l1, l2, some (.int x)] (.int x :: r) g := eb_iload_n hM_L_law rfl dL_law_1034
theorem s_L_law_1035 : den sc d ML_law 1035 [l0, l1, l2, l3] (r) g = den sc d ML_law 1036 [l0, l1, l2, l3] (.int (2) :: r) g := eb_iconst hM_L_law rfl dL_law_1035
theorem s_L_law_1036 : den sc d ML_law 1036 [l0, l1, l2, l3] (.int y :: .int x :: r) g = den sc d ML_law 1037 [l0, l1, l2, l3] (.int (x + y) :: r) g := eb_iadd hM_L_law dL_law_1036
theorem s_L_law_1037 : den sc d ML_law 1037 [l0, l1, l2, l3] (.int i :: .ref a :: r) g = mx_ai (mx_av sc g a) i (fun _ f => den sc d ML_law 1038 [l0, l1, l2, l3] (.int (f i.toNatClampNeg) :: r) g) := eb_iald hM_L_law dL_law_1037
theorem s_L_law_1038 : den sc d ML_law 1038 [some (.ref a), l1, l2, l3] (r) g = den sc d ML_law 1039 [some (.ref a), l1, l2, l3] (.ref a :: r) g := eb_aload_n hM_L_law rfl dL_law_1038
theorem s_L_law_1039 : den sc d ML_law 1039 [l0, l1, l2, some (.int x)] (r) g = den sc d ML_law 1040 [l0, l1, l2, some (.int x)] (.int x :: r) g := eb_iload_n hM_L_law rfl dL_law_1039
theorem s_L_law_1040 : den sc d ML_law 1040 [l0, l1, l2, l3] (r) g = den sc d ML_law 1041 [l0, l1, l2, l3] (.int (3) :: r) g := eb_iconst hM_L_law rfl dL_law_1040
theorem s_L_law_1041 : den sc d ML_law 1041 [l0, l1, l2, l3] (.int y :: .int x :: r) g = den sc d ML_law 1042 [l0, l1, l2, l3] (.int (x + y) :: r) g := eb_iadd hM_L_law dL_law_1041
theorem s_L_law_1042 : den sc d ML_law 1042 [l0, l1, l2, l3] (.int i :: .ref a :: r) g = mx_ai (mx_av sc g a) i (fun _ f => den sc d ML_law 1043 [l0, l1, l2, l3] (.int (f i.toNatClampNeg) :: r) g) := eb_iald hM_L_law dL_law_1042
theorem s_L_law_1043 : den sc d ML_law 1043 [l0, l1, l2, l3] (.int x :: r) g = den sc d ML_law 1044 [l0, l1, l2, l3] (.long x.toInt64 :: r) g := eb_i2l hM_L_law dL_law_1043
theorem s_L_law_1044 : den sc d ML_law 1044 [l0, l1, l2, l3] (r) g = den sc d ML_law 1046 [l0, l1, l2, l3] (.int (32) :: r) g := eb_bipush hM_L_law rfl dL_law_1044
theorem s_L_law_1046 : den sc d ML_law 1046 [l0, l1, l2, l3] (.int y :: .long z :: r) g = den sc d ML_law 1047 [l0, l1, l2, l3] (.long (z <<< (y.toInt64 &&& 63)) :: r) g := eb_lshl hM_L_law dL_law_1046
theorem s_L_law_1047 : den sc d ML_law 1047 [some (.ref a), l1, l2, l3] (r) g = den sc d ML_law 1048 [some (.ref a), l1, l2, l3] (.ref a :: r) g := eb_aload_n hM_L_law rfl dL_law_1047
theorem s_L_law_1048 : den sc d ML_law 1048 [l0, l1, l2, some (.int x)] (r) g = den sc d ML_law 1049 [l0, l1, l2, some (.int x)] (.int x :: r) g := eb_iload_n hM_L_law rfl dL_law_1048
theorem s_L_law_1049 : den sc d ML_law 1049 [l0, l1, l2, l3] (r) g = den sc d ML_law 1050 [l0, l1, l2, l3] (.int (4) :: r) g := eb_iconst hM_L_law rfl dL_law_1049
theorem s_L_law_1050 : den sc d ML_law 1050 [l0, l1, l2, l3] (.int y :: .int x :: r) g = den sc d ML_law 1051 [l0, l1, l2, l3] (.int (x + y) :: r) g := eb_iadd hM_L_law dL_law_1050
theorem s_L_law_1051 : den sc d ML_law 1051 [l0, l1, l2, l3] (.int i :: .ref a :: r) g = mx_ai (mx_av sc g a) i (fun _ f => den sc d ML_law 1052 [l0, l1, l2, l3] (.int (f i.toNatClampNeg) :: r) g) := eb_iald hM_L_law dL_law_1051
theorem s_L_law_1052 : den sc d ML_law 1052 [l0, l1, l2, l3] (.int x :: r) g = den sc d ML_law 1053 [l0, l1, l2, l3] (.long x.toInt64 :: r) g := eb_i2l hM_L_law dL_law_1052
theorem s_L_law_1053 : den sc d ML_law 1053 [l0, l1, l2, l3] (r) g = den sc d ML_law 1056 [l0, l1, l2, l3] (.long (4294967295) :: r) g := eb_ldc2 hM_L_law hC_L_law rl_12_125 dL_law_1053
theorem s_L_law_1056 : den sc d ML_law 1056 [l0, l1, l2, l3] (.long y2 :: .long x2 :: r) g = den sc d ML_law 1057 [l0, l1, l2, l3] (.long (x2 &&& y2) :: r) g := eb_land hM_L_law dL_law_1056
theorem s_L_law_1057 : den sc d ML_law 1057 [l0, l1, l2, l3] (.long y2 :: .long x2 :: r) g = den sc d ML_law 1058 [l0, l1, l2, l3] (.long (x2 ||| y2) :: r) g := eb_lor hM_L_law dL_law_1057
theorem s_L_law_1058 {a0 : Int32} {a1 : Int32} {a2 : Int64} (hrc : mx_rc g a = some 10) : den sc (d + 1) ML_law 1058 [l0, l1, l2, l3] (.long a2 :: .int a1 :: .int a0 :: .ref a :: r) g = mx_ck r (call sc d MX10_write [.ref a, .int a0, .int a1, .long a2] g) (fun v g' => den sc (d + 1) ML_law 1061 [l0, l1, l2, l3] (v.toList ++ r) g') := eb_virtual hM_L_law hC_L_law rc_12_127_10 (by decide) rfl dL_law_1058 rfl rfl rfl rfl hrc
theorem s_L_law_1061 : den sc d ML_law 1061 [l0, l1, some (.ref a), l3] (r) g = den sc d ML_law 1062 [l0, l1, some (.ref a), l3] (.ref a :: r) g := eb_aload_n hM_L_law rfl dL_law_1061
theorem s_L_law_1062 : den sc d ML_law 1062 [some (.ref a), l1, l2, l3] (r) g = den sc d ML_law 1063 [some (.ref a), l1, l2, l3] (.ref a :: r) g := eb_aload_n hM_L_law rfl dL_law_1062
theorem s_L_law_1063 : den sc d ML_law 1063 [l0, l1, l2, some (.int x)] (r) g = den sc d ML_law 1064 [l0, l1, l2, some (.int x)] (.int x :: r) g := eb_iload_n hM_L_law rfl dL_law_1063
theorem s_L_law_1064 : den sc d ML_law 1064 [l0, l1, l2, l3] (r) g = den sc d ML_law 1065 [l0, l1, l2, l3] (.int (1) :: r) g := eb_iconst hM_L_law rfl dL_law_1064
theorem s_L_law_1065 : den sc d ML_law 1065 [l0, l1, l2, l3] (.int y :: .int x :: r) g = den sc d ML_law 1066 [l0, l1, l2, l3] (.int (x + y) :: r) g := eb_iadd hM_L_law dL_law_1065
theorem s_L_law_1066 : den sc d ML_law 1066 [l0, l1, l2, l3] (.int i :: .ref a :: r) g = mx_ai (mx_av sc g a) i (fun _ f => den sc d ML_law 1067 [l0, l1, l2, l3] (.int (f i.toNatClampNeg) :: r) g) := eb_iald hM_L_law dL_law_1066
theorem s_L_law_1067 : den sc d ML_law 1067 [some (.ref a), l1, l2, l3] (r) g = den sc d ML_law 1068 [some (.ref a), l1, l2, l3] (.ref a :: r) g := eb_aload_n hM_L_law rfl dL_law_1067
theorem s_L_law_1068 : den sc d ML_law 1068 [l0, l1, l2, some (.int x)] (r) g = den sc d ML_law 1069 [l0, l1, l2, some (.int x)] (.int x :: r) g := eb_iload_n hM_L_law rfl dL_law_1068
theorem s_L_law_1069 : den sc d ML_law 1069 [l0, l1, l2, l3] (r) g = den sc d ML_law 1070 [l0, l1, l2, l3] (.int (2) :: r) g := eb_iconst hM_L_law rfl dL_law_1069
theorem s_L_law_1070 : den sc d ML_law 1070 [l0, l1, l2, l3] (.int y :: .int x :: r) g = den sc d ML_law 1071 [l0, l1, l2, l3] (.int (x + y) :: r) g := eb_iadd hM_L_law dL_law_1070
theorem s_L_law_1071 : den sc d ML_law 1071 [l0, l1, l2, l3] (.int i :: .ref a :: r) g = mx_ai (mx_av sc g a) i (fun _ f => den sc d ML_law 1072 [l0, l1, l2, l3] (.int (f i.toNatClampNeg) :: r) g) := eb_iald hM_L_law dL_law_1071
theorem s_L_law_1072 : den sc d ML_law 1072 [some (.ref a), l1, l2, l3] (r) g = den sc d ML_law 1073 [some (.ref a), l1, l2, l3] (.ref a :: r) g := eb_aload_n hM_L_law rfl dL_law_1072
theorem s_L_law_1073 : den sc d ML_law 1073 [l0, l1, l2, some (.int x)] (r) g = den sc d ML_law 1074 [l0, l1, l2, some (.int x)] (.int x :: r) g := eb_iload_n hM_L_law rfl dL_law_1073
theorem s_L_law_1074 : den sc d ML_law 1074 [l0, l1, l2, l3] (r) g = den sc d ML_law 1075 [l0, l1, l2, l3] (.int (3) :: r) g := eb_iconst hM_L_law rfl dL_law_1074
theorem s_L_law_1075 : den sc d ML_law 1075 [l0, l1, l2, l3] (.int y :: .int x :: r) g = den sc d ML_law 1076 [l0, l1, l2, l3] (.int (x + y) :: r) g := eb_iadd hM_L_law dL_law_1075
theorem s_L_law_1076 : den sc d ML_law 1076 [l0, l1, l2, l3] (.int i :: .ref a :: r) g = mx_ai (mx_av sc g a) i (fun _ f => den sc d ML_law 1077 [l0, l1, l2, l3] (.int (f i.toNatClampNeg) :: r) g) := eb_iald hM_L_law dL_law_1076
theorem s_L_law_1077 : den sc d ML_law 1077 [l0, l1, l2, l3] (.int x :: r) g = den sc d ML_law 1078 [l0, l1, l2, l3] (.long x.toInt64 :: r) g := eb_i2l hM_L_law dL_law_1077
theorem s_L_law_1078 : den sc d ML_law 1078 [l0, l1, l2, l3] (r) g = den sc d ML_law 1080 [l0, l1, l2, l3] (.int (32) :: r) g := eb_bipush hM_L_law rfl dL_law_1078
theorem s_L_law_1080 : den sc d ML_law 1080 [l0, l1, l2, l3] (.int y :: .long z :: r) g = den sc d ML_law 1081 [l0, l1, l2, l3] (.long (z <<< (y.toInt64 &&& 63)) :: r) g := eb_lshl hM_L_law dL_law_1080
theorem s_L_law_1081 : den sc d ML_law 1081 [some (.ref a), l1, l2, l3] (r) g = den sc d ML_law 1082 [some (.ref a), l1, l2, l3] (.ref a :: r) g := eb_aload_n hM_L_law rfl dL_law_1081
theorem s_L_law_1082 : den sc d ML_law 1082 [l0, l1, l2, some (.int x)] (r) g = den sc d ML_law 1083 [l0, l1, l2, some (.int x)] (.int x :: r) g := eb_iload_n hM_L_law rfl dL_law_1082
theorem s_L_law_1083 : den sc d ML_law 1083 [l0, l1, l2, l3] (r) g = den sc d ML_law 1084 [l0, l1, l2, l3] (.int (4) :: r) g := eb_iconst hM_L_law rfl dL_law_1083
theorem s_L_law_1084 : den sc d ML_law 1084 [l0, l1, l2, l3] (.int y :: .int x :: r) g = den sc d ML_law 1085 [l0, l1, l2, l3] (.int (x + y) :: r) g := eb_iadd hM_L_law dL_law_1084
theorem s_L_law_1085 : den sc d ML_law 1085 [l0, l1, l2, l3] (.int i :: .ref a :: r) g = mx_ai (mx_av sc g a) i (fun _ f => den sc d ML_law 1086 [l0, l1, l2, l3] (.int (f i.toNatClampNeg) :: r) g) := eb_iald hM_L_law dL_law_1085
theorem s_L_law_1086 : den sc d ML_law 1086 [l0, l1, l2, l3] (.int x :: r) g = den sc d ML_law 1087 [l0, l1, l2, l3] (.long x.toInt64 :: r) g := eb_i2l hM_L_law dL_law_1086
theorem s_L_law_1087 : den sc d ML_law 1087 [l0, l1, l2, l3] (r) g = den sc d ML_law 1090 [l0, l1, l2, l3] (.long (4294967295) :: r) g := eb_ldc2 hM_L_law hC_L_law rl_12_125 dL_law_1087
theorem s_L_law_1090 : den sc d ML_law 1090 [l0, l1, l2, l3] (.long y2 :: .long x2 :: r) g = den sc d ML_law 1091 [l0, l1, l2, l3] (.long (x2 &&& y2) :: r) g := eb_land hM_L_law dL_law_1090
theorem s_L_law_1091 : den sc d ML_law 1091 [l0, l1, l2, l3] (.long y2 :: .long x2 :: r) g = den sc d ML_law 1092 [l0, l1, l2, l3] (.long (x2 ||| y2) :: r) g := eb_lor hM_L_law dL_law_1091
theorem s_L_law_1092 {a0 : Int32} {a1 : Int32} {a2 : Int64} (hrc : mx_rc g a = some 11) : den sc (d + 1) ML_law 1092 [l0, l1, l2, l3] (.long a2 :: .int a1 :: .int a0 :: .ref a :: r) g = mx_ck r (call sc d MX11_write [.ref a, .int a0, .int a1, .long a2] g) (fun v g' => den sc (d + 1) ML_law 1095 [l0, l1, l2, l3] (v.toList ++ r) g') := eb_virtual hM_L_law hC_L_law rc_12_131_11 (by decide) rfl dL_law_1092 rfl rfl rfl rfl hrc
theorem s_L_law_1095 : den sc d ML_law 1095 [l0, l1, l2, l3] (.long y2 :: .long x2 :: r) g = den sc d ML_law 1096 [l0, l1, l2, l3] (.int (lg_cmp x2 y2) :: r) g := eb_lcmp hM_L_law dL_law_1095
theorem s_L_law_1096 : den sc d ML_law 1096 [l0, l1, l2, l3] (.int x :: r) g = if x = 0 then den sc d ML_law 1338 [l0, l1, l2, l3] (r) g else den sc d ML_law 1099 [l0, l1, l2, l3] (r) g := eb_if_eq hM_L_law rfl dL_law_1096
theorem s_L_law_1099 : den sc d ML_law 1099 [l0, l1, l2, l3] (r) g = den sc d ML_law 1100 [l0, l1, l2, l3] (.int (0) :: r) g := eb_iconst hM_L_law rfl dL_law_1099
theorem s_L_law_1100 (hn : narrow .boolean (.int x) = .int x) : den sc d ML_law 1100 [l0, l1, l2, l3] ([.int x]) g = some (some (.int x), g) := eb_reti hM_L_law hT_L_law hn dL_law_1100
theorem s_L_law_1100_0 : den sc d ML_law 1100 [l0, l1, l2, l3] ([.int 0]) g = some (some (.int 0), g) := eb_reti hM_L_law hT_L_law rfl dL_law_1100
theorem s_L_law_1100_1 : den sc d ML_law 1100 [l0, l1, l2, l3] ([.int 1]) g = some (some (.int 1), g) := eb_reti hM_L_law hT_L_law rfl dL_law_1100
theorem s_L_law_1101 : den sc d ML_law 1101 [l0, some (.ref a), l2, l3] (r) g = den sc d ML_law 1102 [l0, some (.ref a), l2, l3] (.ref a :: r) g := eb_aload_n hM_L_law rfl dL_law_1101
theorem s_L_law_1102 : den sc d ML_law 1102 [some (.ref a), l1, l2, l3] (r) g = den sc d ML_law 1103 [some (.ref a), l1, l2, l3] (.ref a :: r) g := eb_aload_n hM_L_law rfl dL_law_1102
theorem s_L_law_1103 : den sc d ML_law 1103 [l0, l1, l2, some (.int x)] (r) g = den sc d ML_law 1104 [l0, l1, l2, some (.int x)] (.int x :: r) g := eb_iload_n hM_L_law rfl dL_law_1103
theorem s_L_law_1104 : den sc d ML_law 1104 [l0, l1, l2, l3] (r) g = den sc d ML_law 1105 [l0, l1, l2, l3] (.int (1) :: r) g := eb_iconst hM_L_law rfl dL_law_1104
theorem s_L_law_1105 : den sc d ML_law 1105 [l0, l1, l2, l3] (.int y :: .int x :: r) g = den sc d ML_law 1106 [l0, l1, l2, l3] (.int (x + y) :: r) g := eb_iadd hM_L_law dL_law_1105
theorem s_L_law_1106 : den sc d ML_law 1106 [l0, l1, l2, l3] (.int i :: .ref a :: r) g = mx_ai (mx_av sc g a) i (fun _ f => den sc d ML_law 1107 [l0, l1, l2, l3] (.int (f i.toNatClampNeg) :: r) g) := eb_iald hM_L_law dL_law_1106
theorem s_L_law_1107 : den sc d ML_law 1107 [some (.ref a), l1, l2, l3] (r) g = den sc d ML_law 1108 [some (.ref a), l1, l2, l3] (.ref a :: r) g := eb_aload_n hM_L_law rfl dL_law_1107
theorem s_L_law_1108 : den sc d ML_law 1108 [l0, l1, l2, some (.int x)] (r) g = den sc d ML_law 1109 [l0, l1, l2, some (.int x)] (.int x :: r) g := eb_iload_n hM_L_law rfl dL_law_1108
theorem s_L_law_1109 : den sc d ML_law 1109 [l0, l1, l2, l3] (r) g = den sc d ML_law 1110 [l0, l1, l2, l3] (.int (2) :: r) g := eb_iconst hM_L_law rfl dL_law_1109
theorem s_L_law_1110 : den sc d ML_law 1110 [l0, l1, l2, l3] (.int y :: .int x :: r) g = den sc d ML_law 1111 [l0, l1, l2, l3] (.int (x + y) :: r) g := eb_iadd hM_L_law dL_law_1110
theorem s_L_law_1111 : den sc d ML_law 1111 [l0, l1, l2, l3] (.int i :: .ref a :: r) g = mx_ai (mx_av sc g a) i (fun _ f => den sc d ML_law 1112 [l0, l1, l2, l3] (.int (f i.toNatClampNeg) :: r) g) := eb_iald hM_L_law dL_law_1111
theorem s_L_law_1112 : den sc d ML_law 1112 [some (.ref a), l1, l2, l3] (r) g = den sc d ML_law 1113 [some (.ref a), l1, l2, l3] (.ref a :: r) g := eb_aload_n hM_L_law rfl dL_law_1112
theorem s_L_law_1113 : den sc d ML_law 1113 [l0, l1, l2, some (.int x)] (r) g = den sc d ML_law 1114 [l0, l1, l2, some (.int x)] (.int x :: r) g := eb_iload_n hM_L_law rfl dL_law_1113
theorem s_L_law_1114 : den sc d ML_law 1114 [l0, l1, l2, l3] (r) g = den sc d ML_law 1115 [l0, l1, l2, l3] (.int (3) :: r) g := eb_iconst hM_L_law rfl dL_law_1114
theorem s_L_law_1115 : den sc d ML_law 1115 [l0, l1, l2, l3] (.int y :: .int x :: r) g = den sc d ML_law 1116 [l0, l1, l2, l3] (.int (x + y) :: r) g := eb_iadd hM_L_law dL_law_1115
theorem s_L_law_1116 : den sc d ML_law 1116 [l0, l1, l2, l3] (.int i :: .ref a :: r) g = mx_ai (mx_av sc g a) i (fun _ f => den sc d ML_law 1117 [l0, l1, l2, l3] (.int (f i.toNatClampNeg) :: r) g) := eb_iald hM_L_law dL_law_1116
theorem s_L_law_1117 : den sc d ML_law 1117 [some (.ref a), l1, l2, l3] (r) g = den sc d ML_law 1118 [some (.ref a), l1, l2, l3] (.ref a :: r) g := eb_aload_n hM_L_law rfl dL_law_1117
theorem s_L_law_1118 : den sc d ML_law 1118 [l0, l1, l2, some (.int x)] (r) g = den sc d ML_law 1119 [l0, l1, l2, some (.int x)] (.int x :: r) g := eb_iload_n hM_L_law rfl dL_law_1118
theorem s_L_law_1119 : den sc d ML_law 1119 [l0, l1, l2, l3] (r) g = den sc d ML_law 1120 [l0, l1, l2, l3] (.int (4) :: r) g := eb_iconst hM_L_law rfl dL_law_1119
theorem s_L_law_1120 : den sc d ML_law 1120 [l0, l1, l2, l3] (.int y :: .int x :: r) g = den sc d ML_law 1121 [l0, l1, l2, l3] (.int (x + y) :: r) g := eb_iadd hM_L_law dL_law_1120
theorem s_L_law_1121 : den sc d ML_law 1121 [l0, l1, l2, l3] (.int i :: .ref a :: r) g = mx_ai (mx_av sc g a) i (fun _ f => den sc d ML_law 1122 [l0, l1, l2, l3] (.int (f i.toNatClampNeg) :: r) g) := eb_iald hM_L_law dL_law_1121
theorem s_L_law_1122 : den sc d ML_law 1122 [some (.ref a), l1, l2, l3] (r) g = den sc d ML_law 1123 [some (.ref a), l1, l2, l3] (.ref a :: r) g := eb_aload_n hM_L_law rfl dL_law_1122
theorem s_L_law_1123 : den sc d ML_law 1123 [l0, l1, l2, some (.int x)] (r) g = den sc d ML_law 1124 [l0, l1, l2, some (.int x)] (.int x :: r) g := eb_iload_n hM_L_law rfl dL_law_1123
theorem s_L_law_1124 : den sc d ML_law 1124 [l0, l1, l2, l3] (r) g = den sc d ML_law 1125 [l0, l1, l2, l3] (.int (5) :: r) g := eb_iconst hM_L_law rfl dL_law_1124
theorem s_L_law_1125 : den sc d ML_law 1125 [l0, l1, l2, l3] (.int y :: .int x :: r) g = den sc d ML_law 1126 [l0, l1, l2, l3] (.int (x + y) :: r) g := eb_iadd hM_L_law dL_law_1125
theorem s_L_law_1126 : den sc d ML_law 1126 [l0, l1, l2, l3] (.int i :: .ref a :: r) g = mx_ai (mx_av sc g a) i (fun _ f => den sc d ML_law 1127 [l0, l1, l2, l3] (.int (f i.toNatClampNeg) :: r) g) := eb_iald hM_L_law dL_law_1126
theorem s_L_law_1127 {a0 : Int32} {a1 : Int32} {a2 : Int32} {a3 : Int32} {a4 : Int32} (hrc : mx_rc g a = some 10) : den sc (d + 1) ML_law 1127 [l0, l1, l2, l3] (.int a4 :: .int a3 :: .int a2 :: .int a1 :: .int a0 :: .ref a :: r) g = mx_ck r (call sc d MX10_copy [.ref a, .int a0, .int a1, .int a2, .int a3, .int a4] g) (fun v g' => den sc (d + 1) ML_law 1130 [l0, l1, l2, l3] (v.toList ++ r) g') := eb_virtual hM_L_law hC_L_law rc_12_132_10 (by decide) rfl dL_law_1127 rfl rfl rfl rfl hrc
theorem s_L_law_1130 : den sc d ML_law 1130 [l0, l1, some (.ref a), l3] (r) g = den sc d ML_law 1131 [l0, l1, some (.ref a), l3] (.ref a :: r) g := eb_aload_n hM_L_law rfl dL_law_1130
theorem s_L_law_1131 : den sc d ML_law 1131 [some (.ref a), l1, l2, l3] (r) g = den sc d ML_law 1132 [some (.ref a), l1, l2, l3] (.ref a :: r) g := eb_aload_n hM_L_law rfl dL_law_1131
theorem s_L_law_1132 : den sc d ML_law 1132 [l0, l1, l2, some (.int x)] (r) g = den sc d ML_law 1133 [l0, l1, l2, some (.int x)] (.int x :: r) g := eb_iload_n hM_L_law rfl dL_law_1132
theorem s_L_law_1133 : den sc d ML_law 1133 [l0, l1, l2, l3] (r) g = den sc d ML_law 1134 [l0, l1, l2, l3] (.int (1) :: r) g := eb_iconst hM_L_law rfl dL_law_1133
theorem s_L_law_1134 : den sc d ML_law 1134 [l0, l1, l2, l3] (.int y :: .int x :: r) g = den sc d ML_law 1135 [l0, l1, l2, l3] (.int (x + y) :: r) g := eb_iadd hM_L_law dL_law_1134
theorem s_L_law_1135 : den sc d ML_law 1135 [l0, l1, l2, l3] (.int i :: .ref a :: r) g = mx_ai (mx_av sc g a) i (fun _ f => den sc d ML_law 1136 [l0, l1, l2, l3] (.int (f i.toNatClampNeg) :: r) g) := eb_iald hM_L_law dL_law_1135
theorem s_L_law_1136 : den sc d ML_law 1136 [some (.ref a), l1, l2, l3] (r) g = den sc d ML_law 1137 [some (.ref a), l1, l2, l3] (.ref a :: r) g := eb_aload_n hM_L_law rfl dL_law_1136
theorem s_L_law_1137 : den sc d ML_law 1137 [l0, l1, l2, some (.int x)] (r) g = den sc d ML_law 1138 [l0, l1, l2, some (.int x)] (.int x :: r) g := eb_iload_n hM_L_law rfl dL_law_1137
theorem s_L_law_1138 : den sc d ML_law 1138 [l0, l1, l2, l3] (r) g = den sc d ML_law 1139 [l0, l1, l2, l3] (.int (2) :: r) g := eb_iconst hM_L_law rfl dL_law_1138
theorem s_L_law_1139 : den sc d ML_law 1139 [l0, l1, l2, l3] (.int y :: .int x :: r) g = den sc d ML_law 1140 [l0, l1, l2, l3] (.int (x + y) :: r) g := eb_iadd hM_L_law dL_law_1139
theorem s_L_law_1140 : den sc d ML_law 1140 [l0, l1, l2, l3] (.int i :: .ref a :: r) g = mx_ai (mx_av sc g a) i (fun _ f => den sc d ML_law 1141 [l0, l1, l2, l3] (.int (f i.toNatClampNeg) :: r) g) := eb_iald hM_L_law dL_law_1140
theorem s_L_law_1141 : den sc d ML_law 1141 [some (.ref a), l1, l2, l3] (r) g = den sc d ML_law 1142 [some (.ref a), l1, l2, l3] (.ref a :: r) g := eb_aload_n hM_L_law rfl dL_law_1141
theorem s_L_law_1142 : den sc d ML_law 1142 [l0, l1, l2, some (.int x)] (r) g = den sc d ML_law 1143 [l0, l1, l2, some (.int x)] (.int x :: r) g := eb_iload_n hM_L_law rfl dL_law_1142
theorem s_L_law_1143 : den sc d ML_law 1143 [l0, l1, l2, l3] (r) g = den sc d ML_law 1144 [l0, l1, l2, l3] (.int (3) :: r) g := eb_iconst hM_L_law rfl dL_law_1143
theorem s_L_law_1144 : den sc d ML_law 1144 [l0, l1, l2, l3] (.int y :: .int x :: r) g = den sc d ML_law 1145 [l0, l1, l2, l3] (.int (x + y) :: r) g := eb_iadd hM_L_law dL_law_1144
theorem s_L_law_1145 : den sc d ML_law 1145 [l0, l1, l2, l3] (.int i :: .ref a :: r) g = mx_ai (mx_av sc g a) i (fun _ f => den sc d ML_law 1146 [l0, l1, l2, l3] (.int (f i.toNatClampNeg) :: r) g) := eb_iald hM_L_law dL_law_1145
theorem s_L_law_1146 : den sc d ML_law 1146 [some (.ref a), l1, l2, l3] (r) g = den sc d ML_law 1147 [some (.ref a), l1, l2, l3] (.ref a :: r) g := eb_aload_n hM_L_law rfl dL_law_1146
theorem s_L_law_1147 : den sc d ML_law 1147 [l0, l1, l2, some (.int x)] (r) g = den sc d ML_law 1148 [l0, l1, l2, some (.int x)] (.int x :: r) g := eb_iload_n hM_L_law rfl dL_law_1147
theorem s_L_law_1148 : den sc d ML_law 1148 [l0, l1, l2, l3] (r) g = den sc d ML_law 1149 [l0, l1, l2, l3] (.int (4) :: r) g := eb_iconst hM_L_law rfl dL_law_1148
theorem s_L_law_1149 : den sc d ML_law 1149 [l0, l1, l2, l3] (.int y :: .int x :: r) g = den sc d ML_law 1150 [l0, l1, l2, l3] (.int (x + y) :: r) g := eb_iadd hM_L_law dL_law_1149
theorem s_L_law_1150 : den sc d ML_law 1150 [l0, l1, l2, l3] (.int i :: .ref a :: r) g = mx_ai (mx_av sc g a) i (fun _ f => den sc d ML_law 1151 [l0, l1, l2, l3] (.int (f i.toNatClampNeg) :: r) g) := eb_iald hM_L_law dL_law_1150
theorem s_L_law_1151 : den sc d ML_law 1151 [some (.ref a), l1, l2, l3] (r) g = den sc d ML_law 1152 [some (.ref a), l1, l2, l3] (.ref a :: r) g := eb_aload_n hM_L_law rfl dL_law_1151
theorem s_L_law_1152 : den sc d ML_law 1152 [l0, l1, l2, some (.int x)] (r) g = den sc d ML_law 1153 [l0, l1, l2, some (.int x)] (.int x :: r) g := eb_iload_n hM_L_law rfl dL_law_1152
theorem s_L_law_1153 : den sc d ML_law 1153 [l0, l1, l2, l3] (r) g = den sc d ML_law 1154 [l0, l1, l2, l3] (.int (5) :: r) g := eb_iconst hM_L_law rfl dL_law_1153
theorem s_L_law_1154 : den sc d ML_law 1154 [l0, l1, l2, l3] (.int y :: .int x :: r) g = den sc d ML_law 1155 [l0, l1, l2, l3] (.int (x + y) :: r) g := eb_iadd hM_L_law dL_law_1154
theorem s_L_law_1155 : den sc d ML_law 1155 [l0, l1, l2, l3] (.int i :: .ref a :: r) g = mx_ai (mx_av sc g a) i (fun _ f => den sc d ML_law 1156 [l0, l1, l2, l3] (.int (f i.toNatClampNeg) :: r) g) := eb_iald hM_L_law dL_law_1155
theorem s_L_law_1156 {a0 : Int32} {a1 : Int32} {a2 : Int32} {a3 : Int32} {a4 : Int32} (hrc : mx_rc g a = some 11) : den sc (d + 1) ML_law 1156 [l0, l1, l2, l3] (.int a4 :: .int a3 :: .int a2 :: .int a1 :: .int a0 :: .ref a :: r) g = mx_ck r (call sc d MX11_copy [.ref a, .int a0, .int a1, .int a2, .int a3, .int a4] g) (fun v g' => den sc (d + 1) ML_law 1159 [l0, l1, l2, l3] (v.toList ++ r) g') := eb_virtual hM_L_law hC_L_law rc_12_136_11 (by decide) rfl dL_law_1156 rfl rfl rfl rfl hrc
theorem s_L_law_1159 : den sc d ML_law 1159 [l0, l1, l2, l3] (.int y :: .int x :: r) g = if x = y then den sc d ML_law 1338 [l0, l1, l2, l3] (r) g else den sc d ML_law 1162 [l0, l1, l2, l3] (r) g := eb_icmp_eq hM_L_law rfl dL_law_1159
theorem s_L_law_1162 : den sc d ML_law 1162 [l0, l1, l2, l3] (r) g = den sc d ML_law 1163 [l0, l1, l2, l3] (.int (0) :: r) g := eb_iconst hM_L_law rfl dL_law_1162
theorem s_L_law_1163 (hn : narrow .boolean (.int x) = .int x) : den sc d ML_law 1163 [l0, l1, l2, l3] ([.int x]) g = some (some (.int x), g) := eb_reti hM_L_law hT_L_law hn dL_law_1163
theorem s_L_law_1163_0 : den sc d ML_law 1163 [l0, l1, l2, l3] ([.int 0]) g = some (some (.int 0), g) := eb_reti hM_L_law hT_L_law rfl dL_law_1163
theorem s_L_law_1163_1 : den sc d ML_law 1163 [l0, l1, l2, l3] ([.int 1]) g = some (some (.int 1), g) := eb_reti hM_L_law hT_L_law rfl dL_law_1163
theorem s_L_law_1164 : den sc d ML_law 1164 [l0, some (.ref a), l2, l3] (r) g = den sc d ML_law 1165 [l0, some (.ref a), l2, l3] (.ref a :: r) g := eb_aload_n hM_L_law rfl dL_law_1164
theorem s_L_law_1165 : den sc d ML_law 1165 [some (.ref a), l1, l2, l3] (r) g = den sc d ML_law 1166 [some (.ref a), l1, l2, l3] (.ref a :: r) g := eb_aload_n hM_L_law rfl dL_law_1165
theorem s_L_law_1166 : den sc d ML_law 1166 [l0, l1, l2, some (.int x)] (r) g = den sc d ML_law 1167 [l0, l1, l2, some (.int x)] (.int x :: r) g := eb_iload_n hM_L_law rfl dL_law_1166
theorem s_L_law_1167 : den sc d ML_law 1167 [l0, l1, l2, l3] (r) g = den sc d ML_law 1168 [l0, l1, l2, l3] (.int (1) :: r) g := eb_iconst hM_L_law rfl dL_law_1167
theorem s_L_law_1168 : den sc d ML_law 1168 [l0, l1, l2, l3] (.int y :: .int x :: r) g = den sc d ML_law 1169 [l0, l1, l2, l3] (.int (x + y) :: r) g := eb_iadd hM_L_law dL_law_1168
theorem s_L_law_1169 : den sc d ML_law 1169 [l0, l1, l2, l3] (.int i :: .ref a :: r) g = mx_ai (mx_av sc g a) i (fun _ f => den sc d ML_law 1170 [l0, l1, l2, l3] (.int (f i.toNatClampNeg) :: r) g) := eb_iald hM_L_law dL_law_1169
theorem s_L_law_1170 {a0 : Int32} (hrc : mx_rc g a = some 10) : den sc (d + 1) ML_law 1170 [l0, l1, l2, l3] (.int a0 :: .ref a :: r) g = mx_ck r (call sc d MX10_lays [.ref a, .int a0] g) (fun v g' => den sc (d + 1) ML_law 1173 [l0, l1, l2, l3] (v.toList ++ r) g') := eb_virtual hM_L_law hC_L_law rc_12_137_10 (by decide) rfl dL_law_1170 rfl rfl rfl rfl hrc
theorem s_L_law_1173 : den sc d ML_law 1173 [l0, l1, some (.ref a), l3] (r) g = den sc d ML_law 1174 [l0, l1, some (.ref a), l3] (.ref a :: r) g := eb_aload_n hM_L_law rfl dL_law_1173
theorem s_L_law_1174 : den sc d ML_law 1174 [some (.ref a), l1, l2, l3] (r) g = den sc d ML_law 1175 [some (.ref a), l1, l2, l3] (.ref a :: r) g := eb_aload_n hM_L_law rfl dL_law_1174
theorem s_L_law_1175 : den sc d ML_law 1175 [l0, l1, l2, some (.int x)] (r) g = den sc d ML_law 1176 [l0, l1, l2, some (.int x)] (.int x :: r) g := eb_iload_n hM_L_law rfl dL_law_1175
theorem s_L_law_1176 : den sc d ML_law 1176 [l0, l1, l2, l3] (r) g = den sc d ML_law 1177 [l0, l1, l2, l3] (.int (1) :: r) g := eb_iconst hM_L_law rfl dL_law_1176
theorem s_L_law_1177 : den sc d ML_law 1177 [l0, l1, l2, l3] (.int y :: .int x :: r) g = den sc d ML_law 1178 [l0, l1, l2, l3] (.int (x + y) :: r) g := eb_iadd hM_L_law dL_law_1177
theorem s_L_law_1178 : den sc d ML_law 1178 [l0, l1, l2, l3] (.int i :: .ref a :: r) g = mx_ai (mx_av sc g a) i (fun _ f => den sc d ML_law 1179 [l0, l1, l2, l3] (.int (f i.toNatClampNeg) :: r) g) := eb_iald hM_L_law dL_law_1178
theorem s_L_law_1179 {a0 : Int32} (hrc : mx_rc g a = some 11) : den sc (d + 1) ML_law 1179 [l0, l1, l2, l3] (.int a0 :: .ref a :: r) g = mx_ck r (call sc d MX11_lays [.ref a, .int a0] g) (fun v g' => den sc (d + 1) ML_law 1182 [l0, l1, l2, l3] (v.toList ++ r) g') := eb_virtual hM_L_law hC_L_law rc_12_140_11 (by decide) rfl dL_law_1179 rfl rfl rfl rfl hrc
theorem s_L_law_1182 : den sc d ML_law 1182 [l0, l1, l2, l3] (.int y :: .int x :: r) g = if x = y then den sc d ML_law 1338 [l0, l1, l2, l3] (r) g else den sc d ML_law 1185 [l0, l1, l2, l3] (r) g := eb_icmp_eq hM_L_law rfl dL_law_1182
theorem s_L_law_1185 : den sc d ML_law 1185 [l0, l1, l2, l3] (r) g = den sc d ML_law 1186 [l0, l1, l2, l3] (.int (0) :: r) g := eb_iconst hM_L_law rfl dL_law_1185
theorem s_L_law_1186 (hn : narrow .boolean (.int x) = .int x) : den sc d ML_law 1186 [l0, l1, l2, l3] ([.int x]) g = some (some (.int x), g) := eb_reti hM_L_law hT_L_law hn dL_law_1186
theorem s_L_law_1186_0 : den sc d ML_law 1186 [l0, l1, l2, l3] ([.int 0]) g = some (some (.int 0), g) := eb_reti hM_L_law hT_L_law rfl dL_law_1186
theorem s_L_law_1186_1 : den sc d ML_law 1186 [l0, l1, l2, l3] ([.int 1]) g = some (some (.int 1), g) := eb_reti hM_L_law hT_L_law rfl dL_law_1186
theorem s_L_law_1187 : den sc d ML_law 1187 [l0, some (.ref a), l2, l3] (r) g = den sc d ML_law 1188 [l0, some (.ref a), l2, l3] (.ref a :: r) g := eb_aload_n hM_L_law rfl dL_law_1187
theorem s_L_law_1188 : den sc d ML_law 1188 [some (.ref a), l1, l2, l3] (r) g = den sc d ML_law 1189 [some (.ref a), l1, l2, l3] (.ref a :: r) g := eb_aload_n hM_L_law rfl dL_law_1188
theorem s_L_law_1189 : den sc d ML_law 1189 [l0, l1, l2, some (.int x)] (r) g = den sc d ML_law 1190 [l0, l1, l2, some (.int x)] (.int x :: r) g := eb_iload_n hM_L_law rfl dL_law_1189
theorem s_L_law_1190 : den sc d ML_law 1190 [l0, l1, l2, l3] (r) g = den sc d ML_law 1191 [l0, l1, l2, l3] (.int (1) :: r) g := eb_iconst hM_L_law rfl dL_law_1190
theorem s_L_law_1191 : den sc d ML_law 1191 [l0, l1, l2, l3] (.int y :: .int x :: r) g = den sc d ML_law 1192 [l0, l1, l2, l3] (.int (x + y) :: r) g := eb_iadd hM_L_law dL_law_1191
theorem s_L_law_1192 : den sc d ML_law 1192 [l0, l1, l2, l3] (.int i :: .ref a :: r) g = mx_ai (mx_av sc g a) i (fun _ f => den sc d ML_law 1193 [l0, l1, l2, l3] (.int (f i.toNatClampNeg) :: r) g) := eb_iald hM_L_law dL_law_1192
theorem s_L_law_1193 : den sc d ML_law 1193 [some (.ref a), l1, l2, l3] (r) g = den sc d ML_law 1194 [some (.ref a), l1, l2, l3] (.ref a :: r) g := eb_aload_n hM_L_law rfl dL_law_1193
theorem s_L_law_1194 : den sc d ML_law 1194 [l0, l1, l2, some (.int x)] (r) g = den sc d ML_law 1195 [l0, l1, l2, some (.int x)] (.int x :: r) g := eb_iload_n hM_L_law rfl dL_law_1194
theorem s_L_law_1195 : den sc d ML_law 1195 [l0, l1, l2, l3] (r) g = den sc d ML_law 1196 [l0, l1, l2, l3] (.int (2) :: r) g := eb_iconst hM_L_law rfl dL_law_1195
theorem s_L_law_1196 : den sc d ML_law 1196 [l0, l1, l2, l3] (.int y :: .int x :: r) g = den sc d ML_law 1197 [l0, l1, l2, l3] (.int (x + y) :: r) g := eb_iadd hM_L_law dL_law_1196
theorem s_L_law_1197 : den sc d ML_law 1197 [l0, l1, l2, l3] (.int i :: .ref a :: r) g = mx_ai (mx_av sc g a) i (fun _ f => den sc d ML_law 1198 [l0, l1, l2, l3] (.int (f i.toNatClampNeg) :: r) g) := eb_iald hM_L_law dL_law_1197
theorem s_L_law_1198 {a0 : Int32} {a1 : Int32} (hrc : mx_rc g a = some 10) : den sc (d + 1) ML_law 1198 [l0, l1, l2, l3] (.int a1 :: .int a0 :: .ref a :: r) g = mx_ck r (call sc d MX10_book [.ref a, .int a0, .int a1] g) (fun v g' => den sc (d + 1) ML_law 1201 [l0, l1, l2, l3] (v.toList ++ r) g') := eb_virtual hM_L_law hC_L_law rc_12_141_10 (by decide) rfl dL_law_1198 rfl rfl rfl rfl hrc
theorem s_L_law_1201 : den sc d ML_law 1201 [l0, l1, some (.ref a), l3] (r) g = den sc d ML_law 1202 [l0, l1, some (.ref a), l3] (.ref a :: r) g := eb_aload_n hM_L_law rfl dL_law_1201
theorem s_L_law_1202 : den sc d ML_law 1202 [some (.ref a), l1, l2, l3] (r) g = den sc d ML_law 1203 [some (.ref a), l1, l2, l3] (.ref a :: r) g := eb_aload_n hM_L_law rfl dL_law_1202
theorem s_L_law_1203 : den sc d ML_law 1203 [l0, l1, l2, some (.int x)] (r) g = den sc d ML_law 1204 [l0, l1, l2, some (.int x)] (.int x :: r) g := eb_iload_n hM_L_law rfl dL_law_1203
theorem s_L_law_1204 : den sc d ML_law 1204 [l0, l1, l2, l3] (r) g = den sc d ML_law 1205 [l0, l1, l2, l3] (.int (1) :: r) g := eb_iconst hM_L_law rfl dL_law_1204
theorem s_L_law_1205 : den sc d ML_law 1205 [l0, l1, l2, l3] (.int y :: .int x :: r) g = den sc d ML_law 1206 [l0, l1, l2, l3] (.int (x + y) :: r) g := eb_iadd hM_L_law dL_law_1205
theorem s_L_law_1206 : den sc d ML_law 1206 [l0, l1, l2, l3] (.int i :: .ref a :: r) g = mx_ai (mx_av sc g a) i (fun _ f => den sc d ML_law 1207 [l0, l1, l2, l3] (.int (f i.toNatClampNeg) :: r) g) := eb_iald hM_L_law dL_law_1206
theorem s_L_law_1207 : den sc d ML_law 1207 [some (.ref a), l1, l2, l3] (r) g = den sc d ML_law 1208 [some (.ref a), l1, l2, l3] (.ref a :: r) g := eb_aload_n hM_L_law rfl dL_law_1207
theorem s_L_law_1208 : den sc d ML_law 1208 [l0, l1, l2, some (.int x)] (r) g = den sc d ML_law 1209 [l0, l1, l2, some (.int x)] (.int x :: r) g := eb_iload_n hM_L_law rfl dL_law_1208
theorem s_L_law_1209 : den sc d ML_law 1209 [l0, l1, l2, l3] (r) g = den sc d ML_law 1210 [l0, l1, l2, l3] (.int (2) :: r) g := eb_iconst hM_L_law rfl dL_law_1209
theorem s_L_law_1210 : den sc d ML_law 1210 [l0, l1, l2, l3] (.int y :: .int x :: r) g = den sc d ML_law 1211 [l0, l1, l2, l3] (.int (x + y) :: r) g := eb_iadd hM_L_law dL_law_1210
theorem s_L_law_1211 : den sc d ML_law 1211 [l0, l1, l2, l3] (.int i :: .ref a :: r) g = mx_ai (mx_av sc g a) i (fun _ f => den sc d ML_law 1212 [l0, l1, l2, l3] (.int (f i.toNatClampNeg) :: r) g) := eb_iald hM_L_law dL_law_1211
theorem s_L_law_1212 {a0 : Int32} {a1 : Int32} (hrc : mx_rc g a = some 11) : den sc (d + 1) ML_law 1212 [l0, l1, l2, l3] (.int a1 :: .int a0 :: .ref a :: r) g = mx_ck r (call sc d MX11_book [.ref a, .int a0, .int a1] g) (fun v g' => den sc (d + 1) ML_law 1215 [l0, l1, l2, l3] (v.toList ++ r) g') := eb_virtual hM_L_law hC_L_law rc_12_144_11 (by decide) rfl dL_law_1212 rfl rfl rfl rfl hrc
theorem s_L_law_1215 : den sc d ML_law 1215 [l0, l1, l2, l3] (.int y :: .int x :: r) g = if x = y then den sc d ML_law 1338 [l0, l1, l2, l3] (r) g else den sc d ML_law 1218 [l0, l1, l2, l3] (r) g := eb_icmp_eq hM_L_law rfl dL_law_1215
theorem s_L_law_1218 : den sc d ML_law 1218 [l0, l1, l2, l3] (r) g = den sc d ML_law 1219 [l0, l1, l2, l3] (.int (0) :: r) g := eb_iconst hM_L_law rfl dL_law_1218
theorem s_L_law_1219 (hn : narrow .boolean (.int x) = .int x) : den sc d ML_law 1219 [l0, l1, l2, l3] ([.int x]) g = some (some (.int x), g) := eb_reti hM_L_law hT_L_law hn dL_law_1219
theorem s_L_law_1219_0 : den sc d ML_law 1219 [l0, l1, l2, l3] ([.int 0]) g = some (some (.int 0), g) := eb_reti hM_L_law hT_L_law rfl dL_law_1219
theorem s_L_law_1219_1 : den sc d ML_law 1219 [l0, l1, l2, l3] ([.int 1]) g = some (some (.int 1), g) := eb_reti hM_L_law hT_L_law rfl dL_law_1219
theorem s_L_law_1220 : den sc d ML_law 1220 [l0, some (.ref a), l2, l3] (r) g = den sc d ML_law 1221 [l0, some (.ref a), l2, l3] (.ref a :: r) g := eb_aload_n hM_L_law rfl dL_law_1220
theorem s_L_law_1221 : den sc d ML_law 1221 [some (.ref a), l1, l2, l3] (r) g = den sc d ML_law 1222 [some (.ref a), l1, l2, l3] (.ref a :: r) g := eb_aload_n hM_L_law rfl dL_law_1221
theorem s_L_law_1222 : den sc d ML_law 1222 [l0, l1, l2, some (.int x)] (r) g = den sc d ML_law 1223 [l0, l1, l2, some (.int x)] (.int x :: r) g := eb_iload_n hM_L_law rfl dL_law_1222
theorem s_L_law_1223 : den sc d ML_law 1223 [l0, l1, l2, l3] (r) g = den sc d ML_law 1224 [l0, l1, l2, l3] (.int (1) :: r) g := eb_iconst hM_L_law rfl dL_law_1223
theorem s_L_law_1224 : den sc d ML_law 1224 [l0, l1, l2, l3] (.int y :: .int x :: r) g = den sc d ML_law 1225 [l0, l1, l2, l3] (.int (x + y) :: r) g := eb_iadd hM_L_law dL_law_1224
theorem s_L_law_1225 : den sc d ML_law 1225 [l0, l1, l2, l3] (.int i :: .ref a :: r) g = mx_ai (mx_av sc g a) i (fun _ f => den sc d ML_law 1226 [l0, l1, l2, l3] (.int (f i.toNatClampNeg) :: r) g) := eb_iald hM_L_law dL_law_1225
theorem s_L_law_1226 : den sc d ML_law 1226 [some (.ref a), l1, l2, l3] (r) g = den sc d ML_law 1227 [some (.ref a), l1, l2, l3] (.ref a :: r) g := eb_aload_n hM_L_law rfl dL_law_1226
theorem s_L_law_1227 : den sc d ML_law 1227 [l0, l1, l2, some (.int x)] (r) g = den sc d ML_law 1228 [l0, l1, l2, some (.int x)] (.int x :: r) g := eb_iload_n hM_L_law rfl dL_law_1227
theorem s_L_law_1228 : den sc d ML_law 1228 [l0, l1, l2, l3] (r) g = den sc d ML_law 1229 [l0, l1, l2, l3] (.int (2) :: r) g := eb_iconst hM_L_law rfl dL_law_1228
theorem s_L_law_1229 : den sc d ML_law 1229 [l0, l1, l2, l3] (.int y :: .int x :: r) g = den sc d ML_law 1230 [l0, l1, l2, l3] (.int (x + y) :: r) g := eb_iadd hM_L_law dL_law_1229
theorem s_L_law_1230 : den sc d ML_law 1230 [l0, l1, l2, l3] (.int i :: .ref a :: r) g = mx_ai (mx_av sc g a) i (fun _ f => den sc d ML_law 1231 [l0, l1, l2, l3] (.int (f i.toNatClampNeg) :: r) g) := eb_iald hM_L_law dL_law_1230
theorem s_L_law_1231 {a0 : Int32} {a1 : Int32} (hrc : mx_rc g a = some 10) : den sc (d + 1) ML_law 1231 [l0, l1, l2, l3] (.int a1 :: .int a0 :: .ref a :: r) g = mx_ck r (call sc d MX10_read [.ref a, .int a0, .int a1] g) (fun v g' => den sc (d + 1) ML_law 1234 [l0, l1, l2, l3] (v.toList ++ r) g') := eb_virtual hM_L_law hC_L_law rc_12_145_10 (by decide) rfl dL_law_1231 rfl rfl rfl rfl hrc
theorem s_L_law_1234 : den sc d ML_law 1234 [l0, l1, some (.ref a), l3] (r) g = den sc d ML_law 1235 [l0, l1, some (.ref a), l3] (.ref a :: r) g := eb_aload_n hM_L_law rfl dL_law_1234
theorem s_L_law_1235 : den sc d ML_law 1235 [some (.ref a), l1, l2, l3] (r) g = den sc d ML_law 1236 [some (.ref a), l1, l2, l3] (.ref a :: r) g := eb_aload_n hM_L_law rfl dL_law_1235
theorem s_L_law_1236 : den sc d ML_law 1236 [l0, l1, l2, some (.int x)] (r) g = den sc d ML_law 1237 [l0, l1, l2, some (.int x)] (.int x :: r) g := eb_iload_n hM_L_law rfl dL_law_1236
theorem s_L_law_1237 : den sc d ML_law 1237 [l0, l1, l2, l3] (r) g = den sc d ML_law 1238 [l0, l1, l2, l3] (.int (1) :: r) g := eb_iconst hM_L_law rfl dL_law_1237
theorem s_L_law_1238 : den sc d ML_law 1238 [l0, l1, l2, l3] (.int y :: .int x :: r) g = den sc d ML_law 1239 [l0, l1, l2, l3] (.int (x + y) :: r) g := eb_iadd hM_L_law dL_law_1238
theorem s_L_law_1239 : den sc d ML_law 1239 [l0, l1, l2, l3] (.int i :: .ref a :: r) g = mx_ai (mx_av sc g a) i (fun _ f => den sc d ML_law 1240 [l0, l1, l2, l3] (.int (f i.toNatClampNeg) :: r) g) := eb_iald hM_L_law dL_law_1239
theorem s_L_law_1240 : den sc d ML_law 1240 [some (.ref a), l1, l2, l3] (r) g = den sc d ML_law 1241 [some (.ref a), l1, l2, l3] (.ref a :: r) g := eb_aload_n hM_L_law rfl dL_law_1240
theorem s_L_law_1241 : den sc d ML_law 1241 [l0, l1, l2, some (.int x)] (r) g = den sc d ML_law 1242 [l0, l1, l2, some (.int x)] (.int x :: r) g := eb_iload_n hM_L_law rfl dL_law_1241
theorem s_L_law_1242 : den sc d ML_law 1242 [l0, l1, l2, l3] (r) g = den sc d ML_law 1243 [l0, l1, l2, l3] (.int (2) :: r) g := eb_iconst hM_L_law rfl dL_law_1242
theorem s_L_law_1243 : den sc d ML_law 1243 [l0, l1, l2, l3] (.int y :: .int x :: r) g = den sc d ML_law 1244 [l0, l1, l2, l3] (.int (x + y) :: r) g := eb_iadd hM_L_law dL_law_1243
theorem s_L_law_1244 : den sc d ML_law 1244 [l0, l1, l2, l3] (.int i :: .ref a :: r) g = mx_ai (mx_av sc g a) i (fun _ f => den sc d ML_law 1245 [l0, l1, l2, l3] (.int (f i.toNatClampNeg) :: r) g) := eb_iald hM_L_law dL_law_1244
theorem s_L_law_1245 {a0 : Int32} {a1 : Int32} (hrc : mx_rc g a = some 11) : den sc (d + 1) ML_law 1245 [l0, l1, l2, l3] (.int a1 :: .int a0 :: .ref a :: r) g = mx_ck r (call sc d MX11_read [.ref a, .int a0, .int a1] g) (fun v g' => den sc (d + 1) ML_law 1248 [l0, l1, l2, l3] (v.toList ++ r) g') := eb_virtual hM_L_law hC_L_law rc_12_148_11 (by decide) rfl dL_law_1245 rfl rfl rfl rfl hrc
theorem s_L_law_1248 : den sc d ML_law 1248 [l0, l1, l2, l3] (.int y :: .int x :: r) g = if x = y then den sc d ML_law 1338 [l0, l1, l2, l3] (r) g else den sc d ML_law 1251 [l0, l1, l2, l3] (r) g := eb_icmp_eq hM_L_law rfl dL_law_1248
theorem s_L_law_1251 : den sc d ML_law 1251 [l0, l1, l2, l3] (r) g = den sc d ML_law 1252 [l0, l1, l2, l3] (.int (0) :: r) g := eb_iconst hM_L_law rfl dL_law_1251
theorem s_L_law_1252 (hn : narrow .boolean (.int x) = .int x) : den sc d ML_law 1252 [l0, l1, l2, l3] ([.int x]) g = some (some (.int x), g) := eb_reti hM_L_law hT_L_law hn dL_law_1252
theorem s_L_law_1252_0 : den sc d ML_law 1252 [l0, l1, l2, l3] ([.int 0]) g = some (some (.int 0), g) := eb_reti hM_L_law hT_L_law rfl dL_law_1252
theorem s_L_law_1252_1 : den sc d ML_law 1252 [l0, l1, l2, l3] ([.int 1]) g = some (some (.int 1), g) := eb_reti hM_L_law hT_L_law rfl dL_law_1252
theorem s_L_law_1253 : den sc d ML_law 1253 [l0, some (.ref a), l2, l3] (r) g = den sc d ML_law 1254 [l0, some (.ref a), l2, l3] (.ref a :: r) g := eb_aload_n hM_L_law rfl dL_law_1253
theorem s_L_law_1254  (hrc : mx_rc g a = some 10) : den sc (d + 1) ML_law 1254 [l0, l1, l2, l3] (.ref a :: r) g = mx_ck r (call sc d MX10_image [.ref a] g) (fun v g' => den sc (d + 1) ML_law 1257 [l0, l1, l2, l3] (v.toList ++ r) g') := eb_virtual hM_L_law hC_L_law rc_12_149_10 (by decide) rfl dL_law_1254 rfl rfl rfl rfl hrc
theorem s_L_law_1257 : den sc d ML_law 1257 [l0, l1, some (.ref a), l3] (r) g = den sc d ML_law 1258 [l0, l1, some (.ref a), l3] (.ref a :: r) g := eb_aload_n hM_L_law rfl dL_law_1257
theorem s_L_law_1258  (hrc : mx_rc g a = some 11) : den sc (d + 1) ML_law 1258 [l0, l1, l2, l3] (.ref a :: r) g = mx_ck r (call sc d MX11_image [.ref a] g) (fun v g' => den sc (d + 1) ML_law 1261 [l0, l1, l2, l3] (v.toList ++ r) g') := eb_virtual hM_L_law hC_L_law rc_12_152_11 (by decide) rfl dL_law_1258 rfl rfl rfl rfl hrc
theorem s_L_law_1261 : den sc d ML_law 1261 [l0, l1, l2, l3] (.int y :: .int x :: r) g = if x = y then den sc d ML_law 1338 [l0, l1, l2, l3] (r) g else den sc d ML_law 1264 [l0, l1, l2, l3] (r) g := eb_icmp_eq hM_L_law rfl dL_law_1261
theorem s_L_law_1264 : den sc d ML_law 1264 [l0, l1, l2, l3] (r) g = den sc d ML_law 1265 [l0, l1, l2, l3] (.int (0) :: r) g := eb_iconst hM_L_law rfl dL_law_1264
theorem s_L_law_1265 (hn : narrow .boolean (.int x) = .int x) : den sc d ML_law 1265 [l0, l1, l2, l3] ([.int x]) g = some (some (.int x), g) := eb_reti hM_L_law hT_L_law hn dL_law_1265
theorem s_L_law_1265_0 : den sc d ML_law 1265 [l0, l1, l2, l3] ([.int 0]) g = some (some (.int 0), g) := eb_reti hM_L_law hT_L_law rfl dL_law_1265
theorem s_L_law_1265_1 : den sc d ML_law 1265 [l0, l1, l2, l3] ([.int 1]) g = some (some (.int 1), g) := eb_reti hM_L_law hT_L_law rfl dL_law_1265
theorem s_L_law_1266 : den sc d ML_law 1266 [l0, some (.ref a), l2, l3] (r) g = den sc d ML_law 1267 [l0, some (.ref a), l2, l3] (.ref a :: r) g := eb_aload_n hM_L_law rfl dL_law_1266
theorem s_L_law_1267  (hrc : mx_rc g a = some 10) : den sc (d + 1) ML_law 1267 [l0, l1, l2, l3] (.ref a :: r) g = mx_ck r (call sc d MX10_undo [.ref a] g) (fun v g' => den sc (d + 1) ML_law 1270 [l0, l1, l2, l3] (v.toList ++ r) g') := eb_virtual hM_L_law hC_L_law rc_12_153_10 (by decide) rfl dL_law_1267 rfl rfl rfl rfl hrc
theorem s_L_law_1270 : den sc d ML_law 1270 [l0, l1, some (.ref a), l3] (r) g = den sc d ML_law 1271 [l0, l1, some (.ref a), l3] (.ref a :: r) g := eb_aload_n hM_L_law rfl dL_law_1270
theorem s_L_law_1271  (hrc : mx_rc g a = some 11) : den sc (d + 1) ML_law 1271 [l0, l1, l2, l3] (.ref a :: r) g = mx_ck r (call sc d MX11_undo [.ref a] g) (fun v g' => den sc (d + 1) ML_law 1274 [l0, l1, l2, l3] (v.toList ++ r) g') := eb_virtual hM_L_law hC_L_law rc_12_156_11 (by decide) rfl dL_law_1271 rfl rfl rfl rfl hrc
theorem s_L_law_1274 : den sc d ML_law 1274 [l0, l1, l2, l3] (.int y :: .int x :: r) g = if x = y then den sc d ML_law 1338 [l0, l1, l2, l3] (r) g else den sc d ML_law 1277 [l0, l1, l2, l3] (r) g := eb_icmp_eq hM_L_law rfl dL_law_1274
theorem s_L_law_1277 : den sc d ML_law 1277 [l0, l1, l2, l3] (r) g = den sc d ML_law 1278 [l0, l1, l2, l3] (.int (0) :: r) g := eb_iconst hM_L_law rfl dL_law_1277
theorem s_L_law_1278 (hn : narrow .boolean (.int x) = .int x) : den sc d ML_law 1278 [l0, l1, l2, l3] ([.int x]) g = some (some (.int x), g) := eb_reti hM_L_law hT_L_law hn dL_law_1278
theorem s_L_law_1278_0 : den sc d ML_law 1278 [l0, l1, l2, l3] ([.int 0]) g = some (some (.int 0), g) := eb_reti hM_L_law hT_L_law rfl dL_law_1278
theorem s_L_law_1278_1 : den sc d ML_law 1278 [l0, l1, l2, l3] ([.int 1]) g = some (some (.int 1), g) := eb_reti hM_L_law hT_L_law rfl dL_law_1278
theorem s_L_law_1279 : den sc d ML_law 1279 [l0, some (.ref a), l2, l3] (r) g = den sc d ML_law 1280 [l0, some (.ref a), l2, l3] (.ref a :: r) g := eb_aload_n hM_L_law rfl dL_law_1279
theorem s_L_law_1280  (hrc : mx_rc g a = some 10) : den sc (d + 1) ML_law 1280 [l0, l1, l2, l3] (.ref a :: r) g = mx_ck r (call sc d MX10_tear [.ref a] g) (fun v g' => den sc (d + 1) ML_law 1283 [l0, l1, l2, l3] (v.toList ++ r) g') := eb_virtual hM_L_law hC_L_law rc_12_157_10 (by decide) rfl dL_law_1280 rfl rfl rfl rfl hrc
theorem s_L_law_1283 : den sc d ML_law 1283 [l0, l1, some (.ref a), l3] (r) g = den sc d ML_law 1284 [l0, l1, some (.ref a), l3] (.ref a :: r) g := eb_aload_n hM_L_law rfl dL_law_1283
theorem s_L_law_1284  (hrc : mx_rc g a = some 11) : den sc (d + 1) ML_law 1284 [l0, l1, l2, l3] (.ref a :: r) g = mx_ck r (call sc d MX11_tear [.ref a] g) (fun v g' => den sc (d + 1) ML_law 1287 [l0, l1, l2, l3] (v.toList ++ r) g') := eb_virtual hM_L_law hC_L_law rc_12_160_11 (by decide) rfl dL_law_1284 rfl rfl rfl rfl hrc
theorem s_L_law_1287 : den sc d ML_law 1287 [l0, l1, l2, l3] (.int y :: .int x :: r) g = if x = y then den sc d ML_law 1338 [l0, l1, l2, l3] (r) g else den sc d ML_law 1290 [l0, l1, l2, l3] (r) g := eb_icmp_eq hM_L_law rfl dL_law_1287
theorem s_L_law_1290 : den sc d ML_law 1290 [l0, l1, l2, l3] (r) g = den sc d ML_law 1291 [l0, l1, l2, l3] (.int (0) :: r) g := eb_iconst hM_L_law rfl dL_law_1290
theorem s_L_law_1291 (hn : narrow .boolean (.int x) = .int x) : den sc d ML_law 1291 [l0, l1, l2, l3] ([.int x]) g = some (some (.int x), g) := eb_reti hM_L_law hT_L_law hn dL_law_1291
theorem s_L_law_1291_0 : den sc d ML_law 1291 [l0, l1, l2, l3] ([.int 0]) g = some (some (.int 0), g) := eb_reti hM_L_law hT_L_law rfl dL_law_1291
theorem s_L_law_1291_1 : den sc d ML_law 1291 [l0, l1, l2, l3] ([.int 1]) g = some (some (.int 1), g) := eb_reti hM_L_law hT_L_law rfl dL_law_1291
theorem s_L_law_1292 : den sc d ML_law 1292 [l0, some (.ref a), l2, l3] (r) g = den sc d ML_law 1293 [l0, some (.ref a), l2, l3] (.ref a :: r) g := eb_aload_n hM_L_law rfl dL_law_1292
theorem s_L_law_1293 : den sc d ML_law 1293 [some (.ref a), l1, l2, l3] (r) g = den sc d ML_law 1294 [some (.ref a), l1, l2, l3] (.ref a :: r) g := eb_aload_n hM_L_law rfl dL_law_1293
theorem s_L_law_1294 : den sc d ML_law 1294 [l0, l1, l2, some (.int x)] (r) g = den sc d ML_law 1295 [l0, l1, l2, some (.int x)] (.int x :: r) g := eb_iload_n hM_L_law rfl dL_law_1294
theorem s_L_law_1295 : den sc d ML_law 1295 [l0, l1, l2, l3] (r) g = den sc d ML_law 1296 [l0, l1, l2, l3] (.int (1) :: r) g := eb_iconst hM_L_law rfl dL_law_1295
theorem s_L_law_1296 : den sc d ML_law 1296 [l0, l1, l2, l3] (.int y :: .int x :: r) g = den sc d ML_law 1297 [l0, l1, l2, l3] (.int (x + y) :: r) g := eb_iadd hM_L_law dL_law_1296
theorem s_L_law_1297 : den sc d ML_law 1297 [l0, l1, l2, l3] (.int i :: .ref a :: r) g = mx_ai (mx_av sc g a) i (fun _ f => den sc d ML_law 1298 [l0, l1, l2, l3] (.int (f i.toNatClampNeg) :: r) g) := eb_iald hM_L_law dL_law_1297
theorem s_L_law_1298 {a0 : Int32} (hrc : mx_rc g a = some 10) : den sc (d + 1) ML_law 1298 [l0, l1, l2, l3] (.int a0 :: .ref a :: r) g = mx_ck r (call sc d MX10_count [.ref a, .int a0] g) (fun v g' => den sc (d + 1) ML_law 1301 [l0, l1, l2, l3] (v.toList ++ r) g') := eb_virtual hM_L_law hC_L_law rc_12_161_10 (by decide) rfl dL_law_1298 rfl rfl rfl rfl hrc
theorem s_L_law_1301 : den sc d ML_law 1301 [l0, l1, some (.ref a), l3] (r) g = den sc d ML_law 1302 [l0, l1, some (.ref a), l3] (.ref a :: r) g := eb_aload_n hM_L_law rfl dL_law_1301
theorem s_L_law_1302 : den sc d ML_law 1302 [some (.ref a), l1, l2, l3] (r) g = den sc d ML_law 1303 [some (.ref a), l1, l2, l3] (.ref a :: r) g := eb_aload_n hM_L_law rfl dL_law_1302
theorem s_L_law_1303 : den sc d ML_law 1303 [l0, l1, l2, some (.int x)] (r) g = den sc d ML_law 1304 [l0, l1, l2, some (.int x)] (.int x :: r) g := eb_iload_n hM_L_law rfl dL_law_1303
theorem s_L_law_1304 : den sc d ML_law 1304 [l0, l1, l2, l3] (r) g = den sc d ML_law 1305 [l0, l1, l2, l3] (.int (1) :: r) g := eb_iconst hM_L_law rfl dL_law_1304
theorem s_L_law_1305 : den sc d ML_law 1305 [l0, l1, l2, l3] (.int y :: .int x :: r) g = den sc d ML_law 1306 [l0, l1, l2, l3] (.int (x + y) :: r) g := eb_iadd hM_L_law dL_law_1305
theorem s_L_law_1306 : den sc d ML_law 1306 [l0, l1, l2, l3] (.int i :: .ref a :: r) g = mx_ai (mx_av sc g a) i (fun _ f => den sc d ML_law 1307 [l0, l1, l2, l3] (.int (f i.toNatClampNeg) :: r) g) := eb_iald hM_L_law dL_law_1306
theorem s_L_law_1307 {a0 : Int32} (hrc : mx_rc g a = some 11) : den sc (d + 1) ML_law 1307 [l0, l1, l2, l3] (.int a0 :: .ref a :: r) g = mx_ck r (call sc d MX11_count [.ref a, .int a0] g) (fun v g' => den sc (d + 1) ML_law 1310 [l0, l1, l2, l3] (v.toList ++ r) g') := eb_virtual hM_L_law hC_L_law rc_12_164_11 (by decide) rfl dL_law_1307 rfl rfl rfl rfl hrc
theorem s_L_law_1310 : den sc d ML_law 1310 [l0, l1, l2, l3] (.int y :: .int x :: r) g = if x = y then den sc d ML_law 1338 [l0, l1, l2, l3] (r) g else den sc d ML_law 1313 [l0, l1, l2, l3] (r) g := eb_icmp_eq hM_L_law rfl dL_law_1310
theorem s_L_law_1313 : den sc d ML_law 1313 [l0, l1, l2, l3] (r) g = den sc d ML_law 1314 [l0, l1, l2, l3] (.int (0) :: r) g := eb_iconst hM_L_law rfl dL_law_1313
theorem s_L_law_1314 (hn : narrow .boolean (.int x) = .int x) : den sc d ML_law 1314 [l0, l1, l2, l3] ([.int x]) g = some (some (.int x), g) := eb_reti hM_L_law hT_L_law hn dL_law_1314
theorem s_L_law_1314_0 : den sc d ML_law 1314 [l0, l1, l2, l3] ([.int 0]) g = some (some (.int 0), g) := eb_reti hM_L_law hT_L_law rfl dL_law_1314
theorem s_L_law_1314_1 : den sc d ML_law 1314 [l0, l1, l2, l3] ([.int 1]) g = some (some (.int 1), g) := eb_reti hM_L_law hT_L_law rfl dL_law_1314
theorem s_L_law_1315 : den sc d ML_law 1315 [l0, some (.ref a), l2, l3] (r) g = den sc d ML_law 1316 [l0, some (.ref a), l2, l3] (.ref a :: r) g := eb_aload_n hM_L_law rfl dL_law_1315
theorem s_L_law_1316 : den sc d ML_law 1316 [some (.ref a), l1, l2, l3] (r) g = den sc d ML_law 1317 [some (.ref a), l1, l2, l3] (.ref a :: r) g := eb_aload_n hM_L_law rfl dL_law_1316
theorem s_L_law_1317 : den sc d ML_law 1317 [l0, l1, l2, some (.int x)] (r) g = den sc d ML_law 1318 [l0, l1, l2, some (.int x)] (.int x :: r) g := eb_iload_n hM_L_law rfl dL_law_1317
theorem s_L_law_1318 : den sc d ML_law 1318 [l0, l1, l2, l3] (r) g = den sc d ML_law 1319 [l0, l1, l2, l3] (.int (1) :: r) g := eb_iconst hM_L_law rfl dL_law_1318
theorem s_L_law_1319 : den sc d ML_law 1319 [l0, l1, l2, l3] (.int y :: .int x :: r) g = den sc d ML_law 1320 [l0, l1, l2, l3] (.int (x + y) :: r) g := eb_iadd hM_L_law dL_law_1319
theorem s_L_law_1320 : den sc d ML_law 1320 [l0, l1, l2, l3] (.int i :: .ref a :: r) g = mx_ai (mx_av sc g a) i (fun _ f => den sc d ML_law 1321 [l0, l1, l2, l3] (.int (f i.toNatClampNeg) :: r) g) := eb_iald hM_L_law dL_law_1320
theorem s_L_law_1321 {a0 : Int32} (hrc : mx_rc g a = some 10) : den sc (d + 1) ML_law 1321 [l0, l1, l2, l3] (.int a0 :: .ref a :: r) g = mx_ck r (call sc d MX10_status [.ref a, .int a0] g) (fun v g' => den sc (d + 1) ML_law 1324 [l0, l1, l2, l3] (v.toList ++ r) g') := eb_virtual hM_L_law hC_L_law rc_12_165_10 (by decide) rfl dL_law_1321 rfl rfl rfl rfl hrc
theorem s_L_law_1324 : den sc d ML_law 1324 [l0, l1, some (.ref a), l3] (r) g = den sc d ML_law 1325 [l0, l1, some (.ref a), l3] (.ref a :: r) g := eb_aload_n hM_L_law rfl dL_law_1324
theorem s_L_law_1325 : den sc d ML_law 1325 [some (.ref a), l1, l2, l3] (r) g = den sc d ML_law 1326 [some (.ref a), l1, l2, l3] (.ref a :: r) g := eb_aload_n hM_L_law rfl dL_law_1325
theorem s_L_law_1326 : den sc d ML_law 1326 [l0, l1, l2, some (.int x)] (r) g = den sc d ML_law 1327 [l0, l1, l2, some (.int x)] (.int x :: r) g := eb_iload_n hM_L_law rfl dL_law_1326
theorem s_L_law_1327 : den sc d ML_law 1327 [l0, l1, l2, l3] (r) g = den sc d ML_law 1328 [l0, l1, l2, l3] (.int (1) :: r) g := eb_iconst hM_L_law rfl dL_law_1327
theorem s_L_law_1328 : den sc d ML_law 1328 [l0, l1, l2, l3] (.int y :: .int x :: r) g = den sc d ML_law 1329 [l0, l1, l2, l3] (.int (x + y) :: r) g := eb_iadd hM_L_law dL_law_1328
theorem s_L_law_1329 : den sc d ML_law 1329 [l0, l1, l2, l3] (.int i :: .ref a :: r) g = mx_ai (mx_av sc g a) i (fun _ f => den sc d ML_law 1330 [l0, l1, l2, l3] (.int (f i.toNatClampNeg) :: r) g) := eb_iald hM_L_law dL_law_1329
theorem s_L_law_1330 {a0 : Int32} (hrc : mx_rc g a = some 11) : den sc (d + 1) ML_law 1330 [l0, l1, l2, l3] (.int a0 :: .ref a :: r) g = mx_ck r (call sc d MX11_status [.ref a, .int a0] g) (fun v g' => den sc (d + 1) ML_law 1333 [l0, l1, l2, l3] (v.toList ++ r) g') := eb_virtual hM_L_law hC_L_law rc_12_168_11 (by decide) rfl dL_law_1330 rfl rfl rfl rfl hrc
theorem s_L_law_1333 : den sc d ML_law 1333 [l0, l1, l2, l3] (.int y :: .int x :: r) g = if x = y then den sc d ML_law 1338 [l0, l1, l2, l3] (r) g else den sc d ML_law 1336 [l0, l1, l2, l3] (r) g := eb_icmp_eq hM_L_law rfl dL_law_1333
theorem s_L_law_1336 : den sc d ML_law 1336 [l0, l1, l2, l3] (r) g = den sc d ML_law 1337 [l0, l1, l2, l3] (.int (0) :: r) g := eb_iconst hM_L_law rfl dL_law_1336
theorem s_L_law_1337 (hn : narrow .boolean (.int x) = .int x) : den sc d ML_law 1337 [l0, l1, l2, l3] ([.int x]) g = some (some (.int x), g) := eb_reti hM_L_law hT_L_law hn dL_law_1337
theorem s_L_law_1337_0 : den sc d ML_law 1337 [l0, l1, l2, l3] ([.int 0]) g = some (some (.int 0), g) := eb_reti hM_L_law hT_L_law rfl dL_law_1337
theorem s_L_law_1337_1 : den sc d ML_law 1337 [l0, l1, l2, l3] ([.int 1]) g = some (some (.int 1), g) := eb_reti hM_L_law hT_L_law rfl dL_law_1337
theorem s_L_law_1338 {n2 : Nat} : den sc d ML_law 1338 [l0, l1, some (.ref n2), some (.int x)] (r) g = den sc d ML_law 1341 [l0, l1, some (.ref n2), some (.int (x + (6)))] (r) g := eb_iinc hM_L_law rfl rfl rfl dL_law_1338
theorem s_L_law_1341 : den sc d ML_law 1341 [l0, l1, l2, l3] (r) g = den sc d ML_law 18 [l0, l1, l2, l3] (r) g := eb_goto hM_L_law rfl dL_law_1341
theorem s_L_law_1344 : den sc d ML_law 1344 [l0, l1, l2, l3] (r) g = den sc d ML_law 1345 [l0, l1, l2, l3] (.int (1) :: r) g := eb_iconst hM_L_law rfl dL_law_1344
theorem s_L_law_1345 (hn : narrow .boolean (.int x) = .int x) : den sc d ML_law 1345 [l0, l1, l2, l3] ([.int x]) g = some (some (.int x), g) := eb_reti hM_L_law hT_L_law hn dL_law_1345
theorem s_L_law_1345_0 : den sc d ML_law 1345 [l0, l1, l2, l3] ([.int 0]) g = some (some (.int 0), g) := eb_reti hM_L_law hT_L_law rfl dL_law_1345
theorem s_L_law_1345_1 : den sc d ML_law 1345 [l0, l1, l2, l3] ([.int 1]) g = some (some (.int 1), g) := eb_reti hM_L_law hT_L_law rfl dL_law_1345
end
