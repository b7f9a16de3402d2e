/-- a field reference of class cn, entry k: field j of class ci -/
def mx_FF (cn k ci j : Nat) (nest : Bool) : Prop := ci < 12 ∧ j < mx_NN ci ∧ (match nest with
  | true => Cond.fieldLinkNest (mx_cn cn) k (mx_TT ci j).1 (mx_TT ci j).2.1 (mx_TT ci j).2.2.1 "PocketBorders" ∈ mx_nws
  | false => Cond.fieldLink (mx_cn cn) k (mx_TT ci j).1 (mx_TT ci j).2.1 (mx_TT ci j).2.2.1 ∈ mx_tbl)
theorem mx_FF_1 : ∀ e ∈ mx_fld_l 1, mx_FF 1 e.1.1 e.2.1 e.2.2.1 e.2.2.2 := List.forall_mem_cons.mpr ⟨⟨by decide, by decide, mq_79⟩, List.forall_mem_cons.mpr ⟨⟨by decide, by decide, mq_82⟩, List.forall_mem_cons.mpr ⟨⟨by decide, by decide, mq_84⟩, List.forall_mem_cons.mpr ⟨⟨by decide, by decide, mq_87⟩, List.forall_mem_cons.mpr ⟨⟨by decide, by decide, mq_90⟩, List.forall_mem_cons.mpr ⟨⟨by decide, by decide, mq_93⟩, List.forall_mem_cons.mpr ⟨⟨by decide, by decide, mq_78⟩, List.forall_mem_cons.mpr ⟨⟨by decide, by decide, mq_95⟩, List.forall_mem_cons.mpr ⟨⟨by decide, by decide, mq_98⟩, List.forall_mem_cons.mpr ⟨⟨by decide, by decide, mq_101⟩, fun _ h => absurd h List.not_mem_nil⟩⟩⟩⟩⟩⟩⟩⟩⟩⟩
theorem mx_FF_5 : ∀ e ∈ mx_fld_l 5, mx_FF 5 e.1.1 e.2.1 e.2.2.1 e.2.2.2 := List.forall_mem_cons.mpr ⟨⟨by decide, by decide, mq_173⟩, List.forall_mem_cons.mpr ⟨⟨by decide, by decide, mq_175⟩, List.forall_mem_cons.mpr ⟨⟨by decide, by decide, mq_177⟩, fun _ h => absurd h List.not_mem_nil⟩⟩⟩
theorem mx_FF_7 : ∀ e ∈ mx_fld_l 7, mx_FF 7 e.1.1 e.2.1 e.2.2.1 e.2.2.2 := List.forall_mem_cons.mpr ⟨⟨by decide, by decide, mq_131⟩, List.forall_mem_cons.mpr ⟨⟨by decide, by decide, mq_133⟩, fun _ h => absurd h List.not_mem_nil⟩⟩
theorem mx_FF_8 : ∀ e ∈ mx_fld_l 8, mx_FF 8 e.1.1 e.2.1 e.2.2.1 e.2.2.2 := List.forall_mem_cons.mpr ⟨⟨by decide, by decide, mq_147⟩, List.forall_mem_cons.mpr ⟨⟨by decide, by decide, mq_148⟩, List.forall_mem_cons.mpr ⟨⟨by decide, by decide, mq_151⟩, List.forall_mem_cons.mpr ⟨⟨by decide, by decide, mq_150⟩, List.forall_mem_cons.mpr ⟨⟨by decide, by decide, mq_149⟩, List.forall_mem_cons.mpr ⟨⟨by decide, by decide, mq_96⟩, List.forall_mem_cons.mpr ⟨⟨by decide, by decide, mq_85⟩, List.forall_mem_cons.mpr ⟨⟨by decide, by decide, mq_152⟩, List.forall_mem_cons.mpr ⟨⟨by decide, by decide, mq_91⟩, List.forall_mem_cons.mpr ⟨⟨by decide, by decide, mq_88⟩, List.forall_mem_cons.mpr ⟨⟨by decide, by decide, mq_81⟩, List.forall_mem_cons.mpr ⟨⟨by decide, by decide, mq_99⟩, List.forall_mem_cons.mpr ⟨⟨by decide, by decide, mq_132⟩, List.forall_mem_cons.mpr ⟨⟨by decide, by decide, mq_134⟩, fun _ h => absurd h List.not_mem_nil⟩⟩⟩⟩⟩⟩⟩⟩⟩⟩⟩⟩⟩⟩
theorem mx_FF_10 : ∀ e ∈ mx_fld_l 10, mx_FF 10 e.1.1 e.2.1 e.2.2.1 e.2.2.2 := List.forall_mem_cons.mpr ⟨⟨by decide, by decide, mq_187⟩, List.forall_mem_cons.mpr ⟨⟨by decide, by decide, mq_188⟩, List.forall_mem_cons.mpr ⟨⟨by decide, by decide, mq_189⟩, List.forall_mem_cons.mpr ⟨⟨by decide, by decide, mq_190⟩, List.forall_mem_cons.mpr ⟨⟨by decide, by decide, mq_191⟩, List.forall_mem_cons.mpr ⟨⟨by decide, by decide, mq_192⟩, List.forall_mem_cons.mpr ⟨⟨by decide, by decide, mq_193⟩, List.forall_mem_cons.mpr ⟨⟨by decide, by decide, mq_194⟩, List.forall_mem_cons.mpr ⟨⟨by decide, by decide, mq_80⟩, List.forall_mem_cons.mpr ⟨⟨by decide, by decide, mq_97⟩, List.forall_mem_cons.mpr ⟨⟨by decide, by decide, mq_83⟩, List.forall_mem_cons.mpr ⟨⟨by decide, by decide, mq_86⟩, List.forall_mem_cons.mpr ⟨⟨by decide, by decide, mq_89⟩, List.forall_mem_cons.mpr ⟨⟨by decide, by decide, mq_92⟩, List.forall_mem_cons.mpr ⟨⟨by decide, by decide, mq_94⟩, List.forall_mem_cons.mpr ⟨⟨by decide, by decide, mq_102⟩, List.forall_mem_cons.mpr ⟨⟨by decide, by decide, mq_100⟩, List.forall_mem_cons.mpr ⟨⟨by decide, by decide, mq_135⟩, List.forall_mem_cons.mpr ⟨⟨by decide, by decide, mq_178⟩, List.forall_mem_cons.mpr ⟨⟨by decide, by decide, mq_174⟩, List.forall_mem_cons.mpr ⟨⟨by decide, by decide, mq_176⟩, fun _ h => absurd h List.not_mem_nil⟩⟩⟩⟩⟩⟩⟩⟩⟩⟩⟩⟩⟩⟩⟩⟩⟩⟩⟩⟩⟩
theorem mx_FF_11 : ∀ e ∈ mx_fld_l 11, mx_FF 11 e.1.1 e.2.1 e.2.2.1 e.2.2.2 := List.forall_mem_cons.mpr ⟨⟨by decide, by decide, mq_721⟩, List.forall_mem_cons.mpr ⟨⟨by decide, by decide, mq_722⟩, List.forall_mem_cons.mpr ⟨⟨by decide, by decide, mq_723⟩, List.forall_mem_cons.mpr ⟨⟨by decide, by decide, mq_724⟩, List.forall_mem_cons.mpr ⟨⟨by decide, by decide, mq_725⟩, List.forall_mem_cons.mpr ⟨⟨by decide, by decide, mq_733⟩, List.forall_mem_cons.mpr ⟨⟨by decide, by decide, mq_734⟩, List.forall_mem_cons.mpr ⟨⟨by decide, by decide, mq_735⟩, List.forall_mem_cons.mpr ⟨⟨by decide, by decide, mq_736⟩, List.forall_mem_cons.mpr ⟨⟨by decide, by decide, mq_737⟩, List.forall_mem_cons.mpr ⟨⟨by decide, by decide, mq_738⟩, List.forall_mem_cons.mpr ⟨⟨by decide, by decide, mq_726⟩, List.forall_mem_cons.mpr ⟨⟨by decide, by decide, mq_729⟩, List.forall_mem_cons.mpr ⟨⟨by decide, by decide, mq_728⟩, List.forall_mem_cons.mpr ⟨⟨by decide, by decide, mq_727⟩, List.forall_mem_cons.mpr ⟨⟨by decide, by decide, mq_730⟩, List.forall_mem_cons.mpr ⟨⟨by decide, by decide, mq_731⟩, List.forall_mem_cons.mpr ⟨⟨by decide, by decide, mq_732⟩, List.forall_mem_cons.mpr ⟨⟨by decide, by decide, mq_739⟩, fun _ h => absurd h List.not_mem_nil⟩⟩⟩⟩⟩⟩⟩⟩⟩⟩⟩⟩⟩⟩⟩⟩⟩⟩⟩
theorem mx_fld_ok {cn k ci j : Nat} {nest : Bool} (h : mx_fld cn k = some (ci, j, nest)) : mx_FF cn k ci j nest := by
  have hm := mx_look_mem h
  by_cases h1 : cn = 1
  · subst h1; exact mx_FF_1 _ hm
  by_cases h5 : cn = 5
  · subst h5; exact mx_FF_5 _ hm
  by_cases h7 : cn = 7
  · subst h7; exact mx_FF_7 _ hm
  by_cases h8 : cn = 8
  · subst h8; exact mx_FF_8 _ hm
  by_cases h10 : cn = 10
  · subst h10; exact mx_FF_10 _ hm
  by_cases h11 : cn = 11
  · subst h11; exact mx_FF_11 _ hm
  unfold mx_fld_l at hm
  split at hm <;> first | contradiction | (cases hm)
def mx_CC (ci : Nat) : Prop := vwCl[ci]? = some (mx_cn ci, mx_TT ci, mx_NN ci) ∧ (∀ w ∈ u_ws (mx_cn ci) (mx_TT ci) (mx_NN ci), w ∈ mx_tbl) ∧ (∀ k, k < mx_NN ci → parseFieldDescriptor (mx_TT ci k).2.2.1 = some (mx_fty ci k)) ∧ (∀ a, a < mx_NN ci → ∀ b, b < mx_NN ci → a ≠ b → (mx_TT ci a).2.1 ≠ (mx_TT ci b).2.1) ∧ (mx_dfl ci).length = mx_NN ci ∧ (∀ j, j < mx_NN ci → defaultValue (mx_fty ci j) = vp_V (mx_dfl ci) j) ∧ (∀ j, (mx_TT ci j).2.2.2 = mx_ffin ci j) ∧ (∀ j, j < mx_NN ci → (mx_TT ci j).1 = mx_cn ci) ∧ Cond.instantiable (mx_cn ci) (mx_NN ci) ∈ mx_tbl ∧ Cond.initialized (mx_cn ci) ∈ mx_tbl
theorem mx_ws_0 : ∀ w ∈ u_ws (mx_cn 0) (mx_TT 0) (mx_NN 0), w ∈ mx_tbl := fun _ h => absurd h List.not_mem_nil
theorem mx_CC_0 : mx_CC 0 := ⟨rfl, mx_ws_0, tyX0_ok, nmX0, rfl, by decide +kernel, fun _ => rfl, by decide +kernel, mq_52, mq_5⟩
theorem mx_ws_1 : ∀ w ∈ u_ws (mx_cn 1) (mx_TT 1) (mx_NN 1), w ∈ mx_tbl := List.forall_mem_cons.mpr ⟨mq_103, List.forall_mem_cons.mpr ⟨mq_105, List.forall_mem_cons.mpr ⟨mq_107, List.forall_mem_cons.mpr ⟨mq_109, List.forall_mem_cons.mpr ⟨mq_111, List.forall_mem_cons.mpr ⟨mq_113, List.forall_mem_cons.mpr ⟨mq_115, List.forall_mem_cons.mpr ⟨mq_117, List.forall_mem_cons.mpr ⟨mq_119, List.forall_mem_cons.mpr ⟨mq_121, fun _ h => absurd h List.not_mem_nil⟩⟩⟩⟩⟩⟩⟩⟩⟩⟩
theorem mx_CC_1 : mx_CC 1 := ⟨rfl, mx_ws_1, tyX1_ok, nmX1, rfl, by decide +kernel, fun _ => rfl, by decide +kernel, mq_73, mq_8⟩
theorem mx_ws_2 : ∀ w ∈ u_ws (mx_cn 2) (mx_TT 2) (mx_NN 2), w ∈ mx_tbl := fun _ h => absurd h List.not_mem_nil
theorem mx_CC_2 : mx_CC 2 := ⟨rfl, mx_ws_2, tyX2_ok, nmX2, rfl, by decide +kernel, fun _ => rfl, by decide +kernel, mq_38, mq_3⟩
theorem mx_ws_3 : ∀ w ∈ u_ws (mx_cn 3) (mx_TT 3) (mx_NN 3), w ∈ mx_tbl := fun _ h => absurd h List.not_mem_nil
theorem mx_CC_3 : mx_CC 3 := ⟨rfl, mx_ws_3, tyX3_ok, nmX3, rfl, by decide +kernel, fun _ => rfl, by decide +kernel, mq_31, mq_2⟩
theorem mx_ws_4 : ∀ w ∈ u_ws (mx_cn 4) (mx_TT 4) (mx_NN 4), w ∈ mx_tbl := fun _ h => absurd h List.not_mem_nil
theorem mx_CC_4 : mx_CC 4 := ⟨rfl, mx_ws_4, tyX4_ok, nmX4, rfl, by decide +kernel, fun _ => rfl, by decide +kernel, mq_45, mq_4⟩
theorem mx_ws_5 : ∀ w ∈ u_ws (mx_cn 5) (mx_TT 5) (mx_NN 5), w ∈ mx_tbl := List.forall_mem_cons.mpr ⟨mq_179, List.forall_mem_cons.mpr ⟨mq_181, List.forall_mem_cons.mpr ⟨mq_183, fun _ h => absurd h List.not_mem_nil⟩⟩⟩
theorem mx_CC_5 : mx_CC 5 := ⟨rfl, mx_ws_5, tyX5_ok, nmX5, rfl, by decide +kernel, fun _ => rfl, by decide +kernel, mq_168, mq_11⟩
theorem mx_ws_6 : ∀ w ∈ u_ws (mx_cn 6) (mx_TT 6) (mx_NN 6), w ∈ mx_tbl := fun _ h => absurd h List.not_mem_nil
theorem mx_CC_6 : mx_CC 6 := ⟨rfl, mx_ws_6, tyX6_ok, nmX6, rfl, by decide +kernel, fun _ => rfl, by decide +kernel, mq_59, mq_6⟩
theorem mx_ws_7 : ∀ w ∈ u_ws (mx_cn 7) (mx_TT 7) (mx_NN 7), w ∈ mx_tbl := List.forall_mem_cons.mpr ⟨mq_136, List.forall_mem_cons.mpr ⟨mq_138, fun _ h => absurd h List.not_mem_nil⟩⟩
theorem mx_CC_7 : mx_CC 7 := ⟨rfl, mx_ws_7, tyX7_ok, nmX7, rfl, by decide +kernel, fun _ => rfl, by decide +kernel, mq_126, mq_9⟩
theorem mx_ws_8 : ∀ w ∈ u_ws (mx_cn 8) (mx_TT 8) (mx_NN 8), w ∈ mx_tbl := List.forall_mem_cons.mpr ⟨mq_153, List.forall_mem_cons.mpr ⟨mq_155, List.forall_mem_cons.mpr ⟨mq_157, List.forall_mem_cons.mpr ⟨mq_159, List.forall_mem_cons.mpr ⟨mq_161, List.forall_mem_cons.mpr ⟨mq_163, fun _ h => absurd h List.not_mem_nil⟩⟩⟩⟩⟩⟩
theorem mx_CC_8 : mx_CC 8 := ⟨rfl, mx_ws_8, tyX8_ok, nmX8, rfl, by decide +kernel, fun _ => rfl, by decide +kernel, mq_142, mq_10⟩
theorem mx_ws_9 : ∀ w ∈ u_ws (mx_cn 9) (mx_TT 9) (mx_NN 9), w ∈ mx_tbl := fun _ h => absurd h List.not_mem_nil
theorem mx_CC_9 : mx_CC 9 := ⟨rfl, mx_ws_9, tyX9_ok, nmX9, rfl, by decide +kernel, fun _ => rfl, by decide +kernel, mq_66, mq_7⟩
theorem mx_ws_10 : ∀ w ∈ u_ws (mx_cn 10) (mx_TT 10) (mx_NN 10), w ∈ mx_tbl := List.forall_mem_cons.mpr ⟨mq_195, List.forall_mem_cons.mpr ⟨mq_197, List.forall_mem_cons.mpr ⟨mq_199, List.forall_mem_cons.mpr ⟨mq_201, List.forall_mem_cons.mpr ⟨mq_203, List.forall_mem_cons.mpr ⟨mq_205, List.forall_mem_cons.mpr ⟨mq_207, List.forall_mem_cons.mpr ⟨mq_209, fun _ h => absurd h List.not_mem_nil⟩⟩⟩⟩⟩⟩⟩⟩
theorem mx_CC_10 : mx_CC 10 := ⟨rfl, mx_ws_10, tyX10_ok, nmX10, rfl, by decide +kernel, fun _ => rfl, by decide +kernel, mq_22, mq_1⟩
theorem mx_ws_11 : ∀ w ∈ u_ws (mx_cn 11) (mx_TT 11) (mx_NN 11), w ∈ mx_tbl := List.forall_mem_cons.mpr ⟨mq_740, List.forall_mem_cons.mpr ⟨mq_742, List.forall_mem_cons.mpr ⟨mq_744, List.forall_mem_cons.mpr ⟨mq_746, List.forall_mem_cons.mpr ⟨mq_748, List.forall_mem_cons.mpr ⟨mq_750, List.forall_mem_cons.mpr ⟨mq_752, List.forall_mem_cons.mpr ⟨mq_754, List.forall_mem_cons.mpr ⟨mq_756, List.forall_mem_cons.mpr ⟨mq_758, List.forall_mem_cons.mpr ⟨mq_760, List.forall_mem_cons.mpr ⟨mq_762, List.forall_mem_cons.mpr ⟨mq_764, List.forall_mem_cons.mpr ⟨mq_766, List.forall_mem_cons.mpr ⟨mq_768, List.forall_mem_cons.mpr ⟨mq_770, List.forall_mem_cons.mpr ⟨mq_772, List.forall_mem_cons.mpr ⟨mq_774, List.forall_mem_cons.mpr ⟨mq_776, fun _ h => absurd h List.not_mem_nil⟩⟩⟩⟩⟩⟩⟩⟩⟩⟩⟩⟩⟩⟩⟩⟩⟩⟩⟩
theorem mx_CC_11 : mx_CC 11 := ⟨rfl, mx_ws_11, tyX11_ok, nmX11, rfl, by decide +kernel, fun _ => rfl, by decide +kernel, mq_716, mq_12⟩
theorem mx_CC_ok : ∀ ci, ci < 12 → mx_CC ci
  | 0, _ => mx_CC_0
  | 1, _ => mx_CC_1
  | 2, _ => mx_CC_2
  | 3, _ => mx_CC_3
  | 4, _ => mx_CC_4
  | 5, _ => mx_CC_5
  | 6, _ => mx_CC_6
  | 7, _ => mx_CC_7
  | 8, _ => mx_CC_8
  | 9, _ => mx_CC_9
  | 10, _ => mx_CC_10
  | 11, _ => mx_CC_11
  | n + 12, h => absurd h (by omega)
def mx_sown : String := "PocketBorders$TextReader"
def mx_sidx : List Nat := [118, 120, 122, 124, 126, 128, 67, 79, 84, 44, 53]
def mx_stx : List String := ["person", "hider", "serious", "aunt", "swallower", "uncle", "age", "has", "cousin", "worth", "burned"]
def mx_LD (cn k : Nat) (v : Value) : Prop := (∃ x, v = .int x ∧ Cond.constant (mx_cn cn) k x ∈ mx_tbl) ∨ (∃ x, v = .long x ∧ Cond.constantLong (mx_cn cn) k x ∈ mx_tbl) ∨ (∃ i, i < 11 ∧ v = .ref (1000 + i) ∧ mx_cn cn = mx_sown ∧ mx_sidx.getD i 0 = k)
theorem mx_LD_8 : ∀ e ∈ mx_ldc_l 8, mx_LD 8 e.1.1 e.2 := List.forall_mem_cons.mpr ⟨Or.inr (Or.inr ⟨9, by decide, rfl, rfl, rfl⟩), List.forall_mem_cons.mpr ⟨Or.inr (Or.inr ⟨10, by decide, rfl, rfl, rfl⟩), List.forall_mem_cons.mpr ⟨Or.inr (Or.inr ⟨6, by decide, rfl, rfl, rfl⟩), List.forall_mem_cons.mpr ⟨Or.inr (Or.inr ⟨7, by decide, rfl, rfl, rfl⟩), List.forall_mem_cons.mpr ⟨Or.inr (Or.inr ⟨8, by decide, rfl, rfl, rfl⟩), List.forall_mem_cons.mpr ⟨Or.inr (Or.inr ⟨0, by decide, rfl, rfl, rfl⟩), List.forall_mem_cons.mpr ⟨Or.inr (Or.inr ⟨1, by decide, rfl, rfl, rfl⟩), List.forall_mem_cons.mpr ⟨Or.inr (Or.inr ⟨2, by decide, rfl, rfl, rfl⟩), List.forall_mem_cons.mpr ⟨Or.inr (Or.inr ⟨3, by decide, rfl, rfl, rfl⟩), List.forall_mem_cons.mpr ⟨Or.inr (Or.inr ⟨4, by decide, rfl, rfl, rfl⟩), List.forall_mem_cons.mpr ⟨Or.inr (Or.inr ⟨5, by decide, rfl, rfl, rfl⟩), fun _ h => absurd h List.not_mem_nil⟩⟩⟩⟩⟩⟩⟩⟩⟩⟩⟩
theorem mx_LD_10 : ∀ e ∈ mx_ldc_l 10, mx_LD 10 e.1.1 e.2 := List.forall_mem_cons.mpr ⟨Or.inl ⟨_, rfl, mq_225⟩, List.forall_mem_cons.mpr ⟨Or.inl ⟨_, rfl, mq_252⟩, List.forall_mem_cons.mpr ⟨Or.inl ⟨_, rfl, mq_363⟩, List.forall_mem_cons.mpr ⟨Or.inl ⟨_, rfl, mq_377⟩, List.forall_mem_cons.mpr ⟨Or.inl ⟨_, rfl, mq_387⟩, List.forall_mem_cons.mpr ⟨Or.inl ⟨_, rfl, mq_450⟩, List.forall_mem_cons.mpr ⟨Or.inl ⟨_, rfl, mq_490⟩, List.forall_mem_cons.mpr ⟨Or.inl ⟨_, rfl, mq_655⟩, List.forall_mem_cons.mpr ⟨Or.inr (Or.inl ⟨_, rfl, mq_673⟩), fun _ h => absurd h List.not_mem_nil⟩⟩⟩⟩⟩⟩⟩⟩⟩
theorem mx_LD_11 : ∀ e ∈ mx_ldc_l 11, mx_LD 11 e.1.1 e.2 := List.forall_mem_cons.mpr ⟨Or.inl ⟨_, rfl, mq_793⟩, List.forall_mem_cons.mpr ⟨Or.inl ⟨_, rfl, mq_817⟩, List.forall_mem_cons.mpr ⟨Or.inl ⟨_, rfl, mq_875⟩, List.forall_mem_cons.mpr ⟨Or.inl ⟨_, rfl, mq_884⟩, List.forall_mem_cons.mpr ⟨Or.inl ⟨_, rfl, mq_897⟩, List.forall_mem_cons.mpr ⟨Or.inl ⟨_, rfl, mq_961⟩, List.forall_mem_cons.mpr ⟨Or.inl ⟨_, rfl, mq_998⟩, List.forall_mem_cons.mpr ⟨Or.inr (Or.inl ⟨_, rfl, mq_1025⟩), List.forall_mem_cons.mpr ⟨Or.inr (Or.inl ⟨_, rfl, mq_1026⟩), List.forall_mem_cons.mpr ⟨Or.inr (Or.inl ⟨_, rfl, mq_1027⟩), List.forall_mem_cons.mpr ⟨Or.inr (Or.inl ⟨_, rfl, mq_1036⟩), List.forall_mem_cons.mpr ⟨Or.inr (Or.inl ⟨_, rfl, mq_1041⟩), List.forall_mem_cons.mpr ⟨Or.inr (Or.inl ⟨_, rfl, mq_1042⟩), List.forall_mem_cons.mpr ⟨Or.inr (Or.inl ⟨_, rfl, mq_1043⟩), List.forall_mem_cons.mpr ⟨Or.inr (Or.inl ⟨_, rfl, mq_1044⟩), List.forall_mem_cons.mpr ⟨Or.inr (Or.inl ⟨_, rfl, mq_1045⟩), List.forall_mem_cons.mpr ⟨Or.inr (Or.inl ⟨_, rfl, mq_1063⟩), List.forall_mem_cons.mpr ⟨Or.inr (Or.inl ⟨_, rfl, mq_1050⟩), List.forall_mem_cons.mpr ⟨Or.inr (Or.inl ⟨_, rfl, mq_1064⟩), List.forall_mem_cons.mpr ⟨Or.inr (Or.inl ⟨_, rfl, mq_1065⟩), List.forall_mem_cons.mpr ⟨Or.inr (Or.inl ⟨_, rfl, mq_1066⟩), List.forall_mem_cons.mpr ⟨Or.inl ⟨_, rfl, mq_1078⟩, List.forall_mem_cons.mpr ⟨Or.inr (Or.inl ⟨_, rfl, mq_1098⟩), fun _ h => absurd h List.not_mem_nil⟩⟩⟩⟩⟩⟩⟩⟩⟩⟩⟩⟩⟩⟩⟩⟩⟩⟩⟩⟩⟩⟩⟩
theorem mx_LD_12 : ∀ e ∈ mx_ldc_l 12, mx_LD 12 e.1.1 e.2 := List.forall_mem_cons.mpr ⟨Or.inr (Or.inl ⟨_, rfl, mq_1135⟩), fun _ h => absurd h List.not_mem_nil⟩
theorem mx_LD_26 : ∀ e ∈ mx_ldc_l 26, mx_LD 26 e.1.1 e.2 := List.forall_mem_cons.mpr ⟨Or.inl ⟨_, rfl, mq_487⟩, List.forall_mem_cons.mpr ⟨Or.inl ⟨_, rfl, mq_488⟩, List.forall_mem_cons.mpr ⟨Or.inl ⟨_, rfl, mq_489⟩, fun _ h => absurd h List.not_mem_nil⟩⟩⟩
theorem mx_ldc_ok {cn k : Nat} {v : Value} (h : mx_ldc cn k = some v) : mx_LD cn k v := by
  have hm := mx_look_mem h
  by_cases h8 : cn = 8
  · subst h8; exact mx_LD_8 _ hm
  by_cases h10 : cn = 10
  · subst h10; exact mx_LD_10 _ hm
  by_cases h11 : cn = 11
  · subst h11; exact mx_LD_11 _ hm
  by_cases h12 : cn = 12
  · subst h12; exact mx_LD_12 _ hm
  by_cases h26 : cn = 26
  · subst h26; exact mx_LD_26 _ hm
  unfold mx_ldc_l at hm
  split at hm <;> first | contradiction | (cases hm)
theorem mx_ncl_F10 : ∀ e ∈ mx_ncl_l 10, e.2 < 12 ∧ Cond.classLink (mx_cn 10) e.1.1 (mx_cn e.2) ∈ mx_tbl := List.forall_mem_cons.mpr ⟨⟨by decide, mq_29⟩, List.forall_mem_cons.mpr ⟨⟨by decide, mq_37⟩, List.forall_mem_cons.mpr ⟨⟨by decide, mq_44⟩, List.forall_mem_cons.mpr ⟨⟨by decide, mq_51⟩, List.forall_mem_cons.mpr ⟨⟨by decide, mq_58⟩, List.forall_mem_cons.mpr ⟨⟨by decide, mq_65⟩, List.forall_mem_cons.mpr ⟨⟨by decide, mq_72⟩, List.forall_mem_cons.mpr ⟨⟨by decide, mq_125⟩, List.forall_mem_cons.mpr ⟨⟨by decide, mq_141⟩, List.forall_mem_cons.mpr ⟨⟨by decide, mq_166⟩, fun _ h => absurd h List.not_mem_nil⟩⟩⟩⟩⟩⟩⟩⟩⟩⟩
theorem mx_ncl_F12 : ∀ e ∈ mx_ncl_l 12, e.2 < 12 ∧ Cond.classLink (mx_cn 12) e.1.1 (mx_cn e.2) ∈ mx_tbl := List.forall_mem_cons.mpr ⟨⟨by decide, mq_21⟩, List.forall_mem_cons.mpr ⟨⟨by decide, mq_715⟩, fun _ h => absurd h List.not_mem_nil⟩⟩
theorem mx_ncl_ok {cn k : Nat} {v : Nat} (h : mx_ncl cn k = some v) : v < 12 ∧ Cond.classLink (mx_cn cn) k (mx_cn v) ∈ mx_tbl := by
  have hm := mx_look_mem h
  by_cases h10 : cn = 10
  · subst h10; exact mx_ncl_F10 _ hm
  by_cases h12 : cn = 12
  · subst h12; exact mx_ncl_F12 _ hm
  unfold mx_ncl_l at hm
  split at hm <;> first | contradiction | (cases hm)
theorem mx_acl_F10 : ∀ e ∈ mx_acl_l 10, Cond.classLink (mx_cn 10) e.1.1 e.2 ∈ mx_tbl ∧ Cond.arrayOver (.object e.2) ∈ mx_nws := List.forall_mem_cons.mpr ⟨⟨mq_29, mq_30⟩, List.forall_mem_cons.mpr ⟨⟨mq_166, mq_167⟩, fun _ h => absurd h List.not_mem_nil⟩⟩
theorem mx_acl_ok {cn k : Nat} {v : String} (h : mx_acl cn k = some v) : Cond.classLink (mx_cn cn) k v ∈ mx_tbl ∧ Cond.arrayOver (.object v) ∈ mx_nws := by
  have hm := mx_look_mem h
  by_cases h10 : cn = 10
  · subst h10; exact mx_acl_F10 _ hm
  unfold mx_acl_l at hm
  split at hm <;> first | contradiction | (cases hm)
def mx_SF (cn k : Nat) (v : Value) : Prop := (v = .ref 2000 ∧ Cond.fieldLink (mx_cn cn) k "PocketBorders" "KIND_ABOVE" "[I" ∈ mx_tbl) ∨ (v = .int 1 ∧ Cond.fieldLink (mx_cn cn) k "java/lang/String" "COMPACT_STRINGS" "Z" ∈ mx_tbl) ∨ (v = .ref 4000 ∧ Cond.fieldLink (mx_cn cn) k "jdk/internal/util/Preconditions" "SIOOBE_FORMATTER" "Ljava/util/function/BiFunction;" ∈ mx_tbl)
theorem mx_gs_F10 : ∀ e ∈ mx_gs_l 10, mx_SF 10 e.1.1 e.2 := List.forall_mem_cons.mpr ⟨Or.inl ⟨rfl, mq_375⟩, fun _ h => absurd h List.not_mem_nil⟩
theorem mx_gs_F20 : ∀ e ∈ mx_gs_l 20, mx_SF 20 e.1.1 e.2 := List.forall_mem_cons.mpr ⟨Or.inr (Or.inl ⟨rfl, mq_565⟩), List.forall_mem_cons.mpr ⟨Or.inr (Or.inr ⟨rfl, mq_581⟩), fun _ h => absurd h List.not_mem_nil⟩⟩
theorem mx_gs_ok {cn k : Nat} {v : Value} (h : mx_gs cn k = some v) : mx_SF cn k v := by
  have hm := mx_look_mem h
  by_cases h10 : cn = 10
  · subst h10; exact mx_gs_F10 _ hm
  by_cases h20 : cn = 20
  · subst h20; exact mx_gs_F20 _ hm
  unfold mx_gs_l at hm
  split at hm <;> first | contradiction | (cases hm)
theorem mx_xf_ok {cn k a : Nat} {v : Value} (h : mx_xf cn k a = some v) : cn = 20 ∧ 1000 ≤ a ∧ a < 1011 ∧ ((v = .ref (a + 100) ∧ Cond.fieldLink (mx_cn 20) k "java/lang/String" "value" "[B" ∈ mx_tbl) ∨ (v = .int 0 ∧ Cond.fieldLink (mx_cn 20) k "java/lang/String" "coder" "B" ∈ mx_tbl)) := by
  unfold mx_xf at h
  split at h
  · rename_i hc
    refine ⟨hc.1, hc.2.1, hc.2.2, ?_⟩
    split at h
    · cases h; exact Or.inl ⟨rfl, mq_1143⟩
    · cases h; exact Or.inr ⟨rfl, mq_1144⟩
    · cases h
  · cases h
theorem mx_acp_ok {cn k : Nat} (h : mx_acp cn k = true) : Cond.methodLink (mx_cn cn) k arraycopyName ∈ mx_tbl := by
  unfold mx_acp at h
  simp only [Bool.or_eq_true, Bool.and_eq_true, beq_iff_eq] at h
  rcases h with ⟨rfl, rfl⟩ | ⟨rfl, rfl⟩
  · exact mq_439
  · exact mq_668
theorem mx_mmn_ok {cn k : Nat} (h : mx_mmn cn k = true) : Cond.methodLink (mx_cn cn) k Lib.Math.min.name ∈ mx_tbl := by
  unfold mx_mmn at h
  simp only [Bool.or_eq_true, Bool.and_eq_true, beq_iff_eq] at h
  rcases h with ⟨rfl, rfl⟩ | ⟨rfl, rfl⟩
  · exact mq_398
  · exact mq_535
theorem mx_mmn_w : Cond.static Lib.Math.min.name ∈ mx_tbl ∧ Cond.initialized "java/lang/Math" ∈ mx_tbl ∧ Cond.code Lib.Math.min.name Lib.Math.min.code 2 (some .int) ∈ mx_tbl := ⟨mq_399, mq_13, mx_mem 457 (by decide +kernel) (by decide +kernel)⟩
theorem mx_acp_w : Cond.native arraycopyName ∈ mx_tbl ∧ Cond.static arraycopyName ∈ mx_tbl ∧ Cond.initialized "java/lang/System" ∈ mx_tbl := ⟨mq_441, mq_440, mq_14⟩
theorem mx_oin_ok {cn k : Nat} (h : mx_oin cn k = true) : Cond.methodLink (mx_cn cn) k objectInit ∈ mx_tbl := by
  unfold mx_oin at h
  simp only [Bool.or_eq_true, Bool.and_eq_true, beq_iff_eq, or_assoc] at h
  rcases h with ⟨rfl, rfl⟩ | ⟨rfl, rfl⟩ | ⟨rfl, rfl⟩ | ⟨rfl, rfl⟩ | ⟨rfl, rfl⟩ | ⟨rfl, rfl⟩ | ⟨rfl, rfl⟩
  · exact mq_77
  · exact mq_35
  · exact mq_172
  · exact mq_130
  · exact mq_146
  · exact mq_26
  · exact mq_720
theorem mx_oin_w : Cond.instanceMethod objectInit ∈ mx_tbl ∧ Cond.code objectInit ⟨#[0xb1]⟩ 1 none ∈ mx_tbl := ⟨mq_27, mq_28⟩
theorem mx_arr_w : Cond.arrayClass .int ∈ mx_tbl ∧ Cond.arrayClass .long ∈ mx_tbl := ⟨mq_124, mq_186⟩
theorem mx_cast_ok {ci : Nat} {C : String} (h : mx_cast ci C = true) : C = mx_cn ci ∨ Cond.castable (mx_cn ci) C ∈ mx_nws := by
  unfold mx_cast at h
  split at h
  · rcases (by simpa using h : C = RX0 ∨ C = RX3) with rfl | rfl
    · exact Or.inl rfl
    · exact Or.inr mq_1140
  · rcases (by simpa using h : C = RX2 ∨ C = RX3) with rfl | rfl
    · exact Or.inl rfl
    · exact Or.inr mq_1138
  · exact Or.inl (beq_iff_eq.mp h)
  · rcases (by simpa using h : C = RX4 ∨ C = RX3) with rfl | rfl
    · exact Or.inl rfl
    · exact Or.inr mq_1139
  · exact Or.inl (beq_iff_eq.mp h)
  · rcases (by simpa using h : C = RX6 ∨ C = RX3) with rfl | rfl
    · exact Or.inl rfl
    · exact Or.inr mq_1141
  · rcases (by simpa using h : C = RX9 ∨ C = RX3) with rfl | rfl
    · exact Or.inl rfl
    · exact Or.inr mq_1142
  · cases h
def mx_good (M : mx_M) : Prop := M.2.1.cls = mx_cn M.1 ∧ plainName M.2.1.cls = true ∧ Cond.code M.2.1 M.2.2.1 M.2.2.2.1 M.2.2.2.2 ∈ mx_tbl ∧ M.2.2.2.1 ≤ 15
/-- what a call asks of the tables, by its kind -/
def mx_CF (cn k rc kind n : Nat) (M : mx_M) : Prop := mx_good M ∧ (parseMethodDescriptor M.2.1.desc).map (fun d => d.parameters.length) = some n ∧ Cond.initialized M.2.1.cls ∈ mx_tbl ∧ (M.2.1.cls ≠ "java/lang/invoke/MethodHandle" ∧ M.2.1.cls ≠ "java/lang/invoke/VarHandle") ∧ (match kind with
  | 0 => rc = 100 ∧ Cond.methodLink (mx_cn cn) k M.2.1 ∈ mx_tbl ∧ Cond.static M.2.1 ∈ mx_tbl
  | 1 => rc = 100 ∧ Cond.methodLinkNest (mx_cn cn) k M.2.1 "PocketBorders" ∈ mx_nws ∧ Cond.static M.2.1 ∈ mx_tbl
  | 2 => rc ≠ 100 ∧ Cond.methodLink (mx_cn cn) k M.2.1 ∈ mx_tbl ∧ Cond.instanceMethod M.2.1 ∈ mx_tbl ∧ Cond.selects (mx_cn rc) M.2.1 M.2.1 ∈ mx_tbl
  | 4 => rc = 100 ∧ Cond.methodLink (mx_cn cn) k M.2.1 ∈ mx_tbl ∧ Cond.instanceMethod M.2.1 ∈ mx_tbl ∧ M.2.1.name = "<init>" ∧ M.2.2.2.2 = none
  | 5 => rc = 100 ∧ Cond.methodLinkNest (mx_cn cn) k M.2.1 "PocketBorders" ∈ mx_nws ∧ Cond.instanceMethod M.2.1 ∈ mx_tbl ∧ M.2.1.name = "<init>" ∧ M.2.2.2.2 = none
  | 7 => rc = 100 ∧ Cond.methodLink (mx_cn cn) k M.2.1 ∈ mx_tbl ∧ Cond.instanceMethod M.2.1 ∈ mx_tbl ∧ M.2.1.name ≠ "<init>" ∧ Cond.sameMethod M.2.1.cls M.2.1.cls M.2.1.name M.2.1.desc ∈ mx_tbl ∧ Cond.superclass (mx_cn cn) M.2.1.cls ∈ mx_tbl
  | 8 => rc ≠ 100 ∧ Cond.methodLink (mx_cn cn) k ⟨RX3, M.2.1.name, M.2.1.desc⟩ ∈ mx_tbl ∧ Cond.sameMethod RX3 RX3 M.2.1.name M.2.1.desc ∈ mx_tbl ∧ Cond.instanceMethod ⟨RX3, M.2.1.name, M.2.1.desc⟩ ∈ mx_tbl ∧ Cond.selects (mx_cn rc) ⟨RX3, M.2.1.name, M.2.1.desc⟩ M.2.1 ∈ mx_tbl ∧ Cond.instanceMethod M.2.1 ∈ mx_tbl ∧ ∃ b0 m0 r0, Cond.code ⟨RX3, M.2.1.name, M.2.1.desc⟩ b0 m0 r0 ∈ mx_tbl
  | 9 => rc = 100 ∧ Cond.methodLink (mx_cn cn) k ⟨RX4, M.2.1.name, M.2.1.desc⟩ ∈ mx_tbl ∧ Cond.instanceMethod M.2.1 ∈ mx_tbl ∧ M.2.1.name ≠ "<init>" ∧ M.2.1.cls = RX3 ∧ Cond.sameMethod RX4 RX3 M.2.1.name M.2.1.desc ∈ mx_tbl ∧ Cond.superclass (mx_cn cn) RX4 ∈ mx_tbl ∧ Cond.superclass RX4 RX3 ∈ mx_tbl
  | _ => False)
theorem mg_J0_charAt_5068e : mx_good MJ0_charAt_5068e := ⟨rfl, by decide +kernel, mq_570, by decide⟩
theorem mh_J0_charAt_5068e : (parseMethodDescriptor MJ0_charAt_5068e.2.1.desc).map (fun d => d.parameters.length) = some 1 ∧ Cond.initialized MJ0_charAt_5068e.2.1.cls ∈ mx_tbl ∧ (MJ0_charAt_5068e.2.1.cls ≠ "java/lang/invoke/MethodHandle" ∧ MJ0_charAt_5068e.2.1.cls ≠ "java/lang/invoke/VarHandle") := ⟨by decide +kernel, mq_16, by decide +kernel, by decide +kernel⟩
theorem mg_J0_checkIndex_df160 : mx_good MJ0_checkIndex_df160 := ⟨rfl, by decide +kernel, mq_580, by decide⟩
theorem mh_J0_checkIndex_df160 : (parseMethodDescriptor MJ0_checkIndex_df160.2.1.desc).map (fun d => d.parameters.length) = some 2 ∧ Cond.initialized MJ0_checkIndex_df160.2.1.cls ∈ mx_tbl ∧ (MJ0_checkIndex_df160.2.1.cls ≠ "java/lang/invoke/MethodHandle" ∧ MJ0_checkIndex_df160.2.1.cls ≠ "java/lang/invoke/VarHandle") := ⟨by decide +kernel, mq_16, by decide +kernel, by decide +kernel⟩
theorem mg_J0_coder_7d493 : mx_good MJ0_coder_7d493 := ⟨rfl, by decide +kernel, mq_564, by decide⟩
theorem mh_J0_coder_7d493 : (parseMethodDescriptor MJ0_coder_7d493.2.1.desc).map (fun d => d.parameters.length) = some 0 ∧ Cond.initialized MJ0_coder_7d493.2.1.cls ∈ mx_tbl ∧ (MJ0_coder_7d493.2.1.cls ≠ "java/lang/invoke/MethodHandle" ∧ MJ0_coder_7d493.2.1.cls ≠ "java/lang/invoke/VarHandle") := ⟨by decide +kernel, mq_16, by decide +kernel, by decide +kernel⟩
theorem mg_J0_isLatin1_aae02 : mx_good MJ0_isLatin1_aae02 := ⟨rfl, by decide +kernel, mq_574, by decide⟩
theorem mh_J0_isLatin1_aae02 : (parseMethodDescriptor MJ0_isLatin1_aae02.2.1.desc).map (fun d => d.parameters.length) = some 0 ∧ Cond.initialized MJ0_isLatin1_aae02.2.1.cls ∈ mx_tbl ∧ (MJ0_isLatin1_aae02.2.1.cls ≠ "java/lang/invoke/MethodHandle" ∧ MJ0_isLatin1_aae02.2.1.cls ≠ "java/lang/invoke/VarHandle") := ⟨by decide +kernel, mq_16, by decide +kernel, by decide +kernel⟩
theorem mg_J0_length_8abf5 : mx_good MJ0_length_8abf5 := ⟨rfl, by decide +kernel, mq_560, by decide⟩
theorem mh_J0_length_8abf5 : (parseMethodDescriptor MJ0_length_8abf5.2.1.desc).map (fun d => d.parameters.length) = some 0 ∧ Cond.initialized MJ0_length_8abf5.2.1.cls ∈ mx_tbl ∧ (MJ0_length_8abf5.2.1.cls ≠ "java/lang/invoke/MethodHandle" ∧ MJ0_length_8abf5.2.1.cls ≠ "java/lang/invoke/VarHandle") := ⟨by decide +kernel, mq_16, by decide +kernel, by decide +kernel⟩
theorem mg_J1_charAt_3b067 : mx_good MJ1_charAt_3b067 := ⟨rfl, by decide +kernel, mq_577, by decide⟩
theorem mh_J1_charAt_3b067 : (parseMethodDescriptor MJ1_charAt_3b067.2.1.desc).map (fun d => d.parameters.length) = some 2 ∧ Cond.initialized MJ1_charAt_3b067.2.1.cls ∈ mx_tbl ∧ (MJ1_charAt_3b067.2.1.cls ≠ "java/lang/invoke/MethodHandle" ∧ MJ1_charAt_3b067.2.1.cls ≠ "java/lang/invoke/VarHandle") := ⟨by decide +kernel, mq_17, by decide +kernel, by decide +kernel⟩
theorem mg_J3_checkIndex_8e157 : mx_good MJ3_checkIndex_8e157 := ⟨rfl, by decide +kernel, mq_585, by decide⟩
theorem mh_J3_checkIndex_8e157 : (parseMethodDescriptor MJ3_checkIndex_8e157.2.1.desc).map (fun d => d.parameters.length) = some 3 ∧ Cond.initialized MJ3_checkIndex_8e157.2.1.cls ∈ mx_tbl ∧ (MJ3_checkIndex_8e157.2.1.cls ≠ "java/lang/invoke/MethodHandle" ∧ MJ3_checkIndex_8e157.2.1.cls ≠ "java/lang/invoke/VarHandle") := ⟨by decide +kernel, mq_18, by decide +kernel, by decide +kernel⟩
theorem mg_J6_bitCount_0f7a4 : mx_good MJ6_bitCount_0f7a4 := ⟨rfl, by decide +kernel, mq_486, by decide⟩
theorem mh_J6_bitCount_0f7a4 : (parseMethodDescriptor MJ6_bitCount_0f7a4.2.1.desc).map (fun d => d.parameters.length) = some 1 ∧ Cond.initialized MJ6_bitCount_0f7a4.2.1.cls ∈ mx_tbl ∧ (MJ6_bitCount_0f7a4.2.1.cls ≠ "java/lang/invoke/MethodHandle" ∧ MJ6_bitCount_0f7a4.2.1.cls ≠ "java/lang/invoke/VarHandle") := ⟨by decide +kernel, mq_15, by decide +kernel, by decide +kernel⟩
theorem mg_J7_fill_d0a16 : mx_good MJ7_fill_d0a16 := ⟨rfl, by decide +kernel, mq_646, by decide⟩
theorem mh_J7_fill_d0a16 : (parseMethodDescriptor MJ7_fill_d0a16.2.1.desc).map (fun d => d.parameters.length) = some 2 ∧ Cond.initialized MJ7_fill_d0a16.2.1.cls ∈ mx_tbl ∧ (MJ7_fill_d0a16.2.1.cls ≠ "java/lang/invoke/MethodHandle" ∧ MJ7_fill_d0a16.2.1.cls ≠ "java/lang/invoke/VarHandle") := ⟨by decide +kernel, mq_20, by decide +kernel, by decide +kernel⟩
theorem mg_X0_finds : mx_good MX0_finds := ⟨rfl, by decide +kernel, mq_338, by decide⟩
theorem mh_X0_finds : (parseMethodDescriptor MX0_finds.2.1.desc).map (fun d => d.parameters.length) = some 1 ∧ Cond.initialized MX0_finds.2.1.cls ∈ mx_tbl ∧ (MX0_finds.2.1.cls ≠ "java/lang/invoke/MethodHandle" ∧ MX0_finds.2.1.cls ≠ "java/lang/invoke/VarHandle") := ⟨by decide +kernel, mq_5, by decide +kernel, by decide +kernel⟩
theorem mg_X0_init : mx_good MX0_init := ⟨rfl, by decide +kernel, mq_55, by decide⟩
theorem mh_X0_init : (parseMethodDescriptor MX0_init.2.1.desc).map (fun d => d.parameters.length) = some 0 ∧ Cond.initialized MX0_init.2.1.cls ∈ mx_tbl ∧ (MX0_init.2.1.cls ≠ "java/lang/invoke/MethodHandle" ∧ MX0_init.2.1.cls ≠ "java/lang/invoke/VarHandle") := ⟨by decide +kernel, mq_5, by decide +kernel, by decide +kernel⟩
theorem mg_X0_taken : mx_good MX0_taken := ⟨rfl, by decide +kernel, mq_308, by decide⟩
theorem mh_X0_taken : (parseMethodDescriptor MX0_taken.2.1.desc).map (fun d => d.parameters.length) = some 2 ∧ Cond.initialized MX0_taken.2.1.cls ∈ mx_tbl ∧ (MX0_taken.2.1.cls ≠ "java/lang/invoke/MethodHandle" ∧ MX0_taken.2.1.cls ≠ "java/lang/invoke/VarHandle") := ⟨by decide +kernel, mq_5, by decide +kernel, by decide +kernel⟩
theorem mg_X10_as : mx_good MX10_as := ⟨rfl, by decide +kernel, mq_371, by decide⟩
theorem mh_X10_as : (parseMethodDescriptor MX10_as.2.1.desc).map (fun d => d.parameters.length) = some 2 ∧ Cond.initialized MX10_as.2.1.cls ∈ mx_tbl ∧ (MX10_as.2.1.cls ≠ "java/lang/invoke/MethodHandle" ∧ MX10_as.2.1.cls ≠ "java/lang/invoke/VarHandle") := ⟨by decide +kernel, mq_1, by decide +kernel, by decide +kernel⟩
theorem mg_X10_best : mx_good MX10_best := ⟨rfl, by decide +kernel, mq_475, by decide⟩
theorem mh_X10_best : (parseMethodDescriptor MX10_best.2.1.desc).map (fun d => d.parameters.length) = some 2 ∧ Cond.initialized MX10_best.2.1.cls ∈ mx_tbl ∧ (MX10_best.2.1.cls ≠ "java/lang/invoke/MethodHandle" ∧ MX10_best.2.1.cls ≠ "java/lang/invoke/VarHandle") := ⟨by decide +kernel, mq_1, by decide +kernel, by decide +kernel⟩
theorem mg_X10_bestIn : mx_good MX10_bestIn := ⟨rfl, by decide +kernel, mq_280, by decide⟩
theorem mh_X10_bestIn : (parseMethodDescriptor MX10_bestIn.2.1.desc).map (fun d => d.parameters.length) = some 2 ∧ Cond.initialized MX10_bestIn.2.1.cls ∈ mx_tbl ∧ (MX10_bestIn.2.1.cls ≠ "java/lang/invoke/MethodHandle" ∧ MX10_bestIn.2.1.cls ≠ "java/lang/invoke/VarHandle") := ⟨by decide +kernel, mq_1, by decide +kernel, by decide +kernel⟩
theorem mg_X10_book : mx_good MX10_book := ⟨rfl, by decide +kernel, mq_677, by decide⟩
theorem mh_X10_book : (parseMethodDescriptor MX10_book.2.1.desc).map (fun d => d.parameters.length) = some 2 ∧ Cond.initialized MX10_book.2.1.cls ∈ mx_tbl ∧ (MX10_book.2.1.cls ≠ "java/lang/invoke/MethodHandle" ∧ MX10_book.2.1.cls ≠ "java/lang/invoke/VarHandle") := ⟨by decide +kernel, mq_1, by decide +kernel, by decide +kernel⟩
theorem mg_X10_border : mx_good MX10_border := ⟨rfl, by decide +kernel, mq_391, by decide⟩
theorem mh_X10_border : (parseMethodDescriptor MX10_border.2.1.desc).map (fun d => d.parameters.length) = some 1 ∧ Cond.initialized MX10_border.2.1.cls ∈ mx_tbl ∧ (MX10_border.2.1.cls ≠ "java/lang/invoke/MethodHandle" ∧ MX10_border.2.1.cls ≠ "java/lang/invoke/VarHandle") := ⟨by decide +kernel, mq_1, by decide +kernel, by decide +kernel⟩
theorem mg_X10_burns : mx_good MX10_burns := ⟨rfl, by decide +kernel, mq_458, by decide⟩
theorem mh_X10_burns : (parseMethodDescriptor MX10_burns.2.1.desc).map (fun d => d.parameters.length) = some 1 ∧ Cond.initialized MX10_burns.2.1.cls ∈ mx_tbl ∧ (MX10_burns.2.1.cls ≠ "java/lang/invoke/MethodHandle" ∧ MX10_burns.2.1.cls ≠ "java/lang/invoke/VarHandle") := ⟨by decide +kernel, mq_1, by decide +kernel, by decide +kernel⟩
theorem mg_X10_contains : mx_good MX10_contains := ⟨rfl, by decide +kernel, mq_244, by decide⟩
theorem mh_X10_contains : (parseMethodDescriptor MX10_contains.2.1.desc).map (fun d => d.parameters.length) = some 2 ∧ Cond.initialized MX10_contains.2.1.cls ∈ mx_tbl ∧ (MX10_contains.2.1.cls ≠ "java/lang/invoke/MethodHandle" ∧ MX10_contains.2.1.cls ≠ "java/lang/invoke/VarHandle") := ⟨by decide +kernel, mq_1, by decide +kernel, by decide +kernel⟩
theorem mg_X10_copy : mx_good MX10_copy := ⟨rfl, by decide +kernel, mq_663, by decide⟩
theorem mh_X10_copy : (parseMethodDescriptor MX10_copy.2.1.desc).map (fun d => d.parameters.length) = some 5 ∧ Cond.initialized MX10_copy.2.1.cls ∈ mx_tbl ∧ (MX10_copy.2.1.cls ≠ "java/lang/invoke/MethodHandle" ∧ MX10_copy.2.1.cls ≠ "java/lang/invoke/VarHandle") := ⟨by decide +kernel, mq_1, by decide +kernel, by decide +kernel⟩
theorem mg_X10_count : mx_good MX10_count := ⟨rfl, by decide +kernel, mq_701, by decide⟩
theorem mh_X10_count : (parseMethodDescriptor MX10_count.2.1.desc).map (fun d => d.parameters.length) = some 1 ∧ Cond.initialized MX10_count.2.1.cls ∈ mx_tbl ∧ (MX10_count.2.1.cls ≠ "java/lang/invoke/MethodHandle" ∧ MX10_count.2.1.cls ≠ "java/lang/invoke/VarHandle") := ⟨by decide +kernel, mq_1, by decide +kernel, by decide +kernel⟩
theorem mg_X10_cousin : mx_good MX10_cousin := ⟨rfl, by decide +kernel, mq_463, by decide⟩
theorem mh_X10_cousin : (parseMethodDescriptor MX10_cousin.2.1.desc).map (fun d => d.parameters.length) = some 2 ∧ Cond.initialized MX10_cousin.2.1.cls ∈ mx_tbl ∧ (MX10_cousin.2.1.cls ≠ "java/lang/invoke/MethodHandle" ∧ MX10_cousin.2.1.cls ≠ "java/lang/invoke/VarHandle") := ⟨by decide +kernel, mq_1, by decide +kernel, by decide +kernel⟩
theorem mg_X10_family : mx_good MX10_family := ⟨rfl, by decide +kernel, mq_510, by decide⟩
theorem mh_X10_family : (parseMethodDescriptor MX10_family.2.1.desc).map (fun d => d.parameters.length) = some 0 ∧ Cond.initialized MX10_family.2.1.cls ∈ mx_tbl ∧ (MX10_family.2.1.cls ≠ "java/lang/invoke/MethodHandle" ∧ MX10_family.2.1.cls ≠ "java/lang/invoke/VarHandle") := ⟨by decide +kernel, mq_1, by decide +kernel, by decide +kernel⟩
theorem mg_X10_feed : mx_good MX10_feed := ⟨rfl, by decide +kernel, mq_498, by decide⟩
theorem mh_X10_feed : (parseMethodDescriptor MX10_feed.2.1.desc).map (fun d => d.parameters.length) = some 2 ∧ Cond.initialized MX10_feed.2.1.cls ∈ mx_tbl ∧ (MX10_feed.2.1.cls ≠ "java/lang/invoke/MethodHandle" ∧ MX10_feed.2.1.cls ≠ "java/lang/invoke/VarHandle") := ⟨by decide +kernel, mq_1, by decide +kernel, by decide +kernel⟩
theorem mg_X10_fewest : mx_good MX10_fewest := ⟨rfl, by decide +kernel, mq_483, by decide⟩
theorem mh_X10_fewest : (parseMethodDescriptor MX10_fewest.2.1.desc).map (fun d => d.parameters.length) = some 3 ∧ Cond.initialized MX10_fewest.2.1.cls ∈ mx_tbl ∧ (MX10_fewest.2.1.cls ≠ "java/lang/invoke/MethodHandle" ∧ MX10_fewest.2.1.cls ≠ "java/lang/invoke/VarHandle") := ⟨by decide +kernel, mq_1, by decide +kernel, by decide +kernel⟩
theorem mg_X10_firstYear : mx_good MX10_firstYear := ⟨rfl, by decide +kernel, mq_449, by decide⟩
theorem mh_X10_firstYear : (parseMethodDescriptor MX10_firstYear.2.1.desc).map (fun d => d.parameters.length) = some 3 ∧ Cond.initialized MX10_firstYear.2.1.cls ∈ mx_tbl ∧ (MX10_firstYear.2.1.cls ≠ "java/lang/invoke/MethodHandle" ∧ MX10_firstYear.2.1.cls ≠ "java/lang/invoke/VarHandle") := ⟨by decide +kernel, mq_1, by decide +kernel, by decide +kernel⟩
theorem mg_X10_found : mx_good MX10_found := ⟨rfl, by decide +kernel, mq_229, by decide⟩
theorem mh_X10_found : (parseMethodDescriptor MX10_found.2.1.desc).map (fun d => d.parameters.length) = some 1 ∧ Cond.initialized MX10_found.2.1.cls ∈ mx_tbl ∧ (MX10_found.2.1.cls ≠ "java/lang/invoke/MethodHandle" ∧ MX10_found.2.1.cls ≠ "java/lang/invoke/VarHandle") := ⟨by decide +kernel, mq_1, by decide +kernel, by decide +kernel⟩
theorem mg_X10_gets : mx_good MX10_gets := ⟨rfl, by decide +kernel, mq_445, by decide⟩
theorem mh_X10_gets : (parseMethodDescriptor MX10_gets.2.1.desc).map (fun d => d.parameters.length) = some 2 ∧ Cond.initialized MX10_gets.2.1.cls ∈ mx_tbl ∧ (MX10_gets.2.1.cls ≠ "java/lang/invoke/MethodHandle" ∧ MX10_gets.2.1.cls ≠ "java/lang/invoke/VarHandle") := ⟨by decide +kernel, mq_1, by decide +kernel, by decide +kernel⟩
theorem mg_X10_give : mx_good MX10_give := ⟨rfl, by decide +kernel, mq_381, by decide⟩
theorem mh_X10_give : (parseMethodDescriptor MX10_give.2.1.desc).map (fun d => d.parameters.length) = some 2 ∧ Cond.initialized MX10_give.2.1.cls ∈ mx_tbl ∧ (MX10_give.2.1.cls ≠ "java/lang/invoke/MethodHandle" ∧ MX10_give.2.1.cls ≠ "java/lang/invoke/VarHandle") := ⟨by decide +kernel, mq_1, by decide +kernel, by decide +kernel⟩
theorem mg_X10_greatestIn : mx_good MX10_greatestIn := ⟨rfl, by decide +kernel, mq_311, by decide⟩
theorem mh_X10_greatestIn : (parseMethodDescriptor MX10_greatestIn.2.1.desc).map (fun d => d.parameters.length) = some 1 ∧ Cond.initialized MX10_greatestIn.2.1.cls ∈ mx_tbl ∧ (MX10_greatestIn.2.1.cls ≠ "java/lang/invoke/MethodHandle" ∧ MX10_greatestIn.2.1.cls ≠ "java/lang/invoke/VarHandle") := ⟨by decide +kernel, mq_1, by decide +kernel, by decide +kernel⟩
theorem mg_X10_hand : mx_good MX10_hand := ⟨rfl, by decide +kernel, mq_386, by decide⟩
theorem mh_X10_hand : (parseMethodDescriptor MX10_hand.2.1.desc).map (fun d => d.parameters.length) = some 3 ∧ Cond.initialized MX10_hand.2.1.cls ∈ mx_tbl ∧ (MX10_hand.2.1.cls ≠ "java/lang/invoke/MethodHandle" ∧ MX10_hand.2.1.cls ≠ "java/lang/invoke/VarHandle") := ⟨by decide +kernel, mq_1, by decide +kernel, by decide +kernel⟩
theorem mg_X10_image : mx_good MX10_image := ⟨rfl, by decide +kernel, mq_689, by decide⟩
theorem mh_X10_image : (parseMethodDescriptor MX10_image.2.1.desc).map (fun d => d.parameters.length) = some 0 ∧ Cond.initialized MX10_image.2.1.cls ∈ mx_tbl ∧ (MX10_image.2.1.cls ≠ "java/lang/invoke/MethodHandle" ∧ MX10_image.2.1.cls ≠ "java/lang/invoke/VarHandle") := ⟨by decide +kernel, mq_1, by decide +kernel, by decide +kernel⟩
theorem mg_X10_init : mx_good MX10_init := ⟨rfl, by decide +kernel, mq_25, by decide⟩
theorem mh_X10_init : (parseMethodDescriptor MX10_init.2.1.desc).map (fun d => d.parameters.length) = some 0 ∧ Cond.initialized MX10_init.2.1.cls ∈ mx_tbl ∧ (MX10_init.2.1.cls ≠ "java/lang/invoke/MethodHandle" ∧ MX10_init.2.1.cls ≠ "java/lang/invoke/VarHandle") := ⟨by decide +kernel, mq_1, by decide +kernel, by decide +kernel⟩
theorem mg_X10_isKind : mx_good MX10_isKind := ⟨rfl, by decide +kernel, mq_251, by decide⟩
theorem mh_X10_isKind : (parseMethodDescriptor MX10_isKind.2.1.desc).map (fun d => d.parameters.length) = some 1 ∧ Cond.initialized MX10_isKind.2.1.cls ∈ mx_tbl ∧ (MX10_isKind.2.1.cls ≠ "java/lang/invoke/MethodHandle" ∧ MX10_isKind.2.1.cls ≠ "java/lang/invoke/VarHandle") := ⟨by decide +kernel, mq_1, by decide +kernel, by decide +kernel⟩
theorem mg_X10_isPerson : mx_good MX10_isPerson := ⟨rfl, by decide +kernel, mq_264, by decide⟩
theorem mh_X10_isPerson : (parseMethodDescriptor MX10_isPerson.2.1.desc).map (fun d => d.parameters.length) = some 1 ∧ Cond.initialized MX10_isPerson.2.1.cls ∈ mx_tbl ∧ (MX10_isPerson.2.1.cls ≠ "java/lang/invoke/MethodHandle" ∧ MX10_isPerson.2.1.cls ≠ "java/lang/invoke/VarHandle") := ⟨by decide +kernel, mq_1, by decide +kernel, by decide +kernel⟩
theorem mg_X10_isSheet : mx_good MX10_isSheet := ⟨rfl, by decide +kernel, mq_639, by decide⟩
theorem mh_X10_isSheet : (parseMethodDescriptor MX10_isSheet.2.1.desc).map (fun d => d.parameters.length) = some 1 ∧ Cond.initialized MX10_isSheet.2.1.cls ∈ mx_tbl ∧ (MX10_isSheet.2.1.cls ≠ "java/lang/invoke/MethodHandle" ∧ MX10_isSheet.2.1.cls ≠ "java/lang/invoke/VarHandle") := ⟨by decide +kernel, mq_1, by decide +kernel, by decide +kernel⟩
theorem mg_X10_isThing : mx_good MX10_isThing := ⟨rfl, by decide +kernel, mq_218, by decide⟩
theorem mh_X10_isThing : (parseMethodDescriptor MX10_isThing.2.1.desc).map (fun d => d.parameters.length) = some 1 ∧ Cond.initialized MX10_isThing.2.1.cls ∈ mx_tbl ∧ (MX10_isThing.2.1.cls ≠ "java/lang/invoke/MethodHandle" ∧ MX10_isThing.2.1.cls ≠ "java/lang/invoke/VarHandle") := ⟨by decide +kernel, mq_1, by decide +kernel, by decide +kernel⟩
theorem mg_X10_isUnder : mx_good MX10_isUnder := ⟨rfl, by decide +kernel, mq_374, by decide⟩
theorem mh_X10_isUnder : (parseMethodDescriptor MX10_isUnder.2.1.desc).map (fun d => d.parameters.length) = some 2 ∧ Cond.initialized MX10_isUnder.2.1.cls ∈ mx_tbl ∧ (MX10_isUnder.2.1.cls ≠ "java/lang/invoke/MethodHandle" ∧ MX10_isUnder.2.1.cls ≠ "java/lang/invoke/VarHandle") := ⟨by decide +kernel, mq_1, by decide +kernel, by decide +kernel⟩
theorem mg_X10_isWithin : mx_good MX10_isWithin := ⟨rfl, by decide +kernel, mq_221, by decide⟩
theorem mh_X10_isWithin : (parseMethodDescriptor MX10_isWithin.2.1.desc).map (fun d => d.parameters.length) = some 3 ∧ Cond.initialized MX10_isWithin.2.1.cls ∈ mx_tbl ∧ (MX10_isWithin.2.1.cls ≠ "java/lang/invoke/MethodHandle" ∧ MX10_isWithin.2.1.cls ≠ "java/lang/invoke/VarHandle") := ⟨by decide +kernel, mq_1, by decide +kernel, by decide +kernel⟩
theorem mg_X10_isWorth : mx_good MX10_isWorth := ⟨rfl, by decide +kernel, mq_224, by decide⟩
theorem mh_X10_isWorth : (parseMethodDescriptor MX10_isWorth.2.1.desc).map (fun d => d.parameters.length) = some 1 ∧ Cond.initialized MX10_isWorth.2.1.cls ∈ mx_tbl ∧ (MX10_isWorth.2.1.cls ≠ "java/lang/invoke/MethodHandle" ∧ MX10_isWorth.2.1.cls ≠ "java/lang/invoke/VarHandle") := ⟨by decide +kernel, mq_1, by decide +kernel, by decide +kernel⟩
theorem mg_X10_keep : mx_good MX10_keep := ⟨rfl, by decide +kernel, mq_471, by decide⟩
theorem mh_X10_keep : (parseMethodDescriptor MX10_keep.2.1.desc).map (fun d => d.parameters.length) = some 3 ∧ Cond.initialized MX10_keep.2.1.cls ∈ mx_tbl ∧ (MX10_keep.2.1.cls ≠ "java/lang/invoke/MethodHandle" ∧ MX10_keep.2.1.cls ≠ "java/lang/invoke/VarHandle") := ⟨by decide +kernel, mq_1, by decide +kernel, by decide +kernel⟩
theorem mg_X10_kind : mx_good MX10_kind := ⟨rfl, by decide +kernel, mq_467, by decide⟩
theorem mh_X10_kind : (parseMethodDescriptor MX10_kind.2.1.desc).map (fun d => d.parameters.length) = some 2 ∧ Cond.initialized MX10_kind.2.1.cls ∈ mx_tbl ∧ (MX10_kind.2.1.cls ≠ "java/lang/invoke/MethodHandle" ∧ MX10_kind.2.1.cls ≠ "java/lang/invoke/VarHandle") := ⟨by decide +kernel, mq_1, by decide +kernel, by decide +kernel⟩
theorem mg_X10_lays : mx_good MX10_lays := ⟨rfl, by decide +kernel, mq_672, by decide⟩
theorem mh_X10_lays : (parseMethodDescriptor MX10_lays.2.1.desc).map (fun d => d.parameters.length) = some 1 ∧ Cond.initialized MX10_lays.2.1.cls ∈ mx_tbl ∧ (MX10_lays.2.1.cls ≠ "java/lang/invoke/MethodHandle" ∧ MX10_lays.2.1.cls ≠ "java/lang/invoke/VarHandle") := ⟨by decide +kernel, mq_1, by decide +kernel, by decide +kernel⟩
theorem mg_X10_loses : mx_good MX10_loses := ⟨rfl, by decide +kernel, mq_454, by decide⟩
theorem mh_X10_loses : (parseMethodDescriptor MX10_loses.2.1.desc).map (fun d => d.parameters.length) = some 2 ∧ Cond.initialized MX10_loses.2.1.cls ∈ mx_tbl ∧ (MX10_loses.2.1.cls ≠ "java/lang/invoke/MethodHandle" ∧ MX10_loses.2.1.cls ≠ "java/lang/invoke/VarHandle") := ⟨by decide +kernel, mq_1, by decide +kernel, by decide +kernel⟩
theorem mg_X10_makes : mx_good MX10_makes := ⟨rfl, by decide +kernel, mq_685, by decide⟩
theorem mh_X10_makes : (parseMethodDescriptor MX10_makes.2.1.desc).map (fun d => d.parameters.length) = some 4 ∧ Cond.initialized MX10_makes.2.1.cls ∈ mx_tbl ∧ (MX10_makes.2.1.cls ≠ "java/lang/invoke/MethodHandle" ∧ MX10_makes.2.1.cls ≠ "java/lang/invoke/VarHandle") := ⟨by decide +kernel, mq_1, by decide +kernel, by decide +kernel⟩
theorem mg_X10_now : mx_good MX10_now := ⟨rfl, by decide +kernel, mq_417, by decide⟩
theorem mh_X10_now : (parseMethodDescriptor MX10_now.2.1.desc).map (fun d => d.parameters.length) = some 1 ∧ Cond.initialized MX10_now.2.1.cls ∈ mx_tbl ∧ (MX10_now.2.1.cls ≠ "java/lang/invoke/MethodHandle" ∧ MX10_now.2.1.cls ≠ "java/lang/invoke/VarHandle") := ⟨by decide +kernel, mq_1, by decide +kernel, by decide +kernel⟩
theorem mg_X10_of : mx_good MX10_of := ⟨rfl, by decide +kernel, mq_260, by decide⟩
theorem mh_X10_of : (parseMethodDescriptor MX10_of.2.1.desc).map (fun d => d.parameters.length) = some 2 ∧ Cond.initialized MX10_of.2.1.cls ∈ mx_tbl ∧ (MX10_of.2.1.cls ≠ "java/lang/invoke/MethodHandle" ∧ MX10_of.2.1.cls ≠ "java/lang/invoke/VarHandle") := ⟨by decide +kernel, mq_1, by decide +kernel, by decide +kernel⟩
theorem mg_X10_on : mx_good MX10_on := ⟨rfl, by decide +kernel, mq_434, by decide⟩
theorem mh_X10_on : (parseMethodDescriptor MX10_on.2.1.desc).map (fun d => d.parameters.length) = some 3 ∧ Cond.initialized MX10_on.2.1.cls ∈ mx_tbl ∧ (MX10_on.2.1.cls ≠ "java/lang/invoke/MethodHandle" ∧ MX10_on.2.1.cls ≠ "java/lang/invoke/VarHandle") := ⟨by decide +kernel, mq_1, by decide +kernel, by decide +kernel⟩
theorem mg_X10_person : mx_good MX10_person := ⟨rfl, by decide +kernel, mq_248, by decide⟩
theorem mh_X10_person : (parseMethodDescriptor MX10_person.2.1.desc).map (fun d => d.parameters.length) = some 1 ∧ Cond.initialized MX10_person.2.1.cls ∈ mx_tbl ∧ (MX10_person.2.1.cls ≠ "java/lang/invoke/MethodHandle" ∧ MX10_person.2.1.cls ≠ "java/lang/invoke/VarHandle") := ⟨by decide +kernel, mq_1, by decide +kernel, by decide +kernel⟩
theorem mg_X10_read : mx_good MX10_read := ⟨rfl, by decide +kernel, mq_681, by decide⟩
theorem mh_X10_read : (parseMethodDescriptor MX10_read.2.1.desc).map (fun d => d.parameters.length) = some 2 ∧ Cond.initialized MX10_read.2.1.cls ∈ mx_tbl ∧ (MX10_read.2.1.cls ≠ "java/lang/invoke/MethodHandle" ∧ MX10_read.2.1.cls ≠ "java/lang/invoke/VarHandle") := ⟨by decide +kernel, mq_1, by decide +kernel, by decide +kernel⟩
theorem mg_X10_replace : mx_good MX10_replace := ⟨rfl, by decide +kernel, mq_362, by decide⟩
theorem mh_X10_replace : (parseMethodDescriptor MX10_replace.2.1.desc).map (fun d => d.parameters.length) = some 5 ∧ Cond.initialized MX10_replace.2.1.cls ∈ mx_tbl ∧ (MX10_replace.2.1.cls ≠ "java/lang/invoke/MethodHandle" ∧ MX10_replace.2.1.cls ≠ "java/lang/invoke/VarHandle") := ⟨by decide +kernel, mq_1, by decide +kernel, by decide +kernel⟩
theorem mg_X10_richest : mx_good MX10_richest := ⟨rfl, by decide +kernel, mq_479, by decide⟩
theorem mh_X10_richest : (parseMethodDescriptor MX10_richest.2.1.desc).map (fun d => d.parameters.length) = some 1 ∧ Cond.initialized MX10_richest.2.1.cls ∈ mx_tbl ∧ (MX10_richest.2.1.cls ≠ "java/lang/invoke/MethodHandle" ∧ MX10_richest.2.1.cls ≠ "java/lang/invoke/VarHandle") := ⟨by decide +kernel, mq_1, by decide +kernel, by decide +kernel⟩
theorem mg_X10_set : mx_good MX10_set := ⟨rfl, by decide +kernel, mq_358, by decide⟩
theorem mh_X10_set : (parseMethodDescriptor MX10_set.2.1.desc).map (fun d => d.parameters.length) = some 3 ∧ Cond.initialized MX10_set.2.1.cls ∈ mx_tbl ∧ (MX10_set.2.1.cls ≠ "java/lang/invoke/MethodHandle" ∧ MX10_set.2.1.cls ≠ "java/lang/invoke/VarHandle") := ⟨by decide +kernel, mq_1, by decide +kernel, by decide +kernel⟩
theorem mg_X10_setOf : mx_good MX10_setOf := ⟨rfl, by decide +kernel, mq_283, by decide⟩
theorem mh_X10_setOf : (parseMethodDescriptor MX10_setOf.2.1.desc).map (fun d => d.parameters.length) = some 1 ∧ Cond.initialized MX10_setOf.2.1.cls ∈ mx_tbl ∧ (MX10_setOf.2.1.cls ≠ "java/lang/invoke/MethodHandle" ∧ MX10_setOf.2.1.cls ≠ "java/lang/invoke/VarHandle") := ⟨by decide +kernel, mq_1, by decide +kernel, by decide +kernel⟩
theorem mg_X10_sheet : mx_good MX10_sheet := ⟨rfl, by decide +kernel, mq_636, by decide⟩
theorem mh_X10_sheet : (parseMethodDescriptor MX10_sheet.2.1.desc).map (fun d => d.parameters.length) = some 3 ∧ Cond.initialized MX10_sheet.2.1.cls ∈ mx_tbl ∧ (MX10_sheet.2.1.cls ≠ "java/lang/invoke/MethodHandle" ∧ MX10_sheet.2.1.cls ≠ "java/lang/invoke/VarHandle") := ⟨by decide +kernel, mq_1, by decide +kernel, by decide +kernel⟩
theorem mg_X10_status : mx_good MX10_status := ⟨rfl, by decide +kernel, mq_714, by decide⟩
theorem mh_X10_status : (parseMethodDescriptor MX10_status.2.1.desc).map (fun d => d.parameters.length) = some 1 ∧ Cond.initialized MX10_status.2.1.cls ∈ mx_tbl ∧ (MX10_status.2.1.cls ≠ "java/lang/invoke/MethodHandle" ∧ MX10_status.2.1.cls ≠ "java/lang/invoke/VarHandle") := ⟨by decide +kernel, mq_1, by decide +kernel, by decide +kernel⟩
theorem mg_X10_staysWithout : mx_good MX10_staysWithout := ⟨rfl, by decide +kernel, mq_494, by decide⟩
theorem mh_X10_staysWithout : (parseMethodDescriptor MX10_staysWithout.2.1.desc).map (fun d => d.parameters.length) = some 4 ∧ Cond.initialized MX10_staysWithout.2.1.cls ∈ mx_tbl ∧ (MX10_staysWithout.2.1.cls ≠ "java/lang/invoke/MethodHandle" ∧ MX10_staysWithout.2.1.cls ≠ "java/lang/invoke/VarHandle") := ⟨by decide +kernel, mq_1, by decide +kernel, by decide +kernel⟩
theorem mg_X10_tear : mx_good MX10_tear := ⟨rfl, by decide +kernel, mq_697, by decide⟩
theorem mh_X10_tear : (parseMethodDescriptor MX10_tear.2.1.desc).map (fun d => d.parameters.length) = some 0 ∧ Cond.initialized MX10_tear.2.1.cls ∈ mx_tbl ∧ (MX10_tear.2.1.cls ≠ "java/lang/invoke/MethodHandle" ∧ MX10_tear.2.1.cls ≠ "java/lang/invoke/VarHandle") := ⟨by decide +kernel, mq_1, by decide +kernel, by decide +kernel⟩
theorem mg_X10_turn : mx_good MX10_turn := ⟨rfl, by decide +kernel, mq_367, by decide⟩
theorem mh_X10_turn : (parseMethodDescriptor MX10_turn.2.1.desc).map (fun d => d.parameters.length) = some 2 ∧ Cond.initialized MX10_turn.2.1.cls ∈ mx_tbl ∧ (MX10_turn.2.1.cls ≠ "java/lang/invoke/MethodHandle" ∧ MX10_turn.2.1.cls ≠ "java/lang/invoke/VarHandle") := ⟨by decide +kernel, mq_1, by decide +kernel, by decide +kernel⟩
theorem mg_X10_undo : mx_good MX10_undo := ⟨rfl, by decide +kernel, mq_693, by decide⟩
theorem mh_X10_undo : (parseMethodDescriptor MX10_undo.2.1.desc).map (fun d => d.parameters.length) = some 0 ∧ Cond.initialized MX10_undo.2.1.cls ∈ mx_tbl ∧ (MX10_undo.2.1.cls ≠ "java/lang/invoke/MethodHandle" ∧ MX10_undo.2.1.cls ≠ "java/lang/invoke/VarHandle") := ⟨by decide +kernel, mq_1, by decide +kernel, by decide +kernel⟩
theorem mg_X10_who : mx_good MX10_who := ⟨rfl, by decide +kernel, mq_237, by decide⟩
theorem mh_X10_who : (parseMethodDescriptor MX10_who.2.1.desc).map (fun d => d.parameters.length) = some 1 ∧ Cond.initialized MX10_who.2.1.cls ∈ mx_tbl ∧ (MX10_who.2.1.cls ≠ "java/lang/invoke/MethodHandle" ∧ MX10_who.2.1.cls ≠ "java/lang/invoke/VarHandle") := ⟨by decide +kernel, mq_1, by decide +kernel, by decide +kernel⟩
theorem mg_X10_wipe : mx_good MX10_wipe := ⟨rfl, by decide +kernel, mq_506, by decide⟩
theorem mh_X10_wipe : (parseMethodDescriptor MX10_wipe.2.1.desc).map (fun d => d.parameters.length) = some 0 ∧ Cond.initialized MX10_wipe.2.1.cls ∈ mx_tbl ∧ (MX10_wipe.2.1.cls ≠ "java/lang/invoke/MethodHandle" ∧ MX10_wipe.2.1.cls ≠ "java/lang/invoke/VarHandle") := ⟨by decide +kernel, mq_1, by decide +kernel, by decide +kernel⟩
theorem mg_X10_worstIn : mx_good MX10_worstIn := ⟨rfl, by decide +kernel, mq_318, by decide⟩
theorem mh_X10_worstIn : (parseMethodDescriptor MX10_worstIn.2.1.desc).map (fun d => d.parameters.length) = some 2 ∧ Cond.initialized MX10_worstIn.2.1.cls ∈ mx_tbl ∧ (MX10_worstIn.2.1.cls ≠ "java/lang/invoke/MethodHandle" ∧ MX10_worstIn.2.1.cls ≠ "java/lang/invoke/VarHandle") := ⟨by decide +kernel, mq_1, by decide +kernel, by decide +kernel⟩
theorem mg_X10_worth : mx_good MX10_worth := ⟨rfl, by decide +kernel, mq_215, by decide⟩
theorem mh_X10_worth : (parseMethodDescriptor MX10_worth.2.1.desc).map (fun d => d.parameters.length) = some 2 ∧ Cond.initialized MX10_worth.2.1.cls ∈ mx_tbl ∧ (MX10_worth.2.1.cls ≠ "java/lang/invoke/MethodHandle" ∧ MX10_worth.2.1.cls ≠ "java/lang/invoke/VarHandle") := ⟨by decide +kernel, mq_1, by decide +kernel, by decide +kernel⟩
theorem mg_X10_worthOf : mx_good MX10_worthOf := ⟨rfl, by decide +kernel, mq_233, by decide⟩
theorem mh_X10_worthOf : (parseMethodDescriptor MX10_worthOf.2.1.desc).map (fun d => d.parameters.length) = some 1 ∧ Cond.initialized MX10_worthOf.2.1.cls ∈ mx_tbl ∧ (MX10_worthOf.2.1.cls ≠ "java/lang/invoke/MethodHandle" ∧ MX10_worthOf.2.1.cls ≠ "java/lang/invoke/VarHandle") := ⟨by decide +kernel, mq_1, by decide +kernel, by decide +kernel⟩
theorem mg_X10_write : mx_good MX10_write := ⟨rfl, by decide +kernel, mq_650, by decide⟩
theorem mh_X10_write : (parseMethodDescriptor MX10_write.2.1.desc).map (fun d => d.parameters.length) = some 3 ∧ Cond.initialized MX10_write.2.1.cls ∈ mx_tbl ∧ (MX10_write.2.1.cls ≠ "java/lang/invoke/MethodHandle" ∧ MX10_write.2.1.cls ≠ "java/lang/invoke/VarHandle") := ⟨by decide +kernel, mq_1, by decide +kernel, by decide +kernel⟩
theorem mg_X10_years : mx_good MX10_years := ⟨rfl, by decide +kernel, mq_404, by decide⟩
theorem mh_X10_years : (parseMethodDescriptor MX10_years.2.1.desc).map (fun d => d.parameters.length) = some 1 ∧ Cond.initialized MX10_years.2.1.cls ∈ mx_tbl ∧ (MX10_years.2.1.cls ≠ "java/lang/invoke/MethodHandle" ∧ MX10_years.2.1.cls ≠ "java/lang/invoke/VarHandle") := ⟨by decide +kernel, mq_1, by decide +kernel, by decide +kernel⟩
theorem mg_X11_adds : mx_good MX11_adds := ⟨rfl, by decide +kernel, mq_821, by decide⟩
theorem mh_X11_adds : (parseMethodDescriptor MX11_adds.2.1.desc).map (fun d => d.parameters.length) = some 4 ∧ Cond.initialized MX11_adds.2.1.cls ∈ mx_tbl ∧ (MX11_adds.2.1.cls ≠ "java/lang/invoke/MethodHandle" ∧ MX11_adds.2.1.cls ≠ "java/lang/invoke/VarHandle") := ⟨by decide +kernel, mq_12, by decide +kernel, by decide +kernel⟩
theorem mg_X11_advance : mx_good MX11_advance := ⟨rfl, by decide +kernel, mq_1014, by decide⟩
theorem mh_X11_advance : (parseMethodDescriptor MX11_advance.2.1.desc).map (fun d => d.parameters.length) = some 0 ∧ Cond.initialized MX11_advance.2.1.cls ∈ mx_tbl ∧ (MX11_advance.2.1.cls ≠ "java/lang/invoke/MethodHandle" ∧ MX11_advance.2.1.cls ≠ "java/lang/invoke/VarHandle") := ⟨by decide +kernel, mq_12, by decide +kernel, by decide +kernel⟩
theorem mg_X11_ages : mx_good MX11_ages := ⟨rfl, by decide +kernel, mq_924, by decide⟩
theorem mh_X11_ages : (parseMethodDescriptor MX11_ages.2.1.desc).map (fun d => d.parameters.length) = some 1 ∧ Cond.initialized MX11_ages.2.1.cls ∈ mx_tbl ∧ (MX11_ages.2.1.cls ≠ "java/lang/invoke/MethodHandle" ∧ MX11_ages.2.1.cls ≠ "java/lang/invoke/VarHandle") := ⟨by decide +kernel, mq_12, by decide +kernel, by decide +kernel⟩
theorem mg_X11_as : mx_good MX11_as := ⟨rfl, by decide +kernel, mq_883, by decide⟩
theorem mh_X11_as : (parseMethodDescriptor MX11_as.2.1.desc).map (fun d => d.parameters.length) = some 2 ∧ Cond.initialized MX11_as.2.1.cls ∈ mx_tbl ∧ (MX11_as.2.1.cls ≠ "java/lang/invoke/MethodHandle" ∧ MX11_as.2.1.cls ≠ "java/lang/invoke/VarHandle") := ⟨by decide +kernel, mq_12, by decide +kernel, by decide +kernel⟩
theorem mg_X11_badSheet : mx_good MX11_badSheet := ⟨rfl, by decide +kernel, mq_1097, by decide⟩
theorem mh_X11_badSheet : (parseMethodDescriptor MX11_badSheet.2.1.desc).map (fun d => d.parameters.length) = some 1 ∧ Cond.initialized MX11_badSheet.2.1.cls ∈ mx_tbl ∧ (MX11_badSheet.2.1.cls ≠ "java/lang/invoke/MethodHandle" ∧ MX11_badSheet.2.1.cls ≠ "java/lang/invoke/VarHandle") := ⟨by decide +kernel, mq_12, by decide +kernel, by decide +kernel⟩
theorem mg_X11_becomes : mx_good MX11_becomes := ⟨rfl, by decide +kernel, mq_792, by decide⟩
theorem mh_X11_becomes : (parseMethodDescriptor MX11_becomes.2.1.desc).map (fun d => d.parameters.length) = some 2 ∧ Cond.initialized MX11_becomes.2.1.cls ∈ mx_tbl ∧ (MX11_becomes.2.1.cls ≠ "java/lang/invoke/MethodHandle" ∧ MX11_becomes.2.1.cls ≠ "java/lang/invoke/VarHandle") := ⟨by decide +kernel, mq_12, by decide +kernel, by decide +kernel⟩
theorem mg_X11_best : mx_good MX11_best := ⟨rfl, by decide +kernel, mq_989, by decide⟩
theorem mh_X11_best : (parseMethodDescriptor MX11_best.2.1.desc).map (fun d => d.parameters.length) = some 2 ∧ Cond.initialized MX11_best.2.1.cls ∈ mx_tbl ∧ (MX11_best.2.1.cls ≠ "java/lang/invoke/MethodHandle" ∧ MX11_best.2.1.cls ≠ "java/lang/invoke/VarHandle") := ⟨by decide +kernel, mq_12, by decide +kernel, by decide +kernel⟩
theorem mg_X11_bestOf : mx_good MX11_bestOf := ⟨rfl, by decide +kernel, mq_841, by decide⟩
theorem mh_X11_bestOf : (parseMethodDescriptor MX11_bestOf.2.1.desc).map (fun d => d.parameters.length) = some 1 ∧ Cond.initialized MX11_bestOf.2.1.cls ∈ mx_tbl ∧ (MX11_bestOf.2.1.cls ≠ "java/lang/invoke/MethodHandle" ∧ MX11_bestOf.2.1.cls ≠ "java/lang/invoke/VarHandle") := ⟨by decide +kernel, mq_12, by decide +kernel, by decide +kernel⟩
theorem mg_X11_bits : mx_good MX11_bits := ⟨rfl, by decide +kernel, mq_858, by decide⟩
theorem mh_X11_bits : (parseMethodDescriptor MX11_bits.2.1.desc).map (fun d => d.parameters.length) = some 1 ∧ Cond.initialized MX11_bits.2.1.cls ∈ mx_tbl ∧ (MX11_bits.2.1.cls ≠ "java/lang/invoke/MethodHandle" ∧ MX11_bits.2.1.cls ≠ "java/lang/invoke/VarHandle") := ⟨by decide +kernel, mq_12, by decide +kernel, by decide +kernel⟩
theorem mg_X11_book : mx_good MX11_book := ⟨rfl, by decide +kernel, mq_1102, by decide⟩
theorem mh_X11_book : (parseMethodDescriptor MX11_book.2.1.desc).map (fun d => d.parameters.length) = some 2 ∧ Cond.initialized MX11_book.2.1.cls ∈ mx_tbl ∧ (MX11_book.2.1.cls ≠ "java/lang/invoke/MethodHandle" ∧ MX11_book.2.1.cls ≠ "java/lang/invoke/VarHandle") := ⟨by decide +kernel, mq_12, by decide +kernel, by decide +kernel⟩
theorem mg_X11_border : mx_good MX11_border := ⟨rfl, by decide +kernel, mq_901, by decide⟩
theorem mh_X11_border : (parseMethodDescriptor MX11_border.2.1.desc).map (fun d => d.parameters.length) = some 1 ∧ Cond.initialized MX11_border.2.1.cls ∈ mx_tbl ∧ (MX11_border.2.1.cls ≠ "java/lang/invoke/MethodHandle" ∧ MX11_border.2.1.cls ≠ "java/lang/invoke/VarHandle") := ⟨by decide +kernel, mq_12, by decide +kernel, by decide +kernel⟩
theorem mg_X11_burns : mx_good MX11_burns := ⟨rfl, by decide +kernel, mq_969, by decide⟩
theorem mh_X11_burns : (parseMethodDescriptor MX11_burns.2.1.desc).map (fun d => d.parameters.length) = some 1 ∧ Cond.initialized MX11_burns.2.1.cls ∈ mx_tbl ∧ (MX11_burns.2.1.cls ≠ "java/lang/invoke/MethodHandle" ∧ MX11_burns.2.1.cls ≠ "java/lang/invoke/VarHandle") := ⟨by decide +kernel, mq_12, by decide +kernel, by decide +kernel⟩
theorem mg_X11_but : mx_good MX11_but := ⟨rfl, by decide +kernel, mq_844, by decide⟩
theorem mh_X11_but : (parseMethodDescriptor MX11_but.2.1.desc).map (fun d => d.parameters.length) = some 2 ∧ Cond.initialized MX11_but.2.1.cls ∈ mx_tbl ∧ (MX11_but.2.1.cls ≠ "java/lang/invoke/MethodHandle" ∧ MX11_but.2.1.cls ≠ "java/lang/invoke/VarHandle") := ⟨by decide +kernel, mq_12, by decide +kernel, by decide +kernel⟩
theorem mg_X11_byteAt : mx_good MX11_byteAt := ⟨rfl, by decide +kernel, mq_1018, by decide⟩
theorem mh_X11_byteAt : (parseMethodDescriptor MX11_byteAt.2.1.desc).map (fun d => d.parameters.length) = some 1 ∧ Cond.initialized MX11_byteAt.2.1.cls ∈ mx_tbl ∧ (MX11_byteAt.2.1.cls ≠ "java/lang/invoke/MethodHandle" ∧ MX11_byteAt.2.1.cls ≠ "java/lang/invoke/VarHandle") := ⟨by decide +kernel, mq_12, by decide +kernel, by decide +kernel⟩
theorem mg_X11_copy : mx_good MX11_copy := ⟨rfl, by decide +kernel, mq_1085, by decide⟩
theorem mh_X11_copy : (parseMethodDescriptor MX11_copy.2.1.desc).map (fun d => d.parameters.length) = some 5 ∧ Cond.initialized MX11_copy.2.1.cls ∈ mx_tbl ∧ (MX11_copy.2.1.cls ≠ "java/lang/invoke/MethodHandle" ∧ MX11_copy.2.1.cls ≠ "java/lang/invoke/VarHandle") := ⟨by decide +kernel, mq_12, by decide +kernel, by decide +kernel⟩
theorem mg_X11_count : mx_good MX11_count := ⟨rfl, by decide +kernel, mq_1126, by decide⟩
theorem mh_X11_count : (parseMethodDescriptor MX11_count.2.1.desc).map (fun d => d.parameters.length) = some 1 ∧ Cond.initialized MX11_count.2.1.cls ∈ mx_tbl ∧ (MX11_count.2.1.cls ≠ "java/lang/invoke/MethodHandle" ∧ MX11_count.2.1.cls ≠ "java/lang/invoke/VarHandle") := ⟨by decide +kernel, mq_12, by decide +kernel, by decide +kernel⟩
theorem mg_X11_cousin : mx_good MX11_cousin := ⟨rfl, by decide +kernel, mq_973, by decide⟩
theorem mh_X11_cousin : (parseMethodDescriptor MX11_cousin.2.1.desc).map (fun d => d.parameters.length) = some 2 ∧ Cond.initialized MX11_cousin.2.1.cls ∈ mx_tbl ∧ (MX11_cousin.2.1.cls ≠ "java/lang/invoke/MethodHandle" ∧ MX11_cousin.2.1.cls ≠ "java/lang/invoke/VarHandle") := ⟨by decide +kernel, mq_12, by decide +kernel, by decide +kernel⟩
theorem mg_X11_crosses : mx_good MX11_crosses := ⟨rfl, by decide +kernel, mq_905, by decide⟩
theorem mh_X11_crosses : (parseMethodDescriptor MX11_crosses.2.1.desc).map (fun d => d.parameters.length) = some 1 ∧ Cond.initialized MX11_crosses.2.1.cls ∈ mx_tbl ∧ (MX11_crosses.2.1.cls ≠ "java/lang/invoke/MethodHandle" ∧ MX11_crosses.2.1.cls ≠ "java/lang/invoke/VarHandle") := ⟨by decide +kernel, mq_12, by decide +kernel, by decide +kernel⟩
theorem mg_X11_family : mx_good MX11_family := ⟨rfl, by decide +kernel, mq_1010, by decide⟩
theorem mh_X11_family : (parseMethodDescriptor MX11_family.2.1.desc).map (fun d => d.parameters.length) = some 0 ∧ Cond.initialized MX11_family.2.1.cls ∈ mx_tbl ∧ (MX11_family.2.1.cls ≠ "java/lang/invoke/MethodHandle" ∧ MX11_family.2.1.cls ≠ "java/lang/invoke/VarHandle") := ⟨by decide +kernel, mq_12, by decide +kernel, by decide +kernel⟩
theorem mg_X11_feed : mx_good MX11_feed := ⟨rfl, by decide +kernel, mq_1002, by decide⟩
theorem mh_X11_feed : (parseMethodDescriptor MX11_feed.2.1.desc).map (fun d => d.parameters.length) = some 2 ∧ Cond.initialized MX11_feed.2.1.cls ∈ mx_tbl ∧ (MX11_feed.2.1.cls ≠ "java/lang/invoke/MethodHandle" ∧ MX11_feed.2.1.cls ≠ "java/lang/invoke/VarHandle") := ⟨by decide +kernel, mq_12, by decide +kernel, by decide +kernel⟩
theorem mg_X11_fewest : mx_good MX11_fewest := ⟨rfl, by decide +kernel, mq_997, by decide⟩
theorem mh_X11_fewest : (parseMethodDescriptor MX11_fewest.2.1.desc).map (fun d => d.parameters.length) = some 3 ∧ Cond.initialized MX11_fewest.2.1.cls ∈ mx_tbl ∧ (MX11_fewest.2.1.cls ≠ "java/lang/invoke/MethodHandle" ∧ MX11_fewest.2.1.cls ≠ "java/lang/invoke/VarHandle") := ⟨by decide +kernel, mq_12, by decide +kernel, by decide +kernel⟩
theorem mg_X11_finds : mx_good MX11_finds := ⟨rfl, by decide +kernel, mq_797, by decide⟩
theorem mh_X11_finds : (parseMethodDescriptor MX11_finds.2.1.desc).map (fun d => d.parameters.length) = some 1 ∧ Cond.initialized MX11_finds.2.1.cls ∈ mx_tbl ∧ (MX11_finds.2.1.cls ≠ "java/lang/invoke/MethodHandle" ∧ MX11_finds.2.1.cls ≠ "java/lang/invoke/VarHandle") := ⟨by decide +kernel, mq_12, by decide +kernel, by decide +kernel⟩
theorem mg_X11_findsAt : mx_good MX11_findsAt := ⟨rfl, by decide +kernel, mq_862, by decide⟩
theorem mh_X11_findsAt : (parseMethodDescriptor MX11_findsAt.2.1.desc).map (fun d => d.parameters.length) = some 2 ∧ Cond.initialized MX11_findsAt.2.1.cls ∈ mx_tbl ∧ (MX11_findsAt.2.1.cls ≠ "java/lang/invoke/MethodHandle" ∧ MX11_findsAt.2.1.cls ≠ "java/lang/invoke/VarHandle") := ⟨by decide +kernel, mq_12, by decide +kernel, by decide +kernel⟩
theorem mg_X11_firstOf : mx_good MX11_firstOf := ⟨rfl, by decide +kernel, mq_960, by decide⟩
theorem mh_X11_firstOf : (parseMethodDescriptor MX11_firstOf.2.1.desc).map (fun d => d.parameters.length) = some 3 ∧ Cond.initialized MX11_firstOf.2.1.cls ∈ mx_tbl ∧ (MX11_firstOf.2.1.cls ≠ "java/lang/invoke/MethodHandle" ∧ MX11_firstOf.2.1.cls ≠ "java/lang/invoke/VarHandle") := ⟨by decide +kernel, mq_12, by decide +kernel, by decide +kernel⟩
theorem mg_X11_gets : mx_good MX11_gets := ⟨rfl, by decide +kernel, mq_956, by decide⟩
theorem mh_X11_gets : (parseMethodDescriptor MX11_gets.2.1.desc).map (fun d => d.parameters.length) = some 2 ∧ Cond.initialized MX11_gets.2.1.cls ∈ mx_tbl ∧ (MX11_gets.2.1.cls ≠ "java/lang/invoke/MethodHandle" ∧ MX11_gets.2.1.cls ≠ "java/lang/invoke/VarHandle") := ⟨by decide +kernel, mq_12, by decide +kernel, by decide +kernel⟩
theorem mg_X11_give : mx_good MX11_give := ⟨rfl, by decide +kernel, mq_888, by decide⟩
theorem mh_X11_give : (parseMethodDescriptor MX11_give.2.1.desc).map (fun d => d.parameters.length) = some 2 ∧ Cond.initialized MX11_give.2.1.cls ∈ mx_tbl ∧ (MX11_give.2.1.cls ≠ "java/lang/invoke/MethodHandle" ∧ MX11_give.2.1.cls ≠ "java/lang/invoke/VarHandle") := ⟨by decide +kernel, mq_12, by decide +kernel, by decide +kernel⟩
theorem mg_X11_hadByAny : mx_good MX11_hadByAny := ⟨rfl, by decide +kernel, mq_944, by decide⟩
theorem mh_X11_hadByAny : (parseMethodDescriptor MX11_hadByAny.2.1.desc).map (fun d => d.parameters.length) = some 0 ∧ Cond.initialized MX11_hadByAny.2.1.cls ∈ mx_tbl ∧ (MX11_hadByAny.2.1.cls ≠ "java/lang/invoke/MethodHandle" ∧ MX11_hadByAny.2.1.cls ≠ "java/lang/invoke/VarHandle") := ⟨by decide +kernel, mq_12, by decide +kernel, by decide +kernel⟩
theorem mg_X11_hand : mx_good MX11_hand := ⟨rfl, by decide +kernel, mq_896, by decide⟩
theorem mh_X11_hand : (parseMethodDescriptor MX11_hand.2.1.desc).map (fun d => d.parameters.length) = some 3 ∧ Cond.initialized MX11_hand.2.1.cls ∈ mx_tbl ∧ (MX11_hand.2.1.cls ≠ "java/lang/invoke/MethodHandle" ∧ MX11_hand.2.1.cls ≠ "java/lang/invoke/VarHandle") := ⟨by decide +kernel, mq_12, by decide +kernel, by decide +kernel⟩
theorem mg_X11_has : mx_good MX11_has := ⟨rfl, by decide +kernel, mq_892, by decide⟩
theorem mh_X11_has : (parseMethodDescriptor MX11_has.2.1.desc).map (fun d => d.parameters.length) = some 2 ∧ Cond.initialized MX11_has.2.1.cls ∈ mx_tbl ∧ (MX11_has.2.1.cls ≠ "java/lang/invoke/MethodHandle" ∧ MX11_has.2.1.cls ≠ "java/lang/invoke/VarHandle") := ⟨by decide +kernel, mq_12, by decide +kernel, by decide +kernel⟩
theorem mg_X11_held : mx_good MX11_held := ⟨rfl, by decide +kernel, mq_908, by decide⟩
theorem mh_X11_held : (parseMethodDescriptor MX11_held.2.1.desc).map (fun d => d.parameters.length) = some 3 ∧ Cond.initialized MX11_held.2.1.cls ∈ mx_tbl ∧ (MX11_held.2.1.cls ≠ "java/lang/invoke/MethodHandle" ∧ MX11_held.2.1.cls ≠ "java/lang/invoke/VarHandle") := ⟨by decide +kernel, mq_12, by decide +kernel, by decide +kernel⟩
theorem mg_X11_image : mx_good MX11_image := ⟨rfl, by decide +kernel, mq_1114, by decide⟩
theorem mh_X11_image : (parseMethodDescriptor MX11_image.2.1.desc).map (fun d => d.parameters.length) = some 0 ∧ Cond.initialized MX11_image.2.1.cls ∈ mx_tbl ∧ (MX11_image.2.1.cls ≠ "java/lang/invoke/MethodHandle" ∧ MX11_image.2.1.cls ≠ "java/lang/invoke/VarHandle") := ⟨by decide +kernel, mq_12, by decide +kernel, by decide +kernel⟩
theorem mg_X11_in : mx_good MX11_in := ⟨rfl, by decide +kernel, mq_788, by decide⟩
theorem mh_X11_in : (parseMethodDescriptor MX11_in.2.1.desc).map (fun d => d.parameters.length) = some 3 ∧ Cond.initialized MX11_in.2.1.cls ∈ mx_tbl ∧ (MX11_in.2.1.cls ≠ "java/lang/invoke/MethodHandle" ∧ MX11_in.2.1.cls ≠ "java/lang/invoke/VarHandle") := ⟨by decide +kernel, mq_12, by decide +kernel, by decide +kernel⟩
theorem mg_X11_init : mx_good MX11_init := ⟨rfl, by decide +kernel, mq_719, by decide⟩
theorem mh_X11_init : (parseMethodDescriptor MX11_init.2.1.desc).map (fun d => d.parameters.length) = some 0 ∧ Cond.initialized MX11_init.2.1.cls ∈ mx_tbl ∧ (MX11_init.2.1.cls ≠ "java/lang/invoke/MethodHandle" ∧ MX11_init.2.1.cls ≠ "java/lang/invoke/VarHandle") := ⟨by decide +kernel, mq_12, by decide +kernel, by decide +kernel⟩
theorem mg_X11_isDigit : mx_good MX11_isDigit := ⟨rfl, by decide +kernel, mq_1024, by decide⟩
theorem mh_X11_isDigit : (parseMethodDescriptor MX11_isDigit.2.1.desc).map (fun d => d.parameters.length) = some 1 ∧ Cond.initialized MX11_isDigit.2.1.cls ∈ mx_tbl ∧ (MX11_isDigit.2.1.cls ≠ "java/lang/invoke/MethodHandle" ∧ MX11_isDigit.2.1.cls ≠ "java/lang/invoke/VarHandle") := ⟨by decide +kernel, mq_12, by decide +kernel, by decide +kernel⟩
theorem mg_X11_isKind : mx_good MX11_isKind := ⟨rfl, by decide +kernel, mq_816, by decide⟩
theorem mh_X11_isKind : (parseMethodDescriptor MX11_isKind.2.1.desc).map (fun d => d.parameters.length) = some 1 ∧ Cond.initialized MX11_isKind.2.1.cls ∈ mx_tbl ∧ (MX11_isKind.2.1.cls ≠ "java/lang/invoke/MethodHandle" ∧ MX11_isKind.2.1.cls ≠ "java/lang/invoke/VarHandle") := ⟨by decide +kernel, mq_12, by decide +kernel, by decide +kernel⟩
theorem mg_X11_isLetter : mx_good MX11_isLetter := ⟨rfl, by decide +kernel, mq_1021, by decide⟩
theorem mh_X11_isLetter : (parseMethodDescriptor MX11_isLetter.2.1.desc).map (fun d => d.parameters.length) = some 1 ∧ Cond.initialized MX11_isLetter.2.1.cls ∈ mx_tbl ∧ (MX11_isLetter.2.1.cls ≠ "java/lang/invoke/MethodHandle" ∧ MX11_isLetter.2.1.cls ≠ "java/lang/invoke/VarHandle") := ⟨by decide +kernel, mq_12, by decide +kernel, by decide +kernel⟩
theorem mg_X11_isOne : mx_good MX11_isOne := ⟨rfl, by decide +kernel, mq_833, by decide⟩
theorem mh_X11_isOne : (parseMethodDescriptor MX11_isOne.2.1.desc).map (fun d => d.parameters.length) = some 1 ∧ Cond.initialized MX11_isOne.2.1.cls ∈ mx_tbl ∧ (MX11_isOne.2.1.cls ≠ "java/lang/invoke/MethodHandle" ∧ MX11_isOne.2.1.cls ≠ "java/lang/invoke/VarHandle") := ⟨by decide +kernel, mq_12, by decide +kernel, by decide +kernel⟩
theorem mg_X11_isPart : mx_good MX11_isPart := ⟨rfl, by decide +kernel, mq_874, by decide⟩
theorem mh_X11_isPart : (parseMethodDescriptor MX11_isPart.2.1.desc).map (fun d => d.parameters.length) = some 2 ∧ Cond.initialized MX11_isPart.2.1.cls ∈ mx_tbl ∧ (MX11_isPart.2.1.cls ≠ "java/lang/invoke/MethodHandle" ∧ MX11_isPart.2.1.cls ≠ "java/lang/invoke/VarHandle") := ⟨by decide +kernel, mq_12, by decide +kernel, by decide +kernel⟩
theorem mg_X11_isPart_ : mx_good MX11_isPart_ := ⟨rfl, by decide +kernel, mq_1089, by decide⟩
theorem mh_X11_isPart_ : (parseMethodDescriptor MX11_isPart_.2.1.desc).map (fun d => d.parameters.length) = some 3 ∧ Cond.initialized MX11_isPart_.2.1.cls ∈ mx_tbl ∧ (MX11_isPart_.2.1.cls ≠ "java/lang/invoke/MethodHandle" ∧ MX11_isPart_.2.1.cls ≠ "java/lang/invoke/VarHandle") := ⟨by decide +kernel, mq_12, by decide +kernel, by decide +kernel⟩
theorem mg_X11_isSheet : mx_good MX11_isSheet := ⟨rfl, by decide +kernel, mq_1073, by decide⟩
theorem mh_X11_isSheet : (parseMethodDescriptor MX11_isSheet.2.1.desc).map (fun d => d.parameters.length) = some 1 ∧ Cond.initialized MX11_isSheet.2.1.cls ∈ mx_tbl ∧ (MX11_isSheet.2.1.cls ≠ "java/lang/invoke/MethodHandle" ∧ MX11_isSheet.2.1.cls ≠ "java/lang/invoke/VarHandle") := ⟨by decide +kernel, mq_12, by decide +kernel, by decide +kernel⟩
theorem mg_X11_isSo : mx_good MX11_isSo := ⟨rfl, by decide +kernel, mq_1110, by decide⟩
theorem mh_X11_isSo : (parseMethodDescriptor MX11_isSo.2.1.desc).map (fun d => d.parameters.length) = some 2 ∧ Cond.initialized MX11_isSo.2.1.cls ∈ mx_tbl ∧ (MX11_isSo.2.1.cls ≠ "java/lang/invoke/MethodHandle" ∧ MX11_isSo.2.1.cls ≠ "java/lang/invoke/VarHandle") := ⟨by decide +kernel, mq_12, by decide +kernel, by decide +kernel⟩
theorem mg_X11_isThing : mx_good MX11_isThing := ⟨rfl, by decide +kernel, mq_785, by decide⟩
theorem mh_X11_isThing : (parseMethodDescriptor MX11_isThing.2.1.desc).map (fun d => d.parameters.length) = some 1 ∧ Cond.initialized MX11_isThing.2.1.cls ∈ mx_tbl ∧ (MX11_isThing.2.1.cls ≠ "java/lang/invoke/MethodHandle" ∧ MX11_isThing.2.1.cls ≠ "java/lang/invoke/VarHandle") := ⟨by decide +kernel, mq_12, by decide +kernel, by decide +kernel⟩
theorem mg_X11_isWord : mx_good MX11_isWord := ⟨rfl, by decide +kernel, mq_1040, by decide⟩
theorem mh_X11_isWord : (parseMethodDescriptor MX11_isWord.2.1.desc).map (fun d => d.parameters.length) = some 1 ∧ Cond.initialized MX11_isWord.2.1.cls ∈ mx_tbl ∧ (MX11_isWord.2.1.cls ≠ "java/lang/invoke/MethodHandle" ∧ MX11_isWord.2.1.cls ≠ "java/lang/invoke/VarHandle") := ⟨by decide +kernel, mq_12, by decide +kernel, by decide +kernel⟩
theorem mg_X11_its : mx_good MX11_its := ⟨rfl, by decide +kernel, mq_809, by decide⟩
theorem mh_X11_its : (parseMethodDescriptor MX11_its.2.1.desc).map (fun d => d.parameters.length) = some 2 ∧ Cond.initialized MX11_its.2.1.cls ∈ mx_tbl ∧ (MX11_its.2.1.cls ≠ "java/lang/invoke/MethodHandle" ∧ MX11_its.2.1.cls ≠ "java/lang/invoke/VarHandle") := ⟨by decide +kernel, mq_12, by decide +kernel, by decide +kernel⟩
theorem mg_X11_keep : mx_good MX11_keep := ⟨rfl, by decide +kernel, mq_985, by decide⟩
theorem mh_X11_keep : (parseMethodDescriptor MX11_keep.2.1.desc).map (fun d => d.parameters.length) = some 3 ∧ Cond.initialized MX11_keep.2.1.cls ∈ mx_tbl ∧ (MX11_keep.2.1.cls ≠ "java/lang/invoke/MethodHandle" ∧ MX11_keep.2.1.cls ≠ "java/lang/invoke/VarHandle") := ⟨by decide +kernel, mq_12, by decide +kernel, by decide +kernel⟩
theorem mg_X11_kind : mx_good MX11_kind := ⟨rfl, by decide +kernel, mq_981, by decide⟩
theorem mh_X11_kind : (parseMethodDescriptor MX11_kind.2.1.desc).map (fun d => d.parameters.length) = some 2 ∧ Cond.initialized MX11_kind.2.1.cls ∈ mx_tbl ∧ (MX11_kind.2.1.cls ≠ "java/lang/invoke/MethodHandle" ∧ MX11_kind.2.1.cls ≠ "java/lang/invoke/VarHandle") := ⟨by decide +kernel, mq_12, by decide +kernel, by decide +kernel⟩
theorem mg_X11_kindHere : mx_good MX11_kindHere := ⟨rfl, by decide +kernel, mq_1035, by decide⟩
theorem mh_X11_kindHere : (parseMethodDescriptor MX11_kindHere.2.1.desc).map (fun d => d.parameters.length) = some 0 ∧ Cond.initialized MX11_kindHere.2.1.cls ∈ mx_tbl ∧ (MX11_kindHere.2.1.cls ≠ "java/lang/invoke/MethodHandle" ∧ MX11_kindHere.2.1.cls ≠ "java/lang/invoke/VarHandle") := ⟨by decide +kernel, mq_12, by decide +kernel, by decide +kernel⟩
theorem mg_X11_lastOf : mx_good MX11_lastOf := ⟨rfl, by decide +kernel, mq_855, by decide⟩
theorem mh_X11_lastOf : (parseMethodDescriptor MX11_lastOf.2.1.desc).map (fun d => d.parameters.length) = some 1 ∧ Cond.initialized MX11_lastOf.2.1.cls ∈ mx_tbl ∧ (MX11_lastOf.2.1.cls ≠ "java/lang/invoke/MethodHandle" ∧ MX11_lastOf.2.1.cls ≠ "java/lang/invoke/VarHandle") := ⟨by decide +kernel, mq_12, by decide +kernel, by decide +kernel⟩
theorem mg_X11_lays : mx_good MX11_lays := ⟨rfl, by decide +kernel, mq_1093, by decide⟩
theorem mh_X11_lays : (parseMethodDescriptor MX11_lays.2.1.desc).map (fun d => d.parameters.length) = some 1 ∧ Cond.initialized MX11_lays.2.1.cls ∈ mx_tbl ∧ (MX11_lays.2.1.cls ≠ "java/lang/invoke/MethodHandle" ∧ MX11_lays.2.1.cls ≠ "java/lang/invoke/VarHandle") := ⟨by decide +kernel, mq_12, by decide +kernel, by decide +kernel⟩
theorem mg_X11_loses : mx_good MX11_loses := ⟨rfl, by decide +kernel, mq_965, by decide⟩
theorem mh_X11_loses : (parseMethodDescriptor MX11_loses.2.1.desc).map (fun d => d.parameters.length) = some 2 ∧ Cond.initialized MX11_loses.2.1.cls ∈ mx_tbl ∧ (MX11_loses.2.1.cls ≠ "java/lang/invoke/MethodHandle" ∧ MX11_loses.2.1.cls ≠ "java/lang/invoke/VarHandle") := ⟨by decide +kernel, mq_12, by decide +kernel, by decide +kernel⟩
theorem mg_X11_mayHave : mx_good MX11_mayHave := ⟨rfl, by decide +kernel, mq_1062, by decide⟩
theorem mh_X11_mayHave : (parseMethodDescriptor MX11_mayHave.2.1.desc).map (fun d => d.parameters.length) = some 0 ∧ Cond.initialized MX11_mayHave.2.1.cls ∈ mx_tbl ∧ (MX11_mayHave.2.1.cls ≠ "java/lang/invoke/MethodHandle" ∧ MX11_mayHave.2.1.cls ≠ "java/lang/invoke/VarHandle") := ⟨by decide +kernel, mq_12, by decide +kernel, by decide +kernel⟩
theorem mg_X11_mayWant : mx_good MX11_mayWant := ⟨rfl, by decide +kernel, mq_1054, by decide⟩
theorem mh_X11_mayWant : (parseMethodDescriptor MX11_mayWant.2.1.desc).map (fun d => d.parameters.length) = some 4 ∧ Cond.initialized MX11_mayWant.2.1.cls ∈ mx_tbl ∧ (MX11_mayWant.2.1.cls ≠ "java/lang/invoke/MethodHandle" ∧ MX11_mayWant.2.1.cls ≠ "java/lang/invoke/VarHandle") := ⟨by decide +kernel, mq_12, by decide +kernel, by decide +kernel⟩
theorem mg_X11_moveAll : mx_good MX11_moveAll := ⟨rfl, by decide +kernel, mq_952, by decide⟩
theorem mh_X11_moveAll : (parseMethodDescriptor MX11_moveAll.2.1.desc).map (fun d => d.parameters.length) = some 2 ∧ Cond.initialized MX11_moveAll.2.1.cls ∈ mx_tbl ∧ (MX11_moveAll.2.1.cls ≠ "java/lang/invoke/MethodHandle" ∧ MX11_moveAll.2.1.cls ≠ "java/lang/invoke/VarHandle") := ⟨by decide +kernel, mq_12, by decide +kernel, by decide +kernel⟩
theorem mg_X11_narrow : mx_good MX11_narrow := ⟨rfl, by decide +kernel, mq_1081, by decide⟩
theorem mh_X11_narrow : (parseMethodDescriptor MX11_narrow.2.1.desc).map (fun d => d.parameters.length) = some 2 ∧ Cond.initialized MX11_narrow.2.1.cls ∈ mx_tbl ∧ (MX11_narrow.2.1.cls ≠ "java/lang/invoke/MethodHandle" ∧ MX11_narrow.2.1.cls ≠ "java/lang/invoke/VarHandle") := ⟨by decide +kernel, mq_12, by decide +kernel, by decide +kernel⟩
theorem mg_X11_now : mx_good MX11_now := ⟨rfl, by decide +kernel, mq_932, by decide⟩
theorem mh_X11_now : (parseMethodDescriptor MX11_now.2.1.desc).map (fun d => d.parameters.length) = some 1 ∧ Cond.initialized MX11_now.2.1.cls ∈ mx_tbl ∧ (MX11_now.2.1.cls ≠ "java/lang/invoke/MethodHandle" ∧ MX11_now.2.1.cls ≠ "java/lang/invoke/VarHandle") := ⟨by decide +kernel, mq_12, by decide +kernel, by decide +kernel⟩
theorem mg_X11_of : mx_good MX11_of := ⟨rfl, by decide +kernel, mq_829, by decide⟩
theorem mh_X11_of : (parseMethodDescriptor MX11_of.2.1.desc).map (fun d => d.parameters.length) = some 2 ∧ Cond.initialized MX11_of.2.1.cls ∈ mx_tbl ∧ (MX11_of.2.1.cls ≠ "java/lang/invoke/MethodHandle" ∧ MX11_of.2.1.cls ≠ "java/lang/invoke/VarHandle") := ⟨by decide +kernel, mq_12, by decide +kernel, by decide +kernel⟩
theorem mg_X11_oldest : mx_good MX11_oldest := ⟨rfl, by decide +kernel, mq_936, by decide⟩
theorem mh_X11_oldest : (parseMethodDescriptor MX11_oldest.2.1.desc).map (fun d => d.parameters.length) = some 0 ∧ Cond.initialized MX11_oldest.2.1.cls ∈ mx_tbl ∧ (MX11_oldest.2.1.cls ≠ "java/lang/invoke/MethodHandle" ∧ MX11_oldest.2.1.cls ≠ "java/lang/invoke/VarHandle") := ⟨by decide +kernel, mq_12, by decide +kernel, by decide +kernel⟩
theorem mg_X11_on : mx_good MX11_on := ⟨rfl, by decide +kernel, mq_948, by decide⟩
theorem mh_X11_on : (parseMethodDescriptor MX11_on.2.1.desc).map (fun d => d.parameters.length) = some 3 ∧ Cond.initialized MX11_on.2.1.cls ∈ mx_tbl ∧ (MX11_on.2.1.cls ≠ "java/lang/invoke/MethodHandle" ∧ MX11_on.2.1.cls ≠ "java/lang/invoke/VarHandle") := ⟨by decide +kernel, mq_12, by decide +kernel, by decide +kernel⟩
theorem mg_X11_oneYear : mx_good MX11_oneYear := ⟨rfl, by decide +kernel, mq_920, by decide⟩
theorem mh_X11_oneYear : (parseMethodDescriptor MX11_oneYear.2.1.desc).map (fun d => d.parameters.length) = some 0 ∧ Cond.initialized MX11_oneYear.2.1.cls ∈ mx_tbl ∧ (MX11_oneYear.2.1.cls ≠ "java/lang/invoke/MethodHandle" ∧ MX11_oneYear.2.1.cls ≠ "java/lang/invoke/VarHandle") := ⟨by decide +kernel, mq_12, by decide +kernel, by decide +kernel⟩
theorem mg_X11_passes : mx_good MX11_passes := ⟨rfl, by decide +kernel, mq_916, by decide⟩
theorem mh_X11_passes : (parseMethodDescriptor MX11_passes.2.1.desc).map (fun d => d.parameters.length) = some 1 ∧ Cond.initialized MX11_passes.2.1.cls ∈ mx_tbl ∧ (MX11_passes.2.1.cls ≠ "java/lang/invoke/MethodHandle" ∧ MX11_passes.2.1.cls ≠ "java/lang/invoke/VarHandle") := ⟨by decide +kernel, mq_12, by decide +kernel, by decide +kernel⟩
theorem mg_X11_person : mx_good MX11_person := ⟨rfl, by decide +kernel, mq_813, by decide⟩
theorem mh_X11_person : (parseMethodDescriptor MX11_person.2.1.desc).map (fun d => d.parameters.length) = some 1 ∧ Cond.initialized MX11_person.2.1.cls ∈ mx_tbl ∧ (MX11_person.2.1.cls ≠ "java/lang/invoke/MethodHandle" ∧ MX11_person.2.1.cls ≠ "java/lang/invoke/VarHandle") := ⟨by decide +kernel, mq_12, by decide +kernel, by decide +kernel⟩
theorem mg_X11_puts : mx_good MX11_puts := ⟨rfl, by decide +kernel, mq_825, by decide⟩
theorem mh_X11_puts : (parseMethodDescriptor MX11_puts.2.1.desc).map (fun d => d.parameters.length) = some 3 ∧ Cond.initialized MX11_puts.2.1.cls ∈ mx_tbl ∧ (MX11_puts.2.1.cls ≠ "java/lang/invoke/MethodHandle" ∧ MX11_puts.2.1.cls ≠ "java/lang/invoke/VarHandle") := ⟨by decide +kernel, mq_12, by decide +kernel, by decide +kernel⟩
theorem mg_X11_read : mx_good MX11_read := ⟨rfl, by decide +kernel, mq_1106, by decide⟩
theorem mh_X11_read : (parseMethodDescriptor MX11_read.2.1.desc).map (fun d => d.parameters.length) = some 2 ∧ Cond.initialized MX11_read.2.1.cls ∈ mx_tbl ∧ (MX11_read.2.1.cls ≠ "java/lang/invoke/MethodHandle" ∧ MX11_read.2.1.cls ≠ "java/lang/invoke/VarHandle") := ⟨by decide +kernel, mq_12, by decide +kernel, by decide +kernel⟩
theorem mg_X11_richest : mx_good MX11_richest := ⟨rfl, by decide +kernel, mq_993, by decide⟩
theorem mh_X11_richest : (parseMethodDescriptor MX11_richest.2.1.desc).map (fun d => d.parameters.length) = some 1 ∧ Cond.initialized MX11_richest.2.1.cls ∈ mx_tbl ∧ (MX11_richest.2.1.cls ≠ "java/lang/invoke/MethodHandle" ∧ MX11_richest.2.1.cls ≠ "java/lang/invoke/VarHandle") := ⟨by decide +kernel, mq_12, by decide +kernel, by decide +kernel⟩
theorem mg_X11_set : mx_good MX11_set := ⟨rfl, by decide +kernel, mq_870, by decide⟩
theorem mh_X11_set : (parseMethodDescriptor MX11_set.2.1.desc).map (fun d => d.parameters.length) = some 3 ∧ Cond.initialized MX11_set.2.1.cls ∈ mx_tbl ∧ (MX11_set.2.1.cls ≠ "java/lang/invoke/MethodHandle" ∧ MX11_set.2.1.cls ≠ "java/lang/invoke/VarHandle") := ⟨by decide +kernel, mq_12, by decide +kernel, by decide +kernel⟩
theorem mg_X11_sheet : mx_good MX11_sheet := ⟨rfl, by decide +kernel, mq_1070, by decide⟩
theorem mh_X11_sheet : (parseMethodDescriptor MX11_sheet.2.1.desc).map (fun d => d.parameters.length) = some 3 ∧ Cond.initialized MX11_sheet.2.1.cls ∈ mx_tbl ∧ (MX11_sheet.2.1.cls ≠ "java/lang/invoke/MethodHandle" ∧ MX11_sheet.2.1.cls ≠ "java/lang/invoke/VarHandle") := ⟨by decide +kernel, mq_12, by decide +kernel, by decide +kernel⟩
theorem mg_X11_shows : mx_good MX11_shows := ⟨rfl, by decide +kernel, mq_837, by decide⟩
theorem mh_X11_shows : (parseMethodDescriptor MX11_shows.2.1.desc).map (fun d => d.parameters.length) = some 1 ∧ Cond.initialized MX11_shows.2.1.cls ∈ mx_tbl ∧ (MX11_shows.2.1.cls ≠ "java/lang/invoke/MethodHandle" ∧ MX11_shows.2.1.cls ≠ "java/lang/invoke/VarHandle") := ⟨by decide +kernel, mq_12, by decide +kernel, by decide +kernel⟩
theorem mg_X11_status : mx_good MX11_status := ⟨rfl, by decide +kernel, mq_1134, by decide⟩
theorem mh_X11_status : (parseMethodDescriptor MX11_status.2.1.desc).map (fun d => d.parameters.length) = some 1 ∧ Cond.initialized MX11_status.2.1.cls ∈ mx_tbl ∧ (MX11_status.2.1.cls ≠ "java/lang/invoke/MethodHandle" ∧ MX11_status.2.1.cls ≠ "java/lang/invoke/VarHandle") := ⟨by decide +kernel, mq_12, by decide +kernel, by decide +kernel⟩
theorem mg_X11_sumOf : mx_good MX11_sumOf := ⟨rfl, by decide +kernel, mq_928, by decide⟩
theorem mh_X11_sumOf : (parseMethodDescriptor MX11_sumOf.2.1.desc).map (fun d => d.parameters.length) = some 1 ∧ Cond.initialized MX11_sumOf.2.1.cls ∈ mx_tbl ∧ (MX11_sumOf.2.1.cls ≠ "java/lang/invoke/MethodHandle" ∧ MX11_sumOf.2.1.cls ≠ "java/lang/invoke/VarHandle") := ⟨by decide +kernel, mq_12, by decide +kernel, by decide +kernel⟩
theorem mg_X11_taken : mx_good MX11_taken := ⟨rfl, by decide +kernel, mq_848, by decide⟩
theorem mh_X11_taken : (parseMethodDescriptor MX11_taken.2.1.desc).map (fun d => d.parameters.length) = some 1 ∧ Cond.initialized MX11_taken.2.1.cls ∈ mx_tbl ∧ (MX11_taken.2.1.cls ≠ "java/lang/invoke/MethodHandle" ∧ MX11_taken.2.1.cls ≠ "java/lang/invoke/VarHandle") := ⟨by decide +kernel, mq_12, by decide +kernel, by decide +kernel⟩
theorem mg_X11_tear : mx_good MX11_tear := ⟨rfl, by decide +kernel, mq_1122, by decide⟩
theorem mh_X11_tear : (parseMethodDescriptor MX11_tear.2.1.desc).map (fun d => d.parameters.length) = some 0 ∧ Cond.initialized MX11_tear.2.1.cls ∈ mx_tbl ∧ (MX11_tear.2.1.cls ≠ "java/lang/invoke/MethodHandle" ∧ MX11_tear.2.1.cls ≠ "java/lang/invoke/VarHandle") := ⟨by decide +kernel, mq_12, by decide +kernel, by decide +kernel⟩
theorem mg_X11_thingsOf : mx_good MX11_thingsOf := ⟨rfl, by decide +kernel, mq_1130, by decide⟩
theorem mh_X11_thingsOf : (parseMethodDescriptor MX11_thingsOf.2.1.desc).map (fun d => d.parameters.length) = some 0 ∧ Cond.initialized MX11_thingsOf.2.1.cls ∈ mx_tbl ∧ (MX11_thingsOf.2.1.cls ≠ "java/lang/invoke/MethodHandle" ∧ MX11_thingsOf.2.1.cls ≠ "java/lang/invoke/VarHandle") := ⟨by decide +kernel, mq_12, by decide +kernel, by decide +kernel⟩
theorem mg_X11_turn : mx_good MX11_turn := ⟨rfl, by decide +kernel, mq_879, by decide⟩
theorem mh_X11_turn : (parseMethodDescriptor MX11_turn.2.1.desc).map (fun d => d.parameters.length) = some 2 ∧ Cond.initialized MX11_turn.2.1.cls ∈ mx_tbl ∧ (MX11_turn.2.1.cls ≠ "java/lang/invoke/MethodHandle" ∧ MX11_turn.2.1.cls ≠ "java/lang/invoke/VarHandle") := ⟨by decide +kernel, mq_12, by decide +kernel, by decide +kernel⟩
theorem mg_X11_undo : mx_good MX11_undo := ⟨rfl, by decide +kernel, mq_1118, by decide⟩
theorem mh_X11_undo : (parseMethodDescriptor MX11_undo.2.1.desc).map (fun d => d.parameters.length) = some 0 ∧ Cond.initialized MX11_undo.2.1.cls ∈ mx_tbl ∧ (MX11_undo.2.1.cls ≠ "java/lang/invoke/MethodHandle" ∧ MX11_undo.2.1.cls ≠ "java/lang/invoke/VarHandle") := ⟨by decide +kernel, mq_12, by decide +kernel, by decide +kernel⟩
theorem mg_X11_valueOf : mx_good MX11_valueOf := ⟨rfl, by decide +kernel, mq_866, by decide⟩
theorem mh_X11_valueOf : (parseMethodDescriptor MX11_valueOf.2.1.desc).map (fun d => d.parameters.length) = some 1 ∧ Cond.initialized MX11_valueOf.2.1.cls ∈ mx_tbl ∧ (MX11_valueOf.2.1.cls ≠ "java/lang/invoke/MethodHandle" ∧ MX11_valueOf.2.1.cls ≠ "java/lang/invoke/VarHandle") := ⟨by decide +kernel, mq_12, by decide +kernel, by decide +kernel⟩
theorem mg_X11_valueOfAll : mx_good MX11_valueOfAll := ⟨rfl, by decide +kernel, mq_940, by decide⟩
theorem mh_X11_valueOfAll : (parseMethodDescriptor MX11_valueOfAll.2.1.desc).map (fun d => d.parameters.length) = some 0 ∧ Cond.initialized MX11_valueOfAll.2.1.cls ∈ mx_tbl ∧ (MX11_valueOfAll.2.1.cls ≠ "java/lang/invoke/MethodHandle" ∧ MX11_valueOfAll.2.1.cls ≠ "java/lang/invoke/VarHandle") := ⟨by decide +kernel, mq_12, by decide +kernel, by decide +kernel⟩
theorem mg_X11_valueWith : mx_good MX11_valueWith := ⟨rfl, by decide +kernel, mq_977, by decide⟩
theorem mh_X11_valueWith : (parseMethodDescriptor MX11_valueWith.2.1.desc).map (fun d => d.parameters.length) = some 4 ∧ Cond.initialized MX11_valueWith.2.1.cls ∈ mx_tbl ∧ (MX11_valueWith.2.1.cls ≠ "java/lang/invoke/MethodHandle" ∧ MX11_valueWith.2.1.cls ≠ "java/lang/invoke/VarHandle") := ⟨by decide +kernel, mq_12, by decide +kernel, by decide +kernel⟩
theorem mg_X11_wantItem : mx_good MX11_wantItem := ⟨rfl, by decide +kernel, mq_1031, by decide⟩
theorem mh_X11_wantItem : (parseMethodDescriptor MX11_wantItem.2.1.desc).map (fun d => d.parameters.length) = some 0 ∧ Cond.initialized MX11_wantItem.2.1.cls ∈ mx_tbl ∧ (MX11_wantItem.2.1.cls ≠ "java/lang/invoke/MethodHandle" ∧ MX11_wantItem.2.1.cls ≠ "java/lang/invoke/VarHandle") := ⟨by decide +kernel, mq_12, by decide +kernel, by decide +kernel⟩
theorem mg_X11_wantNumber : mx_good MX11_wantNumber := ⟨rfl, by decide +kernel, mq_1058, by decide⟩
theorem mh_X11_wantNumber : (parseMethodDescriptor MX11_wantNumber.2.1.desc).map (fun d => d.parameters.length) = some 2 ∧ Cond.initialized MX11_wantNumber.2.1.cls ∈ mx_tbl ∧ (MX11_wantNumber.2.1.cls ≠ "java/lang/invoke/MethodHandle" ∧ MX11_wantNumber.2.1.cls ≠ "java/lang/invoke/VarHandle") := ⟨by decide +kernel, mq_12, by decide +kernel, by decide +kernel⟩
theorem mg_X11_wantOne : mx_good MX11_wantOne := ⟨rfl, by decide +kernel, mq_1049, by decide⟩
theorem mh_X11_wantOne : (parseMethodDescriptor MX11_wantOne.2.1.desc).map (fun d => d.parameters.length) = some 1 ∧ Cond.initialized MX11_wantOne.2.1.cls ∈ mx_tbl ∧ (MX11_wantOne.2.1.cls ≠ "java/lang/invoke/MethodHandle" ∧ MX11_wantOne.2.1.cls ≠ "java/lang/invoke/VarHandle") := ⟨by decide +kernel, mq_12, by decide +kernel, by decide +kernel⟩
theorem mg_X11_who : mx_good MX11_who := ⟨rfl, by decide +kernel, mq_805, by decide⟩
theorem mh_X11_who : (parseMethodDescriptor MX11_who.2.1.desc).map (fun d => d.parameters.length) = some 1 ∧ Cond.initialized MX11_who.2.1.cls ∈ mx_tbl ∧ (MX11_who.2.1.cls ≠ "java/lang/invoke/MethodHandle" ∧ MX11_who.2.1.cls ≠ "java/lang/invoke/VarHandle") := ⟨by decide +kernel, mq_12, by decide +kernel, by decide +kernel⟩
theorem mg_X11_wipe : mx_good MX11_wipe := ⟨rfl, by decide +kernel, mq_1006, by decide⟩
theorem mh_X11_wipe : (parseMethodDescriptor MX11_wipe.2.1.desc).map (fun d => d.parameters.length) = some 0 ∧ Cond.initialized MX11_wipe.2.1.cls ∈ mx_tbl ∧ (MX11_wipe.2.1.cls ≠ "java/lang/invoke/MethodHandle" ∧ MX11_wipe.2.1.cls ≠ "java/lang/invoke/VarHandle") := ⟨by decide +kernel, mq_12, by decide +kernel, by decide +kernel⟩
theorem mg_X11_worstOf : mx_good MX11_worstOf := ⟨rfl, by decide +kernel, mq_852, by decide⟩
theorem mh_X11_worstOf : (parseMethodDescriptor MX11_worstOf.2.1.desc).map (fun d => d.parameters.length) = some 1 ∧ Cond.initialized MX11_worstOf.2.1.cls ∈ mx_tbl ∧ (MX11_worstOf.2.1.cls ≠ "java/lang/invoke/MethodHandle" ∧ MX11_worstOf.2.1.cls ≠ "java/lang/invoke/VarHandle") := ⟨by decide +kernel, mq_12, by decide +kernel, by decide +kernel⟩
theorem mg_X11_worth : mx_good MX11_worth := ⟨rfl, by decide +kernel, mq_782, by decide⟩
theorem mh_X11_worth : (parseMethodDescriptor MX11_worth.2.1.desc).map (fun d => d.parameters.length) = some 2 ∧ Cond.initialized MX11_worth.2.1.cls ∈ mx_tbl ∧ (MX11_worth.2.1.cls ≠ "java/lang/invoke/MethodHandle" ∧ MX11_worth.2.1.cls ≠ "java/lang/invoke/VarHandle") := ⟨by decide +kernel, mq_12, by decide +kernel, by decide +kernel⟩
theorem mg_X11_worthOf : mx_good MX11_worthOf := ⟨rfl, by decide +kernel, mq_801, by decide⟩
theorem mh_X11_worthOf : (parseMethodDescriptor MX11_worthOf.2.1.desc).map (fun d => d.parameters.length) = some 1 ∧ Cond.initialized MX11_worthOf.2.1.cls ∈ mx_tbl ∧ (MX11_worthOf.2.1.cls ≠ "java/lang/invoke/MethodHandle" ∧ MX11_worthOf.2.1.cls ≠ "java/lang/invoke/VarHandle") := ⟨by decide +kernel, mq_12, by decide +kernel, by decide +kernel⟩
theorem mg_X11_write : mx_good MX11_write := ⟨rfl, by decide +kernel, mq_1077, by decide⟩
theorem mh_X11_write : (parseMethodDescriptor MX11_write.2.1.desc).map (fun d => d.parameters.length) = some 3 ∧ Cond.initialized MX11_write.2.1.cls ∈ mx_tbl ∧ (MX11_write.2.1.cls ≠ "java/lang/invoke/MethodHandle" ∧ MX11_write.2.1.cls ≠ "java/lang/invoke/VarHandle") := ⟨by decide +kernel, mq_12, by decide +kernel, by decide +kernel⟩
theorem mg_X11_years : mx_good MX11_years := ⟨rfl, by decide +kernel, mq_912, by decide⟩
theorem mh_X11_years : (parseMethodDescriptor MX11_years.2.1.desc).map (fun d => d.parameters.length) = some 1 ∧ Cond.initialized MX11_years.2.1.cls ∈ mx_tbl ∧ (MX11_years.2.1.cls ≠ "java/lang/invoke/MethodHandle" ∧ MX11_years.2.1.cls ≠ "java/lang/invoke/VarHandle") := ⟨by decide +kernel, mq_12, by decide +kernel, by decide +kernel⟩
theorem mg_X1_addPerson : mx_good MX1_addPerson := ⟨rfl, by decide +kernel, mq_256, by decide⟩
theorem mh_X1_addPerson : (parseMethodDescriptor MX1_addPerson.2.1.desc).map (fun d => d.parameters.length) = some 1 ∧ Cond.initialized MX1_addPerson.2.1.cls ∈ mx_tbl ∧ (MX1_addPerson.2.1.cls ≠ "java/lang/invoke/MethodHandle" ∧ MX1_addPerson.2.1.cls ≠ "java/lang/invoke/VarHandle") := ⟨by decide +kernel, mq_8, by decide +kernel, by decide +kernel⟩
theorem mg_X1_agesOfAll : mx_good MX1_agesOfAll := ⟨rfl, by decide +kernel, mq_705, by decide⟩
theorem mh_X1_agesOfAll : (parseMethodDescriptor MX1_agesOfAll.2.1.desc).map (fun d => d.parameters.length) = some 0 ∧ Cond.initialized MX1_agesOfAll.2.1.cls ∈ mx_tbl ∧ (MX1_agesOfAll.2.1.cls ≠ "java/lang/invoke/MethodHandle" ∧ MX1_agesOfAll.2.1.cls ≠ "java/lang/invoke/VarHandle") := ⟨by decide +kernel, mq_8, by decide +kernel, by decide +kernel⟩
theorem mg_X1_becomes : mx_good MX1_becomes := ⟨rfl, by decide +kernel, mq_438, by decide⟩
theorem mh_X1_becomes : (parseMethodDescriptor MX1_becomes.2.1.desc).map (fun d => d.parameters.length) = some 1 ∧ Cond.initialized MX1_becomes.2.1.cls ∈ mx_tbl ∧ (MX1_becomes.2.1.cls ≠ "java/lang/invoke/MethodHandle" ∧ MX1_becomes.2.1.cls ≠ "java/lang/invoke/VarHandle") := ⟨by decide +kernel, mq_8, by decide +kernel, by decide +kernel⟩
theorem mg_X1_foundNextBy : mx_good MX1_foundNextBy := ⟨rfl, by decide +kernel, mq_331, by decide⟩
theorem mh_X1_foundNextBy : (parseMethodDescriptor MX1_foundNextBy.2.1.desc).map (fun d => d.parameters.length) = some 1 ∧ Cond.initialized MX1_foundNextBy.2.1.cls ∈ mx_tbl ∧ (MX1_foundNextBy.2.1.cls ≠ "java/lang/invoke/MethodHandle" ∧ MX1_foundNextBy.2.1.cls ≠ "java/lang/invoke/VarHandle") := ⟨by decide +kernel, mq_8, by decide +kernel, by decide +kernel⟩
theorem mg_X1_has : mx_good MX1_has := ⟨rfl, by decide +kernel, mq_241, by decide⟩
theorem mh_X1_has : (parseMethodDescriptor MX1_has.2.1.desc).map (fun d => d.parameters.length) = some 2 ∧ Cond.initialized MX1_has.2.1.cls ∈ mx_tbl ∧ (MX1_has.2.1.cls ≠ "java/lang/invoke/MethodHandle" ∧ MX1_has.2.1.cls ≠ "java/lang/invoke/VarHandle") := ⟨by decide +kernel, mq_8, by decide +kernel, by decide +kernel⟩
theorem mg_X1_holdBorder : mx_good MX1_holdBorder := ⟨rfl, by decide +kernel, mq_395, by decide⟩
theorem mh_X1_holdBorder : (parseMethodDescriptor MX1_holdBorder.2.1.desc).map (fun d => d.parameters.length) = some 1 ∧ Cond.initialized MX1_holdBorder.2.1.cls ∈ mx_tbl ∧ (MX1_holdBorder.2.1.cls ≠ "java/lang/invoke/MethodHandle" ∧ MX1_holdBorder.2.1.cls ≠ "java/lang/invoke/VarHandle") := ⟨by decide +kernel, mq_8, by decide +kernel, by decide +kernel⟩
theorem mg_X1_init : mx_good MX1_init := ⟨rfl, by decide +kernel, mq_76, by decide⟩
theorem mh_X1_init : (parseMethodDescriptor MX1_init.2.1.desc).map (fun d => d.parameters.length) = some 1 ∧ Cond.initialized MX1_init.2.1.cls ∈ mx_tbl ∧ (MX1_init.2.1.cls ≠ "java/lang/invoke/MethodHandle" ∧ MX1_init.2.1.cls ≠ "java/lang/invoke/VarHandle") := ⟨by decide +kernel, mq_8, by decide +kernel, by decide +kernel⟩
theorem mg_X1_lostByAll : mx_good MX1_lostByAll := ⟨rfl, by decide +kernel, mq_413, by decide⟩
theorem mh_X1_lostByAll : (parseMethodDescriptor MX1_lostByAll.2.1.desc).map (fun d => d.parameters.length) = some 0 ∧ Cond.initialized MX1_lostByAll.2.1.cls ∈ mx_tbl ∧ (MX1_lostByAll.2.1.cls ≠ "java/lang/invoke/MethodHandle" ∧ MX1_lostByAll.2.1.cls ≠ "java/lang/invoke/VarHandle") := ⟨by decide +kernel, mq_8, by decide +kernel, by decide +kernel⟩
theorem mg_X1_ownedThings : mx_good MX1_ownedThings := ⟨rfl, by decide +kernel, mq_430, by decide⟩
theorem mh_X1_ownedThings : (parseMethodDescriptor MX1_ownedThings.2.1.desc).map (fun d => d.parameters.length) = some 0 ∧ Cond.initialized MX1_ownedThings.2.1.cls ∈ mx_tbl ∧ (MX1_ownedThings.2.1.cls ≠ "java/lang/invoke/MethodHandle" ∧ MX1_ownedThings.2.1.cls ≠ "java/lang/invoke/VarHandle") := ⟨by decide +kernel, mq_8, by decide +kernel, by decide +kernel⟩
theorem mg_X1_passYears : mx_good MX1_passYears := ⟨rfl, by decide +kernel, mq_408, by decide⟩
theorem mh_X1_passYears : (parseMethodDescriptor MX1_passYears.2.1.desc).map (fun d => d.parameters.length) = some 1 ∧ Cond.initialized MX1_passYears.2.1.cls ∈ mx_tbl ∧ (MX1_passYears.2.1.cls ≠ "java/lang/invoke/MethodHandle" ∧ MX1_passYears.2.1.cls ≠ "java/lang/invoke/VarHandle") := ⟨by decide +kernel, mq_8, by decide +kernel, by decide +kernel⟩
theorem mg_X1_pocketWorth : mx_good MX1_pocketWorth := ⟨rfl, by decide +kernel, mq_353, by decide⟩
theorem mh_X1_pocketWorth : (parseMethodDescriptor MX1_pocketWorth.2.1.desc).map (fun d => d.parameters.length) = some 1 ∧ Cond.initialized MX1_pocketWorth.2.1.cls ∈ mx_tbl ∧ (MX1_pocketWorth.2.1.cls ≠ "java/lang/invoke/MethodHandle" ∧ MX1_pocketWorth.2.1.cls ≠ "java/lang/invoke/VarHandle") := ⟨by decide +kernel, mq_8, by decide +kernel, by decide +kernel⟩
theorem mg_X1_shownBy : mx_good MX1_shownBy := ⟨rfl, by decide +kernel, mq_268, by decide⟩
theorem mh_X1_shownBy : (parseMethodDescriptor MX1_shownBy.2.1.desc).map (fun d => d.parameters.length) = some 1 ∧ Cond.initialized MX1_shownBy.2.1.cls ∈ mx_tbl ∧ (MX1_shownBy.2.1.cls ≠ "java/lang/invoke/MethodHandle" ∧ MX1_shownBy.2.1.cls ≠ "java/lang/invoke/VarHandle") := ⟨by decide +kernel, mq_8, by decide +kernel, by decide +kernel⟩
theorem mg_X1_takenFrom : mx_good MX1_takenFrom := ⟨rfl, by decide +kernel, mq_301, by decide⟩
theorem mh_X1_takenFrom : (parseMethodDescriptor MX1_takenFrom.2.1.desc).map (fun d => d.parameters.length) = some 1 ∧ Cond.initialized MX1_takenFrom.2.1.cls ∈ mx_tbl ∧ (MX1_takenFrom.2.1.cls ≠ "java/lang/invoke/MethodHandle" ∧ MX1_takenFrom.2.1.cls ≠ "java/lang/invoke/VarHandle") := ⟨by decide +kernel, mq_8, by decide +kernel, by decide +kernel⟩
theorem mg_X1_theOldest : mx_good MX1_theOldest := ⟨rfl, by decide +kernel, mq_421, by decide⟩
theorem mh_X1_theOldest : (parseMethodDescriptor MX1_theOldest.2.1.desc).map (fun d => d.parameters.length) = some 0 ∧ Cond.initialized MX1_theOldest.2.1.cls ∈ mx_tbl ∧ (MX1_theOldest.2.1.cls ≠ "java/lang/invoke/MethodHandle" ∧ MX1_theOldest.2.1.cls ≠ "java/lang/invoke/VarHandle") := ⟨by decide +kernel, mq_8, by decide +kernel, by decide +kernel⟩
theorem mg_X1_thingsInPockets : mx_good MX1_thingsInPockets := ⟨rfl, by decide +kernel, mq_709, by decide⟩
theorem mh_X1_thingsInPockets : (parseMethodDescriptor MX1_thingsInPockets.2.1.desc).map (fun d => d.parameters.length) = some 0 ∧ Cond.initialized MX1_thingsInPockets.2.1.cls ∈ mx_tbl ∧ (MX1_thingsInPockets.2.1.cls ≠ "java/lang/invoke/MethodHandle" ∧ MX1_thingsInPockets.2.1.cls ≠ "java/lang/invoke/VarHandle") := ⟨by decide +kernel, mq_8, by decide +kernel, by decide +kernel⟩
theorem mg_X1_worthOfAllPockets : mx_good MX1_worthOfAllPockets := ⟨rfl, by decide +kernel, mq_425, by decide⟩
theorem mh_X1_worthOfAllPockets : (parseMethodDescriptor MX1_worthOfAllPockets.2.1.desc).map (fun d => d.parameters.length) = some 0 ∧ Cond.initialized MX1_worthOfAllPockets.2.1.cls ∈ mx_tbl ∧ (MX1_worthOfAllPockets.2.1.cls ≠ "java/lang/invoke/MethodHandle" ∧ MX1_worthOfAllPockets.2.1.cls ≠ "java/lang/invoke/VarHandle") := ⟨by decide +kernel, mq_8, by decide +kernel, by decide +kernel⟩
theorem mg_X2_init : mx_good MX2_init := ⟨rfl, by decide +kernel, mq_41, by decide⟩
theorem mh_X2_init : (parseMethodDescriptor MX2_init.2.1.desc).map (fun d => d.parameters.length) = some 0 ∧ Cond.initialized MX2_init.2.1.cls ∈ mx_tbl ∧ (MX2_init.2.1.cls ≠ "java/lang/invoke/MethodHandle" ∧ MX2_init.2.1.cls ≠ "java/lang/invoke/VarHandle") := ⟨by decide +kernel, mq_3, by decide +kernel, by decide +kernel⟩
theorem mg_X2_shows : mx_good MX2_shows := ⟨rfl, by decide +kernel, mq_276, by decide⟩
theorem mh_X2_shows : (parseMethodDescriptor MX2_shows.2.1.desc).map (fun d => d.parameters.length) = some 3 ∧ Cond.initialized MX2_shows.2.1.cls ∈ mx_tbl ∧ (MX2_shows.2.1.cls ≠ "java/lang/invoke/MethodHandle" ∧ MX2_shows.2.1.cls ≠ "java/lang/invoke/VarHandle") := ⟨by decide +kernel, mq_3, by decide +kernel, by decide +kernel⟩
theorem mg_X3_finds : mx_good MX3_finds := ⟨rfl, by decide +kernel, mq_349, by decide⟩
theorem mh_X3_finds : (parseMethodDescriptor MX3_finds.2.1.desc).map (fun d => d.parameters.length) = some 1 ∧ Cond.initialized MX3_finds.2.1.cls ∈ mx_tbl ∧ (MX3_finds.2.1.cls ≠ "java/lang/invoke/MethodHandle" ∧ MX3_finds.2.1.cls ≠ "java/lang/invoke/VarHandle") := ⟨by decide +kernel, mq_2, by decide +kernel, by decide +kernel⟩
theorem mg_X3_init : mx_good MX3_init := ⟨rfl, by decide +kernel, mq_34, by decide⟩
theorem mh_X3_init : (parseMethodDescriptor MX3_init.2.1.desc).map (fun d => d.parameters.length) = some 0 ∧ Cond.initialized MX3_init.2.1.cls ∈ mx_tbl ∧ (MX3_init.2.1.cls ≠ "java/lang/invoke/MethodHandle" ∧ MX3_init.2.1.cls ≠ "java/lang/invoke/VarHandle") := ⟨by decide +kernel, mq_2, by decide +kernel, by decide +kernel⟩
theorem mg_X3_shows : mx_good MX3_shows := ⟨rfl, by decide +kernel, mq_297, by decide⟩
theorem mh_X3_shows : (parseMethodDescriptor MX3_shows.2.1.desc).map (fun d => d.parameters.length) = some 3 ∧ Cond.initialized MX3_shows.2.1.cls ∈ mx_tbl ∧ (MX3_shows.2.1.cls ≠ "java/lang/invoke/MethodHandle" ∧ MX3_shows.2.1.cls ≠ "java/lang/invoke/VarHandle") := ⟨by decide +kernel, mq_2, by decide +kernel, by decide +kernel⟩
theorem mg_X3_taken : mx_good MX3_taken := ⟨rfl, by decide +kernel, mq_326, by decide⟩
theorem mh_X3_taken : (parseMethodDescriptor MX3_taken.2.1.desc).map (fun d => d.parameters.length) = some 2 ∧ Cond.initialized MX3_taken.2.1.cls ∈ mx_tbl ∧ (MX3_taken.2.1.cls ≠ "java/lang/invoke/MethodHandle" ∧ MX3_taken.2.1.cls ≠ "java/lang/invoke/VarHandle") := ⟨by decide +kernel, mq_2, by decide +kernel, by decide +kernel⟩
theorem mg_X4_finds : mx_good MX4_finds := ⟨rfl, by decide +kernel, mq_343, by decide⟩
theorem mh_X4_finds : (parseMethodDescriptor MX4_finds.2.1.desc).map (fun d => d.parameters.length) = some 1 ∧ Cond.initialized MX4_finds.2.1.cls ∈ mx_tbl ∧ (MX4_finds.2.1.cls ≠ "java/lang/invoke/MethodHandle" ∧ MX4_finds.2.1.cls ≠ "java/lang/invoke/VarHandle") := ⟨by decide +kernel, mq_4, by decide +kernel, by decide +kernel⟩
theorem mg_X4_init : mx_good MX4_init := ⟨rfl, by decide +kernel, mq_48, by decide⟩
theorem mh_X4_init : (parseMethodDescriptor MX4_init.2.1.desc).map (fun d => d.parameters.length) = some 0 ∧ Cond.initialized MX4_init.2.1.cls ∈ mx_tbl ∧ (MX4_init.2.1.cls ≠ "java/lang/invoke/MethodHandle" ∧ MX4_init.2.1.cls ≠ "java/lang/invoke/VarHandle") := ⟨by decide +kernel, mq_4, by decide +kernel, by decide +kernel⟩
theorem mg_X4_taken : mx_good MX4_taken := ⟨rfl, by decide +kernel, mq_315, by decide⟩
theorem mh_X4_taken : (parseMethodDescriptor MX4_taken.2.1.desc).map (fun d => d.parameters.length) = some 2 ∧ Cond.initialized MX4_taken.2.1.cls ∈ mx_tbl ∧ (MX4_taken.2.1.cls ≠ "java/lang/invoke/MethodHandle" ∧ MX4_taken.2.1.cls ≠ "java/lang/invoke/VarHandle") := ⟨by decide +kernel, mq_4, by decide +kernel, by decide +kernel⟩
theorem mg_X5_begin : mx_good MX5_begin := ⟨rfl, by decide +kernel, mq_643, by decide⟩
theorem mh_X5_begin : (parseMethodDescriptor MX5_begin.2.1.desc).map (fun d => d.parameters.length) = some 2 ∧ Cond.initialized MX5_begin.2.1.cls ∈ mx_tbl ∧ (MX5_begin.2.1.cls ≠ "java/lang/invoke/MethodHandle" ∧ MX5_begin.2.1.cls ≠ "java/lang/invoke/VarHandle") := ⟨by decide +kernel, mq_11, by decide +kernel, by decide +kernel⟩
theorem mg_X5_init : mx_good MX5_init := ⟨rfl, by decide +kernel, mq_171, by decide⟩
theorem mh_X5_init : (parseMethodDescriptor MX5_init.2.1.desc).map (fun d => d.parameters.length) = some 0 ∧ Cond.initialized MX5_init.2.1.cls ∈ mx_tbl ∧ (MX5_init.2.1.cls ≠ "java/lang/invoke/MethodHandle" ∧ MX5_init.2.1.cls ≠ "java/lang/invoke/VarHandle") := ⟨by decide +kernel, mq_11, by decide +kernel, by decide +kernel⟩
theorem mg_X5_isMissing : mx_good MX5_isMissing := ⟨rfl, by decide +kernel, mq_654, by decide⟩
theorem mh_X5_isMissing : (parseMethodDescriptor MX5_isMissing.2.1.desc).map (fun d => d.parameters.length) = some 0 ∧ Cond.initialized MX5_isMissing.2.1.cls ∈ mx_tbl ∧ (MX5_isMissing.2.1.cls ≠ "java/lang/invoke/MethodHandle" ∧ MX5_isMissing.2.1.cls ≠ "java/lang/invoke/VarHandle") := ⟨by decide +kernel, mq_11, by decide +kernel, by decide +kernel⟩
theorem mg_X5_put : mx_good MX5_put := ⟨rfl, by decide +kernel, mq_659, by decide⟩
theorem mh_X5_put : (parseMethodDescriptor MX5_put.2.1.desc).map (fun d => d.parameters.length) = some 2 ∧ Cond.initialized MX5_put.2.1.cls ∈ mx_tbl ∧ (MX5_put.2.1.cls ≠ "java/lang/invoke/MethodHandle" ∧ MX5_put.2.1.cls ≠ "java/lang/invoke/VarHandle") := ⟨by decide +kernel, mq_11, by decide +kernel, by decide +kernel⟩
theorem mg_X5_reaches : mx_good MX5_reaches := ⟨rfl, by decide +kernel, mq_667, by decide⟩
theorem mh_X5_reaches : (parseMethodDescriptor MX5_reaches.2.1.desc).map (fun d => d.parameters.length) = some 2 ∧ Cond.initialized MX5_reaches.2.1.cls ∈ mx_tbl ∧ (MX5_reaches.2.1.cls ≠ "java/lang/invoke/MethodHandle" ∧ MX5_reaches.2.1.cls ≠ "java/lang/invoke/VarHandle") := ⟨by decide +kernel, mq_11, by decide +kernel, by decide +kernel⟩
theorem mg_X6_init : mx_good MX6_init := ⟨rfl, by decide +kernel, mq_62, by decide⟩
theorem mh_X6_init : (parseMethodDescriptor MX6_init.2.1.desc).map (fun d => d.parameters.length) = some 0 ∧ Cond.initialized MX6_init.2.1.cls ∈ mx_tbl ∧ (MX6_init.2.1.cls ≠ "java/lang/invoke/MethodHandle" ∧ MX6_init.2.1.cls ≠ "java/lang/invoke/VarHandle") := ⟨by decide +kernel, mq_6, by decide +kernel, by decide +kernel⟩
theorem mg_X6_shows : mx_good MX6_shows := ⟨rfl, by decide +kernel, mq_287, by decide⟩
theorem mh_X6_shows : (parseMethodDescriptor MX6_shows.2.1.desc).map (fun d => d.parameters.length) = some 3 ∧ Cond.initialized MX6_shows.2.1.cls ∈ mx_tbl ∧ (MX6_shows.2.1.cls ≠ "java/lang/invoke/MethodHandle" ∧ MX6_shows.2.1.cls ≠ "java/lang/invoke/VarHandle") := ⟨by decide +kernel, mq_6, by decide +kernel, by decide +kernel⟩
theorem mg_X7_append : mx_good MX7_append := ⟨rfl, by decide +kernel, mq_502, by decide⟩
theorem mh_X7_append : (parseMethodDescriptor MX7_append.2.1.desc).map (fun d => d.parameters.length) = some 1 ∧ Cond.initialized MX7_append.2.1.cls ∈ mx_tbl ∧ (MX7_append.2.1.cls ≠ "java/lang/invoke/MethodHandle" ∧ MX7_append.2.1.cls ≠ "java/lang/invoke/VarHandle") := ⟨by decide +kernel, mq_9, by decide +kernel, by decide +kernel⟩
theorem mg_X7_init : mx_good MX7_init := ⟨rfl, by decide +kernel, mq_129, by decide⟩
theorem mh_X7_init : (parseMethodDescriptor MX7_init.2.1.desc).map (fun d => d.parameters.length) = some 0 ∧ Cond.initialized MX7_init.2.1.cls ∈ mx_tbl ∧ (MX7_init.2.1.cls ≠ "java/lang/invoke/MethodHandle" ∧ MX7_init.2.1.cls ≠ "java/lang/invoke/VarHandle") := ⟨by decide +kernel, mq_9, by decide +kernel, by decide +kernel⟩
theorem mg_X8_init : mx_good MX8_init := ⟨rfl, by decide +kernel, mq_145, by decide⟩
theorem mh_X8_init : (parseMethodDescriptor MX8_init.2.1.desc).map (fun d => d.parameters.length) = some 2 ∧ Cond.initialized MX8_init.2.1.cls ∈ mx_tbl ∧ (MX8_init.2.1.cls ≠ "java/lang/invoke/MethodHandle" ∧ MX8_init.2.1.cls ≠ "java/lang/invoke/VarHandle") := ⟨by decide +kernel, mq_10, by decide +kernel, by decide +kernel⟩
theorem mg_X8_isDigit : mx_good MX8_isDigit := ⟨rfl, by decide +kernel, mq_530, by decide⟩
theorem mh_X8_isDigit : (parseMethodDescriptor MX8_isDigit.2.1.desc).map (fun d => d.parameters.length) = some 1 ∧ Cond.initialized MX8_isDigit.2.1.cls ∈ mx_tbl ∧ (MX8_isDigit.2.1.cls ≠ "java/lang/invoke/MethodHandle" ∧ MX8_isDigit.2.1.cls ≠ "java/lang/invoke/VarHandle") := ⟨by decide +kernel, mq_10, by decide +kernel, by decide +kernel⟩
theorem mg_X8_isLetter : mx_good MX8_isLetter := ⟨rfl, by decide +kernel, mq_522, by decide⟩
theorem mh_X8_isLetter : (parseMethodDescriptor MX8_isLetter.2.1.desc).map (fun d => d.parameters.length) = some 1 ∧ Cond.initialized MX8_isLetter.2.1.cls ∈ mx_tbl ∧ (MX8_isLetter.2.1.cls ≠ "java/lang/invoke/MethodHandle" ∧ MX8_isLetter.2.1.cls ≠ "java/lang/invoke/VarHandle") := ⟨by decide +kernel, mq_10, by decide +kernel, by decide +kernel⟩
theorem mg_X8_isNumber : mx_good MX8_isNumber := ⟨rfl, by decide +kernel, mq_614, by decide⟩
theorem mh_X8_isNumber : (parseMethodDescriptor MX8_isNumber.2.1.desc).map (fun d => d.parameters.length) = some 1 ∧ Cond.initialized MX8_isNumber.2.1.cls ∈ mx_tbl ∧ (MX8_isNumber.2.1.cls ≠ "java/lang/invoke/MethodHandle" ∧ MX8_isNumber.2.1.cls ≠ "java/lang/invoke/VarHandle") := ⟨by decide +kernel, mq_10, by decide +kernel, by decide +kernel⟩
theorem mg_X8_isWord : mx_good MX8_isWord := ⟨rfl, by decide +kernel, mq_556, by decide⟩
theorem mh_X8_isWord : (parseMethodDescriptor MX8_isWord.2.1.desc).map (fun d => d.parameters.length) = some 1 ∧ Cond.initialized MX8_isWord.2.1.cls ∈ mx_tbl ∧ (MX8_isWord.2.1.cls ≠ "java/lang/invoke/MethodHandle" ∧ MX8_isWord.2.1.cls ≠ "java/lang/invoke/VarHandle") := ⟨by decide +kernel, mq_10, by decide +kernel, by decide +kernel⟩
theorem mg_X8_kindNamed : mx_good MX8_kindNamed := ⟨rfl, by decide +kernel, mq_543, by decide⟩
theorem mh_X8_kindNamed : (parseMethodDescriptor MX8_kindNamed.2.1.desc).map (fun d => d.parameters.length) = some 0 ∧ Cond.initialized MX8_kindNamed.2.1.cls ∈ mx_tbl ∧ (MX8_kindNamed.2.1.cls ≠ "java/lang/invoke/MethodHandle" ∧ MX8_kindNamed.2.1.cls ≠ "java/lang/invoke/VarHandle") := ⟨by decide +kernel, mq_10, by decide +kernel, by decide +kernel⟩
theorem mg_X8_nameOfKind : mx_good MX8_nameOfKind := ⟨rfl, by decide +kernel, mq_546, by decide⟩
theorem mh_X8_nameOfKind : (parseMethodDescriptor MX8_nameOfKind.2.1.desc).map (fun d => d.parameters.length) = some 1 ∧ Cond.initialized MX8_nameOfKind.2.1.cls ∈ mx_tbl ∧ (MX8_nameOfKind.2.1.cls ≠ "java/lang/invoke/MethodHandle" ∧ MX8_nameOfKind.2.1.cls ≠ "java/lang/invoke/VarHandle") := ⟨by decide +kernel, mq_10, by decide +kernel, by decide +kernel⟩
theorem mg_X8_next : mx_good MX8_next := ⟨rfl, by decide +kernel, mq_518, by decide⟩
theorem mh_X8_next : (parseMethodDescriptor MX8_next.2.1.desc).map (fun d => d.parameters.length) = some 0 ∧ Cond.initialized MX8_next.2.1.cls ∈ mx_tbl ∧ (MX8_next.2.1.cls ≠ "java/lang/invoke/MethodHandle" ∧ MX8_next.2.1.cls ≠ "java/lang/invoke/VarHandle") := ⟨by decide +kernel, mq_10, by decide +kernel, by decide +kernel⟩
theorem mg_X8_passNumber : mx_good MX8_passNumber := ⟨rfl, by decide +kernel, mq_534, by decide⟩
theorem mh_X8_passNumber : (parseMethodDescriptor MX8_passNumber.2.1.desc).map (fun d => d.parameters.length) = some 0 ∧ Cond.initialized MX8_passNumber.2.1.cls ∈ mx_tbl ∧ (MX8_passNumber.2.1.cls ≠ "java/lang/invoke/MethodHandle" ∧ MX8_passNumber.2.1.cls ≠ "java/lang/invoke/VarHandle") := ⟨by decide +kernel, mq_10, by decide +kernel, by decide +kernel⟩
theorem mg_X8_passWord : mx_good MX8_passWord := ⟨rfl, by decide +kernel, mq_526, by decide⟩
theorem mh_X8_passWord : (parseMethodDescriptor MX8_passWord.2.1.desc).map (fun d => d.parameters.length) = some 0 ∧ Cond.initialized MX8_passWord.2.1.cls ∈ mx_tbl ∧ (MX8_passWord.2.1.cls ≠ "java/lang/invoke/MethodHandle" ∧ MX8_passWord.2.1.cls ≠ "java/lang/invoke/VarHandle") := ⟨by decide +kernel, mq_10, by decide +kernel, by decide +kernel⟩
theorem mg_X8_readBurned : mx_good MX8_readBurned := ⟨rfl, by decide +kernel, mq_631, by decide⟩
theorem mh_X8_readBurned : (parseMethodDescriptor MX8_readBurned.2.1.desc).map (fun d => d.parameters.length) = some 0 ∧ Cond.initialized MX8_readBurned.2.1.cls ∈ mx_tbl ∧ (MX8_readBurned.2.1.cls ≠ "java/lang/invoke/MethodHandle" ∧ MX8_readBurned.2.1.cls ≠ "java/lang/invoke/VarHandle") := ⟨by decide +kernel, mq_10, by decide +kernel, by decide +kernel⟩
theorem mg_X8_readItem : mx_good MX8_readItem := ⟨rfl, by decide +kernel, mq_539, by decide⟩
theorem mh_X8_readItem : (parseMethodDescriptor MX8_readItem.2.1.desc).map (fun d => d.parameters.length) = some 0 ∧ Cond.initialized MX8_readItem.2.1.cls ∈ mx_tbl ∧ (MX8_readItem.2.1.cls ≠ "java/lang/invoke/MethodHandle" ∧ MX8_readItem.2.1.cls ≠ "java/lang/invoke/VarHandle") := ⟨by decide +kernel, mq_10, by decide +kernel, by decide +kernel⟩
theorem mg_X8_readPerson : mx_good MX8_readPerson := ⟨rfl, by decide +kernel, mq_608, by decide⟩
theorem mh_X8_readPerson : (parseMethodDescriptor MX8_readPerson.2.1.desc).map (fun d => d.parameters.length) = some 1 ∧ Cond.initialized MX8_readPerson.2.1.cls ∈ mx_tbl ∧ (MX8_readPerson.2.1.cls ≠ "java/lang/invoke/MethodHandle" ∧ MX8_readPerson.2.1.cls ≠ "java/lang/invoke/VarHandle") := ⟨by decide +kernel, mq_10, by decide +kernel, by decide +kernel⟩
theorem mg_X8_readText : mx_good MX8_readText := ⟨rfl, by decide +kernel, mq_514, by decide⟩
theorem mh_X8_readText : (parseMethodDescriptor MX8_readText.2.1.desc).map (fun d => d.parameters.length) = some 0 ∧ Cond.initialized MX8_readText.2.1.cls ∈ mx_tbl ∧ (MX8_readText.2.1.cls ≠ "java/lang/invoke/MethodHandle" ∧ MX8_readText.2.1.cls ≠ "java/lang/invoke/VarHandle") := ⟨by decide +kernel, mq_10, by decide +kernel, by decide +kernel⟩
theorem mg_X8_readThings : mx_good MX8_readThings := ⟨rfl, by decide +kernel, mq_619, by decide⟩
theorem mh_X8_readThings : (parseMethodDescriptor MX8_readThings.2.1.desc).map (fun d => d.parameters.length) = some 1 ∧ Cond.initialized MX8_readThings.2.1.cls ∈ mx_tbl ∧ (MX8_readThings.2.1.cls ≠ "java/lang/invoke/MethodHandle" ∧ MX8_readThings.2.1.cls ≠ "java/lang/invoke/VarHandle") := ⟨by decide +kernel, mq_10, by decide +kernel, by decide +kernel⟩
theorem mg_X8_readWorth : mx_good MX8_readWorth := ⟨rfl, by decide +kernel, mq_626, by decide⟩
theorem mh_X8_readWorth : (parseMethodDescriptor MX8_readWorth.2.1.desc).map (fun d => d.parameters.length) = some 0 ∧ Cond.initialized MX8_readWorth.2.1.cls ∈ mx_tbl ∧ (MX8_readWorth.2.1.cls ≠ "java/lang/invoke/MethodHandle" ∧ MX8_readWorth.2.1.cls ≠ "java/lang/invoke/VarHandle") := ⟨by decide +kernel, mq_10, by decide +kernel, by decide +kernel⟩
theorem mg_X9_finds : mx_good MX9_finds := ⟨rfl, by decide +kernel, mq_348, by decide⟩
theorem mh_X9_finds : (parseMethodDescriptor MX9_finds.2.1.desc).map (fun d => d.parameters.length) = some 1 ∧ Cond.initialized MX9_finds.2.1.cls ∈ mx_tbl ∧ (MX9_finds.2.1.cls ≠ "java/lang/invoke/MethodHandle" ∧ MX9_finds.2.1.cls ≠ "java/lang/invoke/VarHandle") := ⟨by decide +kernel, mq_7, by decide +kernel, by decide +kernel⟩
theorem mg_X9_init : mx_good MX9_init := ⟨rfl, by decide +kernel, mq_69, by decide⟩
theorem mh_X9_init : (parseMethodDescriptor MX9_init.2.1.desc).map (fun d => d.parameters.length) = some 0 ∧ Cond.initialized MX9_init.2.1.cls ∈ mx_tbl ∧ (MX9_init.2.1.cls ≠ "java/lang/invoke/MethodHandle" ∧ MX9_init.2.1.cls ≠ "java/lang/invoke/VarHandle") := ⟨by decide +kernel, mq_7, by decide +kernel, by decide +kernel⟩
theorem mg_X9_shows : mx_good MX9_shows := ⟨rfl, by decide +kernel, mq_293, by decide⟩
theorem mh_X9_shows : (parseMethodDescriptor MX9_shows.2.1.desc).map (fun d => d.parameters.length) = some 3 ∧ Cond.initialized MX9_shows.2.1.cls ∈ mx_tbl ∧ (MX9_shows.2.1.cls ≠ "java/lang/invoke/MethodHandle" ∧ MX9_shows.2.1.cls ≠ "java/lang/invoke/VarHandle") := ⟨by decide +kernel, mq_7, by decide +kernel, by decide +kernel⟩
theorem mg_X9_taken : mx_good MX9_taken := ⟨rfl, by decide +kernel, mq_322, by decide⟩
theorem mh_X9_taken : (parseMethodDescriptor MX9_taken.2.1.desc).map (fun d => d.parameters.length) = some 2 ∧ Cond.initialized MX9_taken.2.1.cls ∈ mx_tbl ∧ (MX9_taken.2.1.cls ≠ "java/lang/invoke/MethodHandle" ∧ MX9_taken.2.1.cls ≠ "java/lang/invoke/VarHandle") := ⟨by decide +kernel, mq_7, by decide +kernel, by decide +kernel⟩
theorem mc_0_3_100 : mx_CF 0 3 100 5 0 MX3_init := ⟨mg_X3_init, mh_X3_init.1, mh_X3_init.2.1, mh_X3_init.2.2, rfl, mq_56, mq_33, rfl, rfl⟩
theorem mc_0_9_100 : mx_CF 0 9 100 1 1 MX10_greatestIn := ⟨mg_X10_greatestIn, mh_X10_greatestIn.1, mh_X10_greatestIn.2.1, mh_X10_greatestIn.2.2, rfl, mq_309, mq_310⟩
theorem mc_0_13_100 : mx_CF 0 13 100 7 1 MX3_finds := ⟨mg_X3_finds, mh_X3_finds.1, mh_X3_finds.2.1, mh_X3_finds.2.2, rfl, mq_339, mq_333, by decide +kernel, mq_335, mq_57⟩
theorem mx_CF_0 : ∀ e ∈ mx_call_l 0, mx_CF 0 e.1.1 e.1.2 e.2.1 e.2.2.1 e.2.2.2 := List.forall_mem_cons.mpr ⟨mc_0_3_100, List.forall_mem_cons.mpr ⟨mc_0_9_100, List.forall_mem_cons.mpr ⟨mc_0_13_100, fun _ h => absurd h List.not_mem_nil⟩⟩⟩
theorem mc_1_50_100 : mx_CF 1 50 100 1 2 MX10_contains := ⟨mg_X10_contains, mh_X10_contains.1, mh_X10_contains.2.1, mh_X10_contains.2.2, rfl, mq_242, mq_243⟩
theorem mc_1_54_0 : mx_CF 1 54 0 8 3 MX3_shows := ⟨mg_X3_shows, mh_X3_shows.1, mh_X3_shows.2.1, mh_X3_shows.2.2, by decide, mq_269, mq_272, mq_270, mq_273, mq_270, _, _, _, mq_297⟩
theorem mc_1_54_2 : mx_CF 1 54 2 8 3 MX2_shows := ⟨mg_X2_shows, mh_X2_shows.1, mh_X2_shows.2.1, mh_X2_shows.2.2, by decide, mq_269, mq_272, mq_270, mq_274, mq_275, _, _, _, mq_297⟩
theorem mc_1_54_3 : mx_CF 1 54 3 8 3 MX3_shows := ⟨mg_X3_shows, mh_X3_shows.1, mh_X3_shows.2.1, mh_X3_shows.2.2, by decide, mq_269, mq_272, mq_270, mq_271, mq_270, _, _, _, mq_297⟩
theorem mc_1_54_4 : mx_CF 1 54 4 8 3 MX3_shows := ⟨mg_X3_shows, mh_X3_shows.1, mh_X3_shows.2.1, mh_X3_shows.2.2, by decide, mq_269, mq_272, mq_270, mq_284, mq_270, _, _, _, mq_297⟩
theorem mc_1_54_6 : mx_CF 1 54 6 8 3 MX6_shows := ⟨mg_X6_shows, mh_X6_shows.1, mh_X6_shows.2.1, mh_X6_shows.2.2, by decide, mq_269, mq_272, mq_270, mq_285, mq_286, _, _, _, mq_297⟩
theorem mc_1_54_9 : mx_CF 1 54 9 8 3 MX9_shows := ⟨mg_X9_shows, mh_X9_shows.1, mh_X9_shows.2.1, mh_X9_shows.2.2, by decide, mq_269, mq_272, mq_270, mq_291, mq_292, _, _, _, mq_297⟩
theorem mc_1_60_0 : mx_CF 1 60 0 8 2 MX0_taken := ⟨mg_X0_taken, mh_X0_taken.1, mh_X0_taken.2.1, mh_X0_taken.2.2, by decide, mq_302, mq_305, mq_303, mq_306, mq_307, _, _, _, mq_326⟩
theorem mc_1_60_2 : mx_CF 1 60 2 8 2 MX3_taken := ⟨mg_X3_taken, mh_X3_taken.1, mh_X3_taken.2.1, mh_X3_taken.2.2, by decide, mq_302, mq_305, mq_303, mq_312, mq_303, _, _, _, mq_326⟩
theorem mc_1_60_3 : mx_CF 1 60 3 8 2 MX3_taken := ⟨mg_X3_taken, mh_X3_taken.1, mh_X3_taken.2.1, mh_X3_taken.2.2, by decide, mq_302, mq_305, mq_303, mq_304, mq_303, _, _, _, mq_326⟩
theorem mc_1_60_4 : mx_CF 1 60 4 8 2 MX4_taken := ⟨mg_X4_taken, mh_X4_taken.1, mh_X4_taken.2.1, mh_X4_taken.2.2, by decide, mq_302, mq_305, mq_303, mq_313, mq_314, _, _, _, mq_326⟩
theorem mc_1_60_6 : mx_CF 1 60 6 8 2 MX3_taken := ⟨mg_X3_taken, mh_X3_taken.1, mh_X3_taken.2.1, mh_X3_taken.2.2, by decide, mq_302, mq_305, mq_303, mq_319, mq_303, _, _, _, mq_326⟩
theorem mc_1_60_9 : mx_CF 1 60 9 8 2 MX9_taken := ⟨mg_X9_taken, mh_X9_taken.1, mh_X9_taken.2.1, mh_X9_taken.2.2, by decide, mq_302, mq_305, mq_303, mq_320, mq_321, _, _, _, mq_326⟩
theorem mc_1_64_0 : mx_CF 1 64 0 8 1 MX0_finds := ⟨mg_X0_finds, mh_X0_finds.1, mh_X0_finds.2.1, mh_X0_finds.2.2, by decide, mq_332, mq_335, mq_333, mq_336, mq_337, _, _, _, mq_349⟩
theorem mc_1_64_2 : mx_CF 1 64 2 8 1 MX3_finds := ⟨mg_X3_finds, mh_X3_finds.1, mh_X3_finds.2.1, mh_X3_finds.2.2, by decide, mq_332, mq_335, mq_333, mq_340, mq_333, _, _, _, mq_349⟩
theorem mc_1_64_3 : mx_CF 1 64 3 8 1 MX3_finds := ⟨mg_X3_finds, mh_X3_finds.1, mh_X3_finds.2.1, mh_X3_finds.2.2, by decide, mq_332, mq_335, mq_333, mq_334, mq_333, _, _, _, mq_349⟩
theorem mc_1_64_4 : mx_CF 1 64 4 8 1 MX4_finds := ⟨mg_X4_finds, mh_X4_finds.1, mh_X4_finds.2.1, mh_X4_finds.2.2, by decide, mq_332, mq_335, mq_333, mq_341, mq_342, _, _, _, mq_349⟩
theorem mc_1_64_6 : mx_CF 1 64 6 8 1 MX3_finds := ⟨mg_X3_finds, mh_X3_finds.1, mh_X3_finds.2.1, mh_X3_finds.2.2, by decide, mq_332, mq_335, mq_333, mq_345, mq_333, _, _, _, mq_349⟩
theorem mc_1_64_9 : mx_CF 1 64 9 8 1 MX9_finds := ⟨mg_X9_finds, mh_X9_finds.1, mh_X9_finds.2.1, mh_X9_finds.2.2, by decide, mq_332, mq_335, mq_333, mq_346, mq_347, _, _, _, mq_349⟩
theorem mc_1_68_1 : mx_CF 1 68 1 2 1 MX1_takenFrom := ⟨mg_X1_takenFrom, mh_X1_takenFrom.1, mh_X1_takenFrom.2.1, mh_X1_takenFrom.2.2, by decide, mq_396, mq_299, mq_300⟩
theorem mc_1_71_100 : mx_CF 1 71 100 1 1 MX10_setOf := ⟨mg_X10_setOf, mh_X10_setOf.1, mh_X10_setOf.2.1, mh_X10_setOf.2.2, rfl, mq_397, mq_282⟩
theorem mc_1_80_1 : mx_CF 1 80 1 2 1 MX1_holdBorder := ⟨mg_X1_holdBorder, mh_X1_holdBorder.1, mh_X1_holdBorder.2.1, mh_X1_holdBorder.2.2, by decide, mq_409, mq_393, mq_394⟩
theorem mc_1_83_1 : mx_CF 1 83 1 2 2 MX1_has := ⟨mg_X1_has, mh_X1_has.1, mh_X1_has.2.1, mh_X1_has.2.2, by decide, mq_354, mq_239, mq_240⟩
theorem mc_1_86_1 : mx_CF 1 86 1 2 1 MX1_pocketWorth := ⟨mg_X1_pocketWorth, mh_X1_pocketWorth.1, mh_X1_pocketWorth.2.1, mh_X1_pocketWorth.2.2, by decide, mq_426, mq_351, mq_352⟩
theorem mc_1_89_100 : mx_CF 1 89 100 0 1 MJ6_bitCount_0f7a4 := ⟨mg_J6_bitCount_0f7a4, mh_J6_bitCount_0f7a4.1, mh_J6_bitCount_0f7a4.2.1, mh_J6_bitCount_0f7a4.2.2, rfl, mq_710, mq_485⟩
theorem mx_CF_1 : ∀ e ∈ mx_call_l 1, mx_CF 1 e.1.1 e.1.2 e.2.1 e.2.2.1 e.2.2.2 := List.forall_mem_cons.mpr ⟨mc_1_50_100, List.forall_mem_cons.mpr ⟨mc_1_54_0, List.forall_mem_cons.mpr ⟨mc_1_54_2, List.forall_mem_cons.mpr ⟨mc_1_54_3, List.forall_mem_cons.mpr ⟨mc_1_54_4, List.forall_mem_cons.mpr ⟨mc_1_54_6, List.forall_mem_cons.mpr ⟨mc_1_54_9, List.forall_mem_cons.mpr ⟨mc_1_60_0, List.forall_mem_cons.mpr ⟨mc_1_60_2, List.forall_mem_cons.mpr ⟨mc_1_60_3, List.forall_mem_cons.mpr ⟨mc_1_60_4, List.forall_mem_cons.mpr ⟨mc_1_60_6, List.forall_mem_cons.mpr ⟨mc_1_60_9, List.forall_mem_cons.mpr ⟨mc_1_64_0, List.forall_mem_cons.mpr ⟨mc_1_64_2, List.forall_mem_cons.mpr ⟨mc_1_64_3, List.forall_mem_cons.mpr ⟨mc_1_64_4, List.forall_mem_cons.mpr ⟨mc_1_64_6, List.forall_mem_cons.mpr ⟨mc_1_64_9, List.forall_mem_cons.mpr ⟨mc_1_68_1, List.forall_mem_cons.mpr ⟨mc_1_71_100, List.forall_mem_cons.mpr ⟨mc_1_80_1, List.forall_mem_cons.mpr ⟨mc_1_83_1, List.forall_mem_cons.mpr ⟨mc_1_86_1, List.forall_mem_cons.mpr ⟨mc_1_89_100, fun _ h => absurd h List.not_mem_nil⟩⟩⟩⟩⟩⟩⟩⟩⟩⟩⟩⟩⟩⟩⟩⟩⟩⟩⟩⟩⟩⟩⟩⟩⟩
theorem mc_2_1_100 : mx_CF 2 1 100 5 0 MX3_init := ⟨mg_X3_init, mh_X3_init.1, mh_X3_init.2.1, mh_X3_init.2.2, rfl, mq_42, mq_33, rfl, rfl⟩
theorem mc_2_7_100 : mx_CF 2 7 100 7 3 MX3_shows := ⟨mg_X3_shows, mh_X3_shows.1, mh_X3_shows.2.1, mh_X3_shows.2.2, rfl, mq_277, mq_270, by decide +kernel, mq_272, mq_43⟩
theorem mc_2_11_100 : mx_CF 2 11 100 1 2 MX10_bestIn := ⟨mg_X10_bestIn, mh_X10_bestIn.1, mh_X10_bestIn.2.1, mh_X10_bestIn.2.2, rfl, mq_278, mq_279⟩
theorem mc_2_17_100 : mx_CF 2 17 100 1 1 MX10_setOf := ⟨mg_X10_setOf, mh_X10_setOf.1, mh_X10_setOf.2.1, mh_X10_setOf.2.2, rfl, mq_281, mq_282⟩
theorem mx_CF_2 : ∀ e ∈ mx_call_l 2, mx_CF 2 e.1.1 e.1.2 e.2.1 e.2.2.1 e.2.2.2 := List.forall_mem_cons.mpr ⟨mc_2_1_100, List.forall_mem_cons.mpr ⟨mc_2_7_100, List.forall_mem_cons.mpr ⟨mc_2_11_100, List.forall_mem_cons.mpr ⟨mc_2_17_100, fun _ h => absurd h List.not_mem_nil⟩⟩⟩⟩
theorem mc_3_9_100 : mx_CF 3 9 100 1 2 MX10_bestIn := ⟨mg_X10_bestIn, mh_X10_bestIn.1, mh_X10_bestIn.2.1, mh_X10_bestIn.2.2, rfl, mq_327, mq_279⟩
theorem mx_CF_3 : ∀ e ∈ mx_call_l 3, mx_CF 3 e.1.1 e.1.2 e.2.1 e.2.2.1 e.2.2.2 := List.forall_mem_cons.mpr ⟨mc_3_9_100, fun _ h => absurd h List.not_mem_nil⟩
theorem mc_4_3_100 : mx_CF 4 3 100 5 0 MX3_init := ⟨mg_X3_init, mh_X3_init.1, mh_X3_init.2.1, mh_X3_init.2.2, rfl, mq_49, mq_33, rfl, rfl⟩
theorem mc_4_9_100 : mx_CF 4 9 100 1 2 MX10_worstIn := ⟨mg_X10_worstIn, mh_X10_worstIn.1, mh_X10_worstIn.2.1, mh_X10_worstIn.2.2, rfl, mq_316, mq_317⟩
theorem mc_4_13_100 : mx_CF 4 13 100 7 1 MX3_finds := ⟨mg_X3_finds, mh_X3_finds.1, mh_X3_finds.2.1, mh_X3_finds.2.2, rfl, mq_344, mq_333, by decide +kernel, mq_335, mq_50⟩
theorem mx_CF_4 : ∀ e ∈ mx_call_l 4, mx_CF 4 e.1.1 e.1.2 e.2.1 e.2.2.1 e.2.2.2 := List.forall_mem_cons.mpr ⟨mc_4_3_100, List.forall_mem_cons.mpr ⟨mc_4_9_100, List.forall_mem_cons.mpr ⟨mc_4_13_100, fun _ h => absurd h List.not_mem_nil⟩⟩⟩
theorem mc_5_22_100 : mx_CF 5 22 100 0 2 MJ7_fill_d0a16 := ⟨mg_J7_fill_d0a16, mh_J7_fill_d0a16.1, mh_J7_fill_d0a16.2.1, mh_J7_fill_d0a16.2.2, rfl, mq_644, mq_645⟩
theorem mx_CF_5 : ∀ e ∈ mx_call_l 5, mx_CF 5 e.1.1 e.1.2 e.2.1 e.2.2.1 e.2.2.2 := List.forall_mem_cons.mpr ⟨mc_5_22_100, fun _ h => absurd h List.not_mem_nil⟩
theorem mc_6_1_100 : mx_CF 6 1 100 5 0 MX2_init := ⟨mg_X2_init, mh_X2_init.1, mh_X2_init.2.1, mh_X2_init.2.2, rfl, mq_63, mq_40, rfl, rfl⟩
theorem mc_6_7_100 : mx_CF 6 7 100 7 3 MX2_shows := ⟨mg_X2_shows, mh_X2_shows.1, mh_X2_shows.2.1, mh_X2_shows.2.2, rfl, mq_288, mq_275, by decide +kernel, mq_1136, mq_64⟩
theorem mc_6_11_100 : mx_CF 6 11 100 1 2 MX10_bestIn := ⟨mg_X10_bestIn, mh_X10_bestIn.1, mh_X10_bestIn.2.1, mh_X10_bestIn.2.2, rfl, mq_289, mq_279⟩
theorem mc_6_17_100 : mx_CF 6 17 100 1 1 MX10_setOf := ⟨mg_X10_setOf, mh_X10_setOf.1, mh_X10_setOf.2.1, mh_X10_setOf.2.2, rfl, mq_290, mq_282⟩
theorem mx_CF_6 : ∀ e ∈ mx_call_l 6, mx_CF 6 e.1.1 e.1.2 e.2.1 e.2.2.1 e.2.2.2 := List.forall_mem_cons.mpr ⟨mc_6_1_100, List.forall_mem_cons.mpr ⟨mc_6_7_100, List.forall_mem_cons.mpr ⟨mc_6_11_100, List.forall_mem_cons.mpr ⟨mc_6_17_100, fun _ h => absurd h List.not_mem_nil⟩⟩⟩⟩
theorem mc_8_23_8 : mx_CF 8 23 8 2 0 MX8_next := ⟨mg_X8_next, mh_X8_next.1, mh_X8_next.2.1, mh_X8_next.2.2, by decide, mq_515, mq_517, mp_5⟩
theorem mc_8_26_8 : mx_CF 8 26 8 2 0 MX8_readItem := ⟨mg_X8_readItem, mh_X8_readItem.1, mh_X8_readItem.2.1, mh_X8_readItem.2.2, by decide, mq_536, mq_538, mp_10⟩
theorem mc_8_36_8 : mx_CF 8 36 8 2 0 MX8_kindNamed := ⟨mg_X8_kindNamed, mh_X8_kindNamed.1, mh_X8_kindNamed.2.1, mh_X8_kindNamed.2.2, by decide, mq_540, mq_542, mp_11⟩
theorem mc_8_40_8 : mx_CF 8 40 8 2 1 MX8_readPerson := ⟨mg_X8_readPerson, mh_X8_readPerson.1, mh_X8_readPerson.2.1, mh_X8_readPerson.2.2, by decide, mq_605, mq_607, mp_13⟩
theorem mc_8_46_8 : mx_CF 8 46 8 2 1 MX8_isWord := ⟨mg_X8_isWord, mh_X8_isWord.1, mh_X8_isWord.2.1, mh_X8_isWord.2.2, by decide, mq_553, mq_555, mp_12⟩
theorem mc_8_50_8 : mx_CF 8 50 8 2 0 MX8_readWorth := ⟨mg_X8_readWorth, mh_X8_readWorth.1, mh_X8_readWorth.2.1, mh_X8_readWorth.2.2, by decide, mq_623, mq_625, mp_16⟩
theorem mc_8_55_8 : mx_CF 8 55 8 2 0 MX8_readBurned := ⟨mg_X8_readBurned, mh_X8_readBurned.1, mh_X8_readBurned.2.1, mh_X8_readBurned.2.2, by decide, mq_628, mq_630, mp_17⟩
theorem mc_8_63_1 : mx_CF 8 63 1 2 1 MX1_addPerson := ⟨mg_X1_addPerson, mh_X1_addPerson.1, mh_X1_addPerson.2.1, mh_X1_addPerson.2.2, by decide, mq_609, mq_254, mq_255⟩
theorem mc_8_69_8 : mx_CF 8 69 8 2 1 MX8_isNumber := ⟨mg_X8_isNumber, mh_X8_isNumber.1, mh_X8_isNumber.2.1, mh_X8_isNumber.2.2, by decide, mq_611, mq_613, mp_14⟩
theorem mc_8_81_8 : mx_CF 8 81 8 2 1 MX8_readThings := ⟨mg_X8_readThings, mh_X8_readThings.1, mh_X8_readThings.2.1, mh_X8_readThings.2.2, by decide, mq_616, mq_618, mp_15⟩
theorem mc_8_92_100 : mx_CF 8 92 100 1 1 MX10_setOf := ⟨mg_X10_setOf, mh_X10_setOf.1, mh_X10_setOf.2.1, mh_X10_setOf.2.2, rfl, mq_620, mq_282⟩
theorem mc_8_100_20 : mx_CF 8 100 20 2 0 MJ0_length_8abf5 := ⟨mg_J0_length_8abf5, mh_J0_length_8abf5.1, mh_J0_length_8abf5.2.1, mh_J0_length_8abf5.2.2, by decide, mq_557, mq_558, mq_559⟩
theorem mc_8_110_20 : mx_CF 8 110 20 2 1 MJ0_charAt_5068e := ⟨mg_J0_charAt_5068e, mh_J0_charAt_5068e.1, mh_J0_charAt_5068e.2.1, mh_J0_charAt_5068e.2.2, by decide, mq_567, mq_568, mq_569⟩
theorem mc_8_114_100 : mx_CF 8 114 100 0 1 MX8_nameOfKind := ⟨mg_X8_nameOfKind, mh_X8_nameOfKind.1, mh_X8_nameOfKind.2.1, mh_X8_nameOfKind.2.2, rfl, mq_544, mq_545⟩
theorem mc_8_132_8 : mx_CF 8 132 8 2 1 MX8_isLetter := ⟨mg_X8_isLetter, mh_X8_isLetter.1, mh_X8_isLetter.2.1, mh_X8_isLetter.2.2, by decide, mq_519, mq_521, mp_6⟩
theorem mc_8_135_8 : mx_CF 8 135 8 2 0 MX8_passWord := ⟨mg_X8_passWord, mh_X8_passWord.1, mh_X8_passWord.2.1, mh_X8_passWord.2.2, by decide, mq_523, mq_525, mp_7⟩
theorem mc_8_138_8 : mx_CF 8 138 8 2 1 MX8_isDigit := ⟨mg_X8_isDigit, mh_X8_isDigit.1, mh_X8_isDigit.2.1, mh_X8_isDigit.2.2, by decide, mq_527, mq_529, mp_8⟩
theorem mc_8_141_8 : mx_CF 8 141 8 2 0 MX8_passNumber := ⟨mg_X8_passNumber, mh_X8_passNumber.1, mh_X8_passNumber.2.1, mh_X8_passNumber.2.2, by decide, mq_531, mq_533, mp_9⟩
theorem mx_CF_8 : ∀ e ∈ mx_call_l 8, mx_CF 8 e.1.1 e.1.2 e.2.1 e.2.2.1 e.2.2.2 := List.forall_mem_cons.mpr ⟨mc_8_23_8, List.forall_mem_cons.mpr ⟨mc_8_26_8, List.forall_mem_cons.mpr ⟨mc_8_36_8, List.forall_mem_cons.mpr ⟨mc_8_40_8, List.forall_mem_cons.mpr ⟨mc_8_46_8, List.forall_mem_cons.mpr ⟨mc_8_50_8, List.forall_mem_cons.mpr ⟨mc_8_55_8, List.forall_mem_cons.mpr ⟨mc_8_63_1, List.forall_mem_cons.mpr ⟨mc_8_69_8, List.forall_mem_cons.mpr ⟨mc_8_81_8, List.forall_mem_cons.mpr ⟨mc_8_92_100, List.forall_mem_cons.mpr ⟨mc_8_100_20, List.forall_mem_cons.mpr ⟨mc_8_110_20, List.forall_mem_cons.mpr ⟨mc_8_114_100, List.forall_mem_cons.mpr ⟨mc_8_132_8, List.forall_mem_cons.mpr ⟨mc_8_135_8, List.forall_mem_cons.mpr ⟨mc_8_138_8, List.forall_mem_cons.mpr ⟨mc_8_141_8, fun _ h => absurd h List.not_mem_nil⟩⟩⟩⟩⟩⟩⟩⟩⟩⟩⟩⟩⟩⟩⟩⟩⟩⟩
theorem mc_9_3_100 : mx_CF 9 3 100 5 0 MX4_init := ⟨mg_X4_init, mh_X4_init.1, mh_X4_init.2.1, mh_X4_init.2.2, rfl, mq_70, mq_47, rfl, rfl⟩
theorem mc_9_9_100 : mx_CF 9 9 100 9 3 MX3_shows := ⟨mg_X3_shows, mh_X3_shows.1, mh_X3_shows.2.1, mh_X3_shows.2.2, rfl, mq_294, mq_270, by decide +kernel, rfl, mq_295, mq_71, mq_50⟩
theorem mc_9_13_100 : mx_CF 9 13 100 7 2 MX4_taken := ⟨mg_X4_taken, mh_X4_taken.1, mh_X4_taken.2.1, mh_X4_taken.2.2, rfl, mq_323, mq_314, by decide +kernel, mq_1137, mq_71⟩
theorem mc_9_17_100 : mx_CF 9 17 100 1 1 MX10_setOf := ⟨mg_X10_setOf, mh_X10_setOf.1, mh_X10_setOf.2.1, mh_X10_setOf.2.2, rfl, mq_324, mq_282⟩
theorem mc_9_21_100 : mx_CF 9 21 100 1 2 MX10_worstIn := ⟨mg_X10_worstIn, mh_X10_worstIn.1, mh_X10_worstIn.2.1, mh_X10_worstIn.2.2, rfl, mq_325, mq_317⟩
theorem mx_CF_9 : ∀ e ∈ mx_call_l 9, mx_CF 9 e.1.1 e.1.2 e.2.1 e.2.2.1 e.2.2.2 := List.forall_mem_cons.mpr ⟨mc_9_3_100, List.forall_mem_cons.mpr ⟨mc_9_9_100, List.forall_mem_cons.mpr ⟨mc_9_13_100, List.forall_mem_cons.mpr ⟨mc_9_17_100, List.forall_mem_cons.mpr ⟨mc_9_21_100, fun _ h => absurd h List.not_mem_nil⟩⟩⟩⟩⟩
theorem mc_10_9_100 : mx_CF 10 9 100 5 0 MX3_init := ⟨mg_X3_init, mh_X3_init.1, mh_X3_init.2.1, mh_X3_init.2.2, rfl, mq_32, mq_33, rfl, rfl⟩
theorem mc_10_12_100 : mx_CF 10 12 100 5 0 MX2_init := ⟨mg_X2_init, mh_X2_init.1, mh_X2_init.2.1, mh_X2_init.2.2, rfl, mq_39, mq_40, rfl, rfl⟩
theorem mc_10_15_100 : mx_CF 10 15 100 5 0 MX4_init := ⟨mg_X4_init, mh_X4_init.1, mh_X4_init.2.1, mh_X4_init.2.2, rfl, mq_46, mq_47, rfl, rfl⟩
theorem mc_10_18_100 : mx_CF 10 18 100 5 0 MX0_init := ⟨mg_X0_init, mh_X0_init.1, mh_X0_init.2.1, mh_X0_init.2.2, rfl, mq_53, mq_54, rfl, rfl⟩
theorem mc_10_21_100 : mx_CF 10 21 100 5 0 MX6_init := ⟨mg_X6_init, mh_X6_init.1, mh_X6_init.2.1, mh_X6_init.2.2, rfl, mq_60, mq_61, rfl, rfl⟩
theorem mc_10_24_100 : mx_CF 10 24 100 5 0 MX9_init := ⟨mg_X9_init, mh_X9_init.1, mh_X9_init.2.1, mh_X9_init.2.2, rfl, mq_67, mq_68, rfl, rfl⟩
theorem mc_10_27_100 : mx_CF 10 27 100 4 1 MX1_init := ⟨mg_X1_init, mh_X1_init.1, mh_X1_init.2.1, mh_X1_init.2.2, rfl, mq_74, mq_75, rfl, rfl⟩
theorem mc_10_48_100 : mx_CF 10 48 100 5 0 MX7_init := ⟨mg_X7_init, mh_X7_init.1, mh_X7_init.2.1, mh_X7_init.2.2, rfl, mq_127, mq_128, rfl, rfl⟩
theorem mc_10_55_100 : mx_CF 10 55 100 4 2 MX8_init := ⟨mg_X8_init, mh_X8_init.1, mh_X8_init.2.1, mh_X8_init.2.2, rfl, mq_143, mq_144, rfl, rfl⟩
theorem mc_10_68_100 : mx_CF 10 68 100 5 0 MX5_init := ⟨mg_X5_init, mh_X5_init.1, mh_X5_init.2.1, mh_X5_init.2.2, rfl, mq_169, mq_170, rfl, rfl⟩
theorem mc_10_73_100 : mx_CF 10 73 100 0 1 MX10_isThing := ⟨mg_X10_isThing, mh_X10_isThing.1, mh_X10_isThing.2.1, mh_X10_isThing.2.2, rfl, mq_216, mq_217⟩
theorem mc_10_77_100 : mx_CF 10 77 100 0 1 MX10_isWorth := ⟨mg_X10_isWorth, mh_X10_isWorth.1, mh_X10_isWorth.2.1, mh_X10_isWorth.2.2, rfl, mq_222, mq_223⟩
theorem mc_10_81_10 : mx_CF 10 81 10 2 1 MX10_found := ⟨mg_X10_found, mh_X10_found.1, mh_X10_found.2.1, mh_X10_found.2.2, by decide, mq_226, mq_228, mp_0⟩
theorem mc_10_92_1 : mx_CF 10 92 1 2 2 MX1_has := ⟨mg_X1_has, mh_X1_has.1, mh_X1_has.2.1, mh_X1_has.2.2, by decide, mq_238, mq_239, mq_240⟩
theorem mc_10_96_100 : mx_CF 10 96 100 0 1 MX10_isKind := ⟨mg_X10_isKind, mh_X10_isKind.1, mh_X10_isKind.2.1, mh_X10_isKind.2.2, rfl, mq_249, mq_250⟩
theorem mc_10_100_1 : mx_CF 10 100 1 2 1 MX1_addPerson := ⟨mg_X1_addPerson, mh_X1_addPerson.1, mh_X1_addPerson.2.1, mh_X1_addPerson.2.2, by decide, mq_253, mq_254, mq_255⟩
theorem mc_10_103_10 : mx_CF 10 103 10 2 1 MX10_isPerson := ⟨mg_X10_isPerson, mh_X10_isPerson.1, mh_X10_isPerson.2.1, mh_X10_isPerson.2.2, by decide, mq_261, mq_263, mp_1⟩
theorem mc_10_121_1 : mx_CF 10 121 1 2 1 MX1_shownBy := ⟨mg_X1_shownBy, mh_X1_shownBy.1, mh_X1_shownBy.2.1, mh_X1_shownBy.2.2, by decide, mq_265, mq_266, mq_267⟩
theorem mc_10_124_1 : mx_CF 10 124 1 2 1 MX1_takenFrom := ⟨mg_X1_takenFrom, mh_X1_takenFrom.1, mh_X1_takenFrom.2.1, mh_X1_takenFrom.2.2, by decide, mq_298, mq_299, mq_300⟩
theorem mc_10_127_1 : mx_CF 10 127 1 2 1 MX1_foundNextBy := ⟨mg_X1_foundNextBy, mh_X1_foundNextBy.1, mh_X1_foundNextBy.2.1, mh_X1_foundNextBy.2.2, by decide, mq_328, mq_329, mq_330⟩
theorem mc_10_130_1 : mx_CF 10 130 1 2 1 MX1_pocketWorth := ⟨mg_X1_pocketWorth, mh_X1_pocketWorth.1, mh_X1_pocketWorth.2.1, mh_X1_pocketWorth.2.2, by decide, mq_350, mq_351, mq_352⟩
theorem mc_10_133_10 : mx_CF 10 133 10 2 5 MX10_replace := ⟨mg_X10_replace, mh_X10_replace.1, mh_X10_replace.2.1, mh_X10_replace.2.2, by decide, mq_359, mq_361, mp_2⟩
theorem mc_10_138_100 : mx_CF 10 138 100 0 2 MX10_isUnder := ⟨mg_X10_isUnder, mh_X10_isUnder.1, mh_X10_isUnder.2.1, mh_X10_isUnder.2.2, rfl, mq_372, mq_373⟩
theorem mc_10_142_100 : mx_CF 10 142 100 0 1 MX10_setOf := ⟨mg_X10_setOf, mh_X10_setOf.1, mh_X10_setOf.2.1, mh_X10_setOf.2.2, rfl, mq_382, mq_282⟩
theorem mc_10_146_1 : mx_CF 10 146 1 2 1 MX1_holdBorder := ⟨mg_X1_holdBorder, mh_X1_holdBorder.1, mh_X1_holdBorder.2.1, mh_X1_holdBorder.2.2, by decide, mq_392, mq_393, mq_394⟩
theorem mc_10_149_100 : mx_CF 10 149 100 0 3 MX10_isWithin := ⟨mg_X10_isWithin, mh_X10_isWithin.1, mh_X10_isWithin.2.1, mh_X10_isWithin.2.2, rfl, mq_219, mq_220⟩
theorem mc_10_156_1 : mx_CF 10 156 1 2 1 MX1_passYears := ⟨mg_X1_passYears, mh_X1_passYears.1, mh_X1_passYears.2.1, mh_X1_passYears.2.2, by decide, mq_405, mq_406, mq_407⟩
theorem mc_10_160_1 : mx_CF 10 160 1 2 0 MX1_lostByAll := ⟨mg_X1_lostByAll, mh_X1_lostByAll.1, mh_X1_lostByAll.2.1, mh_X1_lostByAll.2.2, by decide, mq_410, mq_411, mq_412⟩
theorem mc_10_167_1 : mx_CF 10 167 1 2 0 MX1_theOldest := ⟨mg_X1_theOldest, mh_X1_theOldest.1, mh_X1_theOldest.2.1, mh_X1_theOldest.2.2, by decide, mq_418, mq_419, mq_420⟩
theorem mc_10_170_1 : mx_CF 10 170 1 2 0 MX1_worthOfAllPockets := ⟨mg_X1_worthOfAllPockets, mh_X1_worthOfAllPockets.1, mh_X1_worthOfAllPockets.2.1, mh_X1_worthOfAllPockets.2.2, by decide, mq_422, mq_423, mq_424⟩
theorem mc_10_173_1 : mx_CF 10 173 1 2 0 MX1_ownedThings := ⟨mg_X1_ownedThings, mh_X1_ownedThings.1, mh_X1_ownedThings.2.1, mh_X1_ownedThings.2.2, by decide, mq_427, mq_428, mq_429⟩
theorem mc_10_176_1 : mx_CF 10 176 1 2 1 MX1_becomes := ⟨mg_X1_becomes, mh_X1_becomes.1, mh_X1_becomes.2.1, mh_X1_becomes.2.2, by decide, mq_435, mq_436, mq_437⟩
theorem mc_10_180_10 : mx_CF 10 180 10 2 3 MX10_firstYear := ⟨mg_X10_firstYear, mh_X10_firstYear.1, mh_X10_firstYear.2.1, mh_X10_firstYear.2.2, by decide, mq_446, mq_448, mp_3⟩
theorem mc_10_184_100 : mx_CF 10 184 100 0 2 MX10_contains := ⟨mg_X10_contains, mh_X10_contains.1, mh_X10_contains.2.1, mh_X10_contains.2.2, rfl, mq_459, mq_243⟩
theorem mc_10_188_100 : mx_CF 10 188 100 0 1 MJ6_bitCount_0f7a4 := ⟨mg_J6_bitCount_0f7a4, mh_J6_bitCount_0f7a4.1, mh_J6_bitCount_0f7a4.2.1, mh_J6_bitCount_0f7a4.2.2, rfl, mq_484, mq_485⟩
theorem mc_10_194_10 : mx_CF 10 194 10 2 4 MX10_staysWithout := ⟨mg_X10_staysWithout, mh_X10_staysWithout.1, mh_X10_staysWithout.2.1, mh_X10_staysWithout.2.2, by decide, mq_491, mq_493, mp_4⟩
theorem mc_10_201_7 : mx_CF 10 201 7 2 1 MX7_append := ⟨mg_X7_append, mh_X7_append.1, mh_X7_append.2.1, mh_X7_append.2.2, by decide, mq_499, mq_500, mq_501⟩
theorem mc_10_204_8 : mx_CF 10 204 8 2 0 MX8_readText := ⟨mg_X8_readText, mh_X8_readText.1, mh_X8_readText.2.1, mh_X8_readText.2.2, by decide, mq_511, mq_512, mq_513⟩
theorem mc_10_207_100 : mx_CF 10 207 100 0 1 MX10_isSheet := ⟨mg_X10_isSheet, mh_X10_isSheet.1, mh_X10_isSheet.2.1, mh_X10_isSheet.2.2, rfl, mq_637, mq_638⟩
theorem mc_10_210_5 : mx_CF 10 210 5 2 2 MX5_begin := ⟨mg_X5_begin, mh_X5_begin.1, mh_X5_begin.2.1, mh_X5_begin.2.2, by decide, mq_640, mq_641, mq_642⟩
theorem mc_10_217_5 : mx_CF 10 217 5 2 0 MX5_isMissing := ⟨mg_X5_isMissing, mh_X5_isMissing.1, mh_X5_isMissing.2.1, mh_X5_isMissing.2.2, by decide, mq_651, mq_652, mq_653⟩
theorem mc_10_226_5 : mx_CF 10 226 5 2 2 MX5_put := ⟨mg_X5_put, mh_X5_put.1, mh_X5_put.2.1, mh_X5_put.2.2, by decide, mq_656, mq_657, mq_658⟩
theorem mc_10_233_5 : mx_CF 10 233 5 2 2 MX5_reaches := ⟨mg_X5_reaches, mh_X5_reaches.1, mh_X5_reaches.2.1, mh_X5_reaches.2.2, by decide, mq_664, mq_665, mq_666⟩
theorem mc_10_244_10 : mx_CF 10 244 10 2 4 MX10_makes := ⟨mg_X10_makes, mh_X10_makes.1, mh_X10_makes.2.1, mh_X10_makes.2.2, by decide, mq_682, mq_684, mp_18⟩
theorem mc_10_248_1 : mx_CF 10 248 1 2 0 MX1_agesOfAll := ⟨mg_X1_agesOfAll, mh_X1_agesOfAll.1, mh_X1_agesOfAll.2.1, mh_X1_agesOfAll.2.2, by decide, mq_702, mq_703, mq_704⟩
theorem mc_10_251_1 : mx_CF 10 251 1 2 0 MX1_thingsInPockets := ⟨mg_X1_thingsInPockets, mh_X1_thingsInPockets.1, mh_X1_thingsInPockets.2.1, mh_X1_thingsInPockets.2.2, by decide, mq_706, mq_707, mq_708⟩
theorem mx_CF_10 : ∀ e ∈ mx_call_l 10, mx_CF 10 e.1.1 e.1.2 e.2.1 e.2.2.1 e.2.2.2 := List.forall_mem_cons.mpr ⟨mc_10_9_100, List.forall_mem_cons.mpr ⟨mc_10_12_100, List.forall_mem_cons.mpr ⟨mc_10_15_100, List.forall_mem_cons.mpr ⟨mc_10_18_100, List.forall_mem_cons.mpr ⟨mc_10_21_100, List.forall_mem_cons.mpr ⟨mc_10_24_100, List.forall_mem_cons.mpr ⟨mc_10_27_100, List.forall_mem_cons.mpr ⟨mc_10_48_100, List.forall_mem_cons.mpr ⟨mc_10_55_100, List.forall_mem_cons.mpr ⟨mc_10_68_100, List.forall_mem_cons.mpr ⟨mc_10_73_100, List.forall_mem_cons.mpr ⟨mc_10_77_100, List.forall_mem_cons.mpr ⟨mc_10_81_10, List.forall_mem_cons.mpr ⟨mc_10_92_1, List.forall_mem_cons.mpr ⟨mc_10_96_100, List.forall_mem_cons.mpr ⟨mc_10_100_1, List.forall_mem_cons.mpr ⟨mc_10_103_10, List.forall_mem_cons.mpr ⟨mc_10_121_1, List.forall_mem_cons.mpr ⟨mc_10_124_1, List.forall_mem_cons.mpr ⟨mc_10_127_1, List.forall_mem_cons.mpr ⟨mc_10_130_1, List.forall_mem_cons.mpr ⟨mc_10_133_10, List.forall_mem_cons.mpr ⟨mc_10_138_100, List.forall_mem_cons.mpr ⟨mc_10_142_100, List.forall_mem_cons.mpr ⟨mc_10_146_1, List.forall_mem_cons.mpr ⟨mc_10_149_100, List.forall_mem_cons.mpr ⟨mc_10_156_1, List.forall_mem_cons.mpr ⟨mc_10_160_1, List.forall_mem_cons.mpr ⟨mc_10_167_1, List.forall_mem_cons.mpr ⟨mc_10_170_1, List.forall_mem_cons.mpr ⟨mc_10_173_1, List.forall_mem_cons.mpr ⟨mc_10_176_1, List.forall_mem_cons.mpr ⟨mc_10_180_10, List.forall_mem_cons.mpr ⟨mc_10_184_100, List.forall_mem_cons.mpr ⟨mc_10_188_100, List.forall_mem_cons.mpr ⟨mc_10_194_10, List.forall_mem_cons.mpr ⟨mc_10_201_7, List.forall_mem_cons.mpr ⟨mc_10_204_8, List.forall_mem_cons.mpr ⟨mc_10_207_100, List.forall_mem_cons.mpr ⟨mc_10_210_5, List.forall_mem_cons.mpr ⟨mc_10_217_5, List.forall_mem_cons.mpr ⟨mc_10_226_5, List.forall_mem_cons.mpr ⟨mc_10_233_5, List.forall_mem_cons.mpr ⟨mc_10_244_10, List.forall_mem_cons.mpr ⟨mc_10_248_1, List.forall_mem_cons.mpr ⟨mc_10_251_1, fun _ h => absurd h List.not_mem_nil⟩⟩⟩⟩⟩⟩⟩⟩⟩⟩⟩⟩⟩⟩⟩⟩⟩⟩⟩⟩⟩⟩⟩⟩⟩⟩⟩⟩⟩⟩⟩⟩⟩⟩⟩⟩⟩⟩⟩⟩⟩⟩⟩⟩⟩⟩
theorem mc_11_45_100 : mx_CF 11 45 100 0 3 MX11_in := ⟨mg_X11_in, mh_X11_in.1, mh_X11_in.2.1, mh_X11_in.2.2, rfl, mq_786, mq_787⟩
theorem mc_11_49_100 : mx_CF 11 49 100 0 1 MX11_isThing := ⟨mg_X11_isThing, mh_X11_isThing.1, mh_X11_isThing.2.1, mh_X11_isThing.2.2, rfl, mq_783, mq_784⟩
theorem mc_11_53_11 : mx_CF 11 53 11 2 2 MX11_becomes := ⟨mg_X11_becomes, mh_X11_becomes.1, mh_X11_becomes.2.1, mh_X11_becomes.2.2, by decide, mq_789, mq_791, mp_19⟩
theorem mc_11_57_11 : mx_CF 11 57 11 2 1 MX11_finds := ⟨mg_X11_finds, mh_X11_finds.1, mh_X11_finds.2.1, mh_X11_finds.2.2, by decide, mq_794, mq_796, mp_20⟩
theorem mc_11_61_11 : mx_CF 11 61 11 2 2 MX11_its := ⟨mg_X11_its, mh_X11_its.1, mh_X11_its.2.1, mh_X11_its.2.2, by decide, mq_806, mq_808, mp_21⟩
theorem mc_11_64_11 : mx_CF 11 64 11 2 1 MX11_bestOf := ⟨mg_X11_bestOf, mh_X11_bestOf.1, mh_X11_bestOf.2.1, mh_X11_bestOf.2.2, by decide, mq_838, mq_840, mp_26⟩
theorem mc_11_67_100 : mx_CF 11 67 100 0 2 MX11_but := ⟨mg_X11_but, mh_X11_but.1, mh_X11_but.2.1, mh_X11_but.2.2, rfl, mq_842, mq_843⟩
theorem mc_11_70_11 : mx_CF 11 70 11 2 1 MX11_shows := ⟨mg_X11_shows, mh_X11_shows.1, mh_X11_shows.2.1, mh_X11_shows.2.2, by decide, mq_834, mq_836, mp_25⟩
theorem mc_11_73_11 : mx_CF 11 73 11 2 1 MX11_worstOf := ⟨mg_X11_worstOf, mh_X11_worstOf.1, mh_X11_worstOf.2.1, mh_X11_worstOf.2.2, by decide, mq_849, mq_851, mp_28⟩
theorem mc_11_76_100 : mx_CF 11 76 100 0 1 MX11_lastOf := ⟨mg_X11_lastOf, mh_X11_lastOf.1, mh_X11_lastOf.2.1, mh_X11_lastOf.2.2, rfl, mq_853, mq_854⟩
theorem mc_11_79_100 : mx_CF 11 79 100 0 1 MX11_bits := ⟨mg_X11_bits, mh_X11_bits.1, mh_X11_bits.2.1, mh_X11_bits.2.2, rfl, mq_856, mq_857⟩
theorem mc_11_82_11 : mx_CF 11 82 11 2 3 MX11_puts := ⟨mg_X11_puts, mh_X11_puts.1, mh_X11_puts.2.1, mh_X11_puts.2.2, by decide, mq_822, mq_824, mp_23⟩
theorem mc_11_86_100 : mx_CF 11 86 100 0 1 MX11_isKind := ⟨mg_X11_isKind, mh_X11_isKind.1, mh_X11_isKind.2.1, mh_X11_isKind.2.2, rfl, mq_814, mq_815⟩
theorem mc_11_90_11 : mx_CF 11 90 11 2 4 MX11_adds := ⟨mg_X11_adds, mh_X11_adds.1, mh_X11_adds.2.1, mh_X11_adds.2.2, by decide, mq_818, mq_820, mp_22⟩
theorem mc_11_94_11 : mx_CF 11 94 11 2 1 MX11_isOne := ⟨mg_X11_isOne, mh_X11_isOne.1, mh_X11_isOne.2.1, mh_X11_isOne.2.2, by decide, mq_830, mq_832, mp_24⟩
theorem mc_11_97_11 : mx_CF 11 97 11 2 1 MX11_taken := ⟨mg_X11_taken, mh_X11_taken.1, mh_X11_taken.2.1, mh_X11_taken.2.2, by decide, mq_845, mq_847, mp_27⟩
theorem mc_11_100_11 : mx_CF 11 100 11 2 2 MX11_findsAt := ⟨mg_X11_findsAt, mh_X11_findsAt.1, mh_X11_findsAt.2.1, mh_X11_findsAt.2.2, by decide, mq_859, mq_861, mp_29⟩
theorem mc_11_103_11 : mx_CF 11 103 11 2 1 MX11_valueOf := ⟨mg_X11_valueOf, mh_X11_valueOf.1, mh_X11_valueOf.2.1, mh_X11_valueOf.2.2, by decide, mq_863, mq_865, mp_30⟩
theorem mc_11_107_11 : mx_CF 11 107 11 2 2 MX11_isPart := ⟨mg_X11_isPart, mh_X11_isPart.1, mh_X11_isPart.2.1, mh_X11_isPart.2.2, by decide, mq_871, mq_873, mp_31⟩
theorem mc_11_112_11 : mx_CF 11 112 11 2 2 MX11_has := ⟨mg_X11_has, mh_X11_has.1, mh_X11_has.2.1, mh_X11_has.2.2, by decide, mq_889, mq_891, mp_32⟩
theorem mc_11_116_100 : mx_CF 11 116 100 0 3 MX11_held := ⟨mg_X11_held, mh_X11_held.1, mh_X11_held.2.1, mh_X11_held.2.2, rfl, mq_906, mq_907⟩
theorem mc_11_120_11 : mx_CF 11 120 11 2 1 MX11_crosses := ⟨mg_X11_crosses, mh_X11_crosses.1, mh_X11_crosses.2.1, mh_X11_crosses.2.2, by decide, mq_902, mq_904, mp_33⟩
theorem mc_11_123_11 : mx_CF 11 123 11 2 1 MX11_ages := ⟨mg_X11_ages, mh_X11_ages.1, mh_X11_ages.2.1, mh_X11_ages.2.2, by decide, mq_921, mq_923, mp_36⟩
theorem mc_11_127_11 : mx_CF 11 127 11 2 0 MX11_oneYear := ⟨mg_X11_oneYear, mh_X11_oneYear.1, mh_X11_oneYear.2.1, mh_X11_oneYear.2.2, by decide, mq_917, mq_919, mp_35⟩
theorem mc_11_130_11 : mx_CF 11 130 11 2 1 MX11_passes := ⟨mg_X11_passes, mh_X11_passes.1, mh_X11_passes.2.1, mh_X11_passes.2.2, by decide, mq_913, mq_915, mp_34⟩
theorem mc_11_133_11 : mx_CF 11 133 11 2 1 MX11_sumOf := ⟨mg_X11_sumOf, mh_X11_sumOf.1, mh_X11_sumOf.2.1, mh_X11_sumOf.2.2, by decide, mq_925, mq_927, mp_37⟩
theorem mc_11_136_11 : mx_CF 11 136 11 2 0 MX11_oldest := ⟨mg_X11_oldest, mh_X11_oldest.1, mh_X11_oldest.2.1, mh_X11_oldest.2.2, by decide, mq_933, mq_935, mp_38⟩
theorem mc_11_140_11 : mx_CF 11 140 11 2 0 MX11_valueOfAll := ⟨mg_X11_valueOfAll, mh_X11_valueOfAll.1, mh_X11_valueOfAll.2.1, mh_X11_valueOfAll.2.2, by decide, mq_937, mq_939, mp_39⟩
theorem mc_11_143_11 : mx_CF 11 143 11 2 0 MX11_hadByAny := ⟨mg_X11_hadByAny, mh_X11_hadByAny.1, mh_X11_hadByAny.2.1, mh_X11_hadByAny.2.2, by decide, mq_941, mq_943, mp_40⟩
theorem mc_11_146_11 : mx_CF 11 146 11 2 2 MX11_moveAll := ⟨mg_X11_moveAll, mh_X11_moveAll.1, mh_X11_moveAll.2.1, mh_X11_moveAll.2.2, by decide, mq_949, mq_951, mp_41⟩
theorem mc_11_151_11 : mx_CF 11 151 11 2 3 MX11_firstOf := ⟨mg_X11_firstOf, mh_X11_firstOf.1, mh_X11_firstOf.2.1, mh_X11_firstOf.2.2, by decide, mq_957, mq_959, mp_42⟩
theorem mc_11_154_11 : mx_CF 11 154 11 2 4 MX11_valueWith := ⟨mg_X11_valueWith, mh_X11_valueWith.1, mh_X11_valueWith.2.1, mh_X11_valueWith.2.2, by decide, mq_974, mq_976, mp_43⟩
theorem mc_11_169_11 : mx_CF 11 169 11 2 1 MX11_byteAt := ⟨mg_X11_byteAt, mh_X11_byteAt.1, mh_X11_byteAt.2.1, mh_X11_byteAt.2.2, by decide, mq_1015, mq_1017, mp_45⟩
theorem mc_11_172_100 : mx_CF 11 172 100 0 1 MX11_isLetter := ⟨mg_X11_isLetter, mh_X11_isLetter.1, mh_X11_isLetter.2.1, mh_X11_isLetter.2.2, rfl, mq_1019, mq_1020⟩
theorem mc_11_175_100 : mx_CF 11 175 100 0 1 MX11_isDigit := ⟨mg_X11_isDigit, mh_X11_isDigit.1, mh_X11_isDigit.2.1, mh_X11_isDigit.2.2, rfl, mq_1022, mq_1023⟩
theorem mc_11_196_11 : mx_CF 11 196 11 2 1 MX11_isWord := ⟨mg_X11_isWord, mh_X11_isWord.1, mh_X11_isWord.2.1, mh_X11_isWord.2.2, by decide, mq_1037, mq_1039, mp_48⟩
theorem mc_11_214_11 : mx_CF 11 214 11 2 0 MX11_advance := ⟨mg_X11_advance, mh_X11_advance.1, mh_X11_advance.2.1, mh_X11_advance.2.2, by decide, mq_1011, mq_1013, mp_44⟩
theorem mc_11_217_11 : mx_CF 11 217 11 2 2 MX11_wantNumber := ⟨mg_X11_wantNumber, mh_X11_wantNumber.1, mh_X11_wantNumber.2.1, mh_X11_wantNumber.2.2, by decide, mq_1055, mq_1057, mp_51⟩
theorem mc_11_224_11 : mx_CF 11 224 11 2 4 MX11_mayWant := ⟨mg_X11_mayWant, mh_X11_mayWant.1, mh_X11_mayWant.2.1, mh_X11_mayWant.2.2, by decide, mq_1051, mq_1053, mp_50⟩
theorem mc_11_228_11 : mx_CF 11 228 11 2 0 MX11_mayHave := ⟨mg_X11_mayHave, mh_X11_mayHave.1, mh_X11_mayHave.2.1, mh_X11_mayHave.2.2, by decide, mq_1059, mq_1061, mp_52⟩
theorem mc_11_233_11 : mx_CF 11 233 11 2 0 MX11_kindHere := ⟨mg_X11_kindHere, mh_X11_kindHere.1, mh_X11_kindHere.2.1, mh_X11_kindHere.2.2, by decide, mq_1032, mq_1034, mp_47⟩
theorem mc_11_236_11 : mx_CF 11 236 11 2 1 MX11_wantOne := ⟨mg_X11_wantOne, mh_X11_wantOne.1, mh_X11_wantOne.2.1, mh_X11_wantOne.2.2, by decide, mq_1046, mq_1048, mp_49⟩
theorem mc_11_243_11 : mx_CF 11 243 11 2 0 MX11_wantItem := ⟨mg_X11_wantItem, mh_X11_wantItem.1, mh_X11_wantItem.2.1, mh_X11_wantItem.2.2, by decide, mq_1028, mq_1030, mp_46⟩
theorem mc_11_246_100 : mx_CF 11 246 100 0 1 MX11_isSheet := ⟨mg_X11_isSheet, mh_X11_isSheet.1, mh_X11_isSheet.2.1, mh_X11_isSheet.2.2, rfl, mq_1071, mq_1072⟩
theorem mc_11_250_100 : mx_CF 11 250 100 0 2 MX11_narrow := ⟨mg_X11_narrow, mh_X11_narrow.1, mh_X11_narrow.2.1, mh_X11_narrow.2.2, rfl, mq_1079, mq_1080⟩
theorem mc_11_254_11 : mx_CF 11 254 11 2 3 MX11_isPart_ := ⟨mg_X11_isPart_, mh_X11_isPart_.1, mh_X11_isPart_.2.1, mh_X11_isPart_.2.2, by decide, mq_1086, mq_1088, mp_53⟩
theorem mc_11_256_11 : mx_CF 11 256 11 2 1 MX11_badSheet := ⟨mg_X11_badSheet, mh_X11_badSheet.1, mh_X11_badSheet.2.1, mh_X11_badSheet.2.2, by decide, mq_1094, mq_1096, mp_54⟩
theorem mc_11_261_11 : mx_CF 11 261 11 2 2 MX11_isSo := ⟨mg_X11_isSo, mh_X11_isSo.1, mh_X11_isSo.2.1, mh_X11_isSo.2.2, by decide, mq_1107, mq_1109, mp_55⟩
theorem mc_11_267_11 : mx_CF 11 267 11 2 0 MX11_thingsOf := ⟨mg_X11_thingsOf, mh_X11_thingsOf.1, mh_X11_thingsOf.2.1, mh_X11_thingsOf.2.2, by decide, mq_1127, mq_1129, mp_56⟩
theorem mx_CF_11 : ∀ e ∈ mx_call_l 11, mx_CF 11 e.1.1 e.1.2 e.2.1 e.2.2.1 e.2.2.2 := List.forall_mem_cons.mpr ⟨mc_11_45_100, List.forall_mem_cons.mpr ⟨mc_11_49_100, List.forall_mem_cons.mpr ⟨mc_11_53_11, List.forall_mem_cons.mpr ⟨mc_11_57_11, List.forall_mem_cons.mpr ⟨mc_11_61_11, List.forall_mem_cons.mpr ⟨mc_11_64_11, List.forall_mem_cons.mpr ⟨mc_11_67_100, List.forall_mem_cons.mpr ⟨mc_11_70_11, List.forall_mem_cons.mpr ⟨mc_11_73_11, List.forall_mem_cons.mpr ⟨mc_11_76_100, List.forall_mem_cons.mpr ⟨mc_11_79_100, List.forall_mem_cons.mpr ⟨mc_11_82_11, List.forall_mem_cons.mpr ⟨mc_11_86_100, List.forall_mem_cons.mpr ⟨mc_11_90_11, List.forall_mem_cons.mpr ⟨mc_11_94_11, List.forall_mem_cons.mpr ⟨mc_11_97_11, List.forall_mem_cons.mpr ⟨mc_11_100_11, List.forall_mem_cons.mpr ⟨mc_11_103_11, List.forall_mem_cons.mpr ⟨mc_11_107_11, List.forall_mem_cons.mpr ⟨mc_11_112_11, List.forall_mem_cons.mpr ⟨mc_11_116_100, List.forall_mem_cons.mpr ⟨mc_11_120_11, List.forall_mem_cons.mpr ⟨mc_11_123_11, List.forall_mem_cons.mpr ⟨mc_11_127_11, List.forall_mem_cons.mpr ⟨mc_11_130_11, List.forall_mem_cons.mpr ⟨mc_11_133_11, List.forall_mem_cons.mpr ⟨mc_11_136_11, List.forall_mem_cons.mpr ⟨mc_11_140_11, List.forall_mem_cons.mpr ⟨mc_11_143_11, List.forall_mem_cons.mpr ⟨mc_11_146_11, List.forall_mem_cons.mpr ⟨mc_11_151_11, List.forall_mem_cons.mpr ⟨mc_11_154_11, List.forall_mem_cons.mpr ⟨mc_11_169_11, List.forall_mem_cons.mpr ⟨mc_11_172_100, List.forall_mem_cons.mpr ⟨mc_11_175_100, List.forall_mem_cons.mpr ⟨mc_11_196_11, List.forall_mem_cons.mpr ⟨mc_11_214_11, List.forall_mem_cons.mpr ⟨mc_11_217_11, List.forall_mem_cons.mpr ⟨mc_11_224_11, List.forall_mem_cons.mpr ⟨mc_11_228_11, List.forall_mem_cons.mpr ⟨mc_11_233_11, List.forall_mem_cons.mpr ⟨mc_11_236_11, List.forall_mem_cons.mpr ⟨mc_11_243_11, List.forall_mem_cons.mpr ⟨mc_11_246_100, List.forall_mem_cons.mpr ⟨mc_11_250_100, List.forall_mem_cons.mpr ⟨mc_11_254_11, List.forall_mem_cons.mpr ⟨mc_11_256_11, List.forall_mem_cons.mpr ⟨mc_11_261_11, List.forall_mem_cons.mpr ⟨mc_11_267_11, fun _ h => absurd h List.not_mem_nil⟩⟩⟩⟩⟩⟩⟩⟩⟩⟩⟩⟩⟩⟩⟩⟩⟩⟩⟩⟩⟩⟩⟩⟩⟩⟩⟩⟩⟩⟩⟩⟩⟩⟩⟩⟩⟩⟩⟩⟩⟩⟩⟩⟩⟩⟩⟩⟩⟩
theorem mc_12_9_100 : mx_CF 12 9 100 4 0 MX10_init := ⟨mg_X10_init, mh_X10_init.1, mh_X10_init.2.1, mh_X10_init.2.2, rfl, mq_23, mq_24, rfl, rfl⟩
theorem mc_12_12_100 : mx_CF 12 12 100 4 0 MX11_init := ⟨mg_X11_init, mh_X11_init.1, mh_X11_init.2.1, mh_X11_init.2.2, rfl, mq_717, mq_718, rfl, rfl⟩
theorem mc_12_13_10 : mx_CF 12 13 10 2 2 MX10_worth := ⟨mg_X10_worth, mh_X10_worth.1, mh_X10_worth.2.1, mh_X10_worth.2.2, by decide, mq_212, mq_213, mq_214⟩
theorem mc_12_17_11 : mx_CF 12 17 11 2 2 MX11_worth := ⟨mg_X11_worth, mh_X11_worth.1, mh_X11_worth.2.1, mh_X11_worth.2.2, by decide, mq_779, mq_780, mq_781⟩
theorem mc_12_18_10 : mx_CF 12 18 10 2 1 MX10_worthOf := ⟨mg_X10_worthOf, mh_X10_worthOf.1, mh_X10_worthOf.2.1, mh_X10_worthOf.2.2, by decide, mq_230, mq_231, mq_232⟩
theorem mc_12_22_11 : mx_CF 12 22 11 2 1 MX11_worthOf := ⟨mg_X11_worthOf, mh_X11_worthOf.1, mh_X11_worthOf.2.1, mh_X11_worthOf.2.2, by decide, mq_798, mq_799, mq_800⟩
theorem mc_12_23_10 : mx_CF 12 23 10 2 1 MX10_who := ⟨mg_X10_who, mh_X10_who.1, mh_X10_who.2.1, mh_X10_who.2.2, by decide, mq_234, mq_235, mq_236⟩
theorem mc_12_26_11 : mx_CF 12 26 11 2 1 MX11_who := ⟨mg_X11_who, mh_X11_who.1, mh_X11_who.2.1, mh_X11_who.2.2, by decide, mq_802, mq_803, mq_804⟩
theorem mc_12_27_10 : mx_CF 12 27 10 2 1 MX10_person := ⟨mg_X10_person, mh_X10_person.1, mh_X10_person.2.1, mh_X10_person.2.2, by decide, mq_245, mq_246, mq_247⟩
theorem mc_12_30_11 : mx_CF 12 30 11 2 1 MX11_person := ⟨mg_X11_person, mh_X11_person.1, mh_X11_person.2.1, mh_X11_person.2.2, by decide, mq_810, mq_811, mq_812⟩
theorem mc_12_31_10 : mx_CF 12 31 10 2 2 MX10_of := ⟨mg_X10_of, mh_X10_of.1, mh_X10_of.2.1, mh_X10_of.2.2, by decide, mq_257, mq_258, mq_259⟩
theorem mc_12_34_11 : mx_CF 12 34 11 2 2 MX11_of := ⟨mg_X11_of, mh_X11_of.1, mh_X11_of.2.1, mh_X11_of.2.2, by decide, mq_826, mq_827, mq_828⟩
theorem mc_12_35_10 : mx_CF 12 35 10 2 3 MX10_set := ⟨mg_X10_set, mh_X10_set.1, mh_X10_set.2.1, mh_X10_set.2.2, by decide, mq_355, mq_356, mq_357⟩
theorem mc_12_39_11 : mx_CF 12 39 11 2 3 MX11_set := ⟨mg_X11_set, mh_X11_set.1, mh_X11_set.2.1, mh_X11_set.2.2, by decide, mq_867, mq_868, mq_869⟩
theorem mc_12_40_10 : mx_CF 12 40 10 2 2 MX10_turn := ⟨mg_X10_turn, mh_X10_turn.1, mh_X10_turn.2.1, mh_X10_turn.2.2, by decide, mq_364, mq_365, mq_366⟩
theorem mc_12_43_11 : mx_CF 12 43 11 2 2 MX11_turn := ⟨mg_X11_turn, mh_X11_turn.1, mh_X11_turn.2.1, mh_X11_turn.2.2, by decide, mq_876, mq_877, mq_878⟩
theorem mc_12_44_10 : mx_CF 12 44 10 2 2 MX10_as := ⟨mg_X10_as, mh_X10_as.1, mh_X10_as.2.1, mh_X10_as.2.2, by decide, mq_368, mq_369, mq_370⟩
theorem mc_12_47_11 : mx_CF 12 47 11 2 2 MX11_as := ⟨mg_X11_as, mh_X11_as.1, mh_X11_as.2.1, mh_X11_as.2.2, by decide, mq_880, mq_881, mq_882⟩
theorem mc_12_48_10 : mx_CF 12 48 10 2 2 MX10_give := ⟨mg_X10_give, mh_X10_give.1, mh_X10_give.2.1, mh_X10_give.2.2, by decide, mq_378, mq_379, mq_380⟩
theorem mc_12_51_11 : mx_CF 12 51 11 2 2 MX11_give := ⟨mg_X11_give, mh_X11_give.1, mh_X11_give.2.1, mh_X11_give.2.2, by decide, mq_885, mq_886, mq_887⟩
theorem mc_12_52_10 : mx_CF 12 52 10 2 3 MX10_hand := ⟨mg_X10_hand, mh_X10_hand.1, mh_X10_hand.2.1, mh_X10_hand.2.2, by decide, mq_383, mq_384, mq_385⟩
theorem mc_12_55_11 : mx_CF 12 55 11 2 3 MX11_hand := ⟨mg_X11_hand, mh_X11_hand.1, mh_X11_hand.2.1, mh_X11_hand.2.2, by decide, mq_893, mq_894, mq_895⟩
theorem mc_12_56_10 : mx_CF 12 56 10 2 1 MX10_border := ⟨mg_X10_border, mh_X10_border.1, mh_X10_border.2.1, mh_X10_border.2.2, by decide, mq_388, mq_389, mq_390⟩
theorem mc_12_59_11 : mx_CF 12 59 11 2 1 MX11_border := ⟨mg_X11_border, mh_X11_border.1, mh_X11_border.2.1, mh_X11_border.2.2, by decide, mq_898, mq_899, mq_900⟩
theorem mc_12_60_10 : mx_CF 12 60 10 2 1 MX10_years := ⟨mg_X10_years, mh_X10_years.1, mh_X10_years.2.1, mh_X10_years.2.2, by decide, mq_401, mq_402, mq_403⟩
theorem mc_12_63_11 : mx_CF 12 63 11 2 1 MX11_years := ⟨mg_X11_years, mh_X11_years.1, mh_X11_years.2.1, mh_X11_years.2.2, by decide, mq_909, mq_910, mq_911⟩
theorem mc_12_64_10 : mx_CF 12 64 10 2 1 MX10_now := ⟨mg_X10_now, mh_X10_now.1, mh_X10_now.2.1, mh_X10_now.2.2, by decide, mq_414, mq_415, mq_416⟩
theorem mc_12_67_11 : mx_CF 12 67 11 2 1 MX11_now := ⟨mg_X11_now, mh_X11_now.1, mh_X11_now.2.1, mh_X11_now.2.2, by decide, mq_929, mq_930, mq_931⟩
theorem mc_12_68_10 : mx_CF 12 68 10 2 3 MX10_on := ⟨mg_X10_on, mh_X10_on.1, mh_X10_on.2.1, mh_X10_on.2.2, by decide, mq_431, mq_432, mq_433⟩
theorem mc_12_71_11 : mx_CF 12 71 11 2 3 MX11_on := ⟨mg_X11_on, mh_X11_on.1, mh_X11_on.2.1, mh_X11_on.2.2, by decide, mq_945, mq_946, mq_947⟩
theorem mc_12_72_10 : mx_CF 12 72 10 2 2 MX10_gets := ⟨mg_X10_gets, mh_X10_gets.1, mh_X10_gets.2.1, mh_X10_gets.2.2, by decide, mq_442, mq_443, mq_444⟩
theorem mc_12_75_11 : mx_CF 12 75 11 2 2 MX11_gets := ⟨mg_X11_gets, mh_X11_gets.1, mh_X11_gets.2.1, mh_X11_gets.2.2, by decide, mq_953, mq_954, mq_955⟩
theorem mc_12_76_10 : mx_CF 12 76 10 2 2 MX10_loses := ⟨mg_X10_loses, mh_X10_loses.1, mh_X10_loses.2.1, mh_X10_loses.2.2, by decide, mq_451, mq_452, mq_453⟩
theorem mc_12_79_11 : mx_CF 12 79 11 2 2 MX11_loses := ⟨mg_X11_loses, mh_X11_loses.1, mh_X11_loses.2.1, mh_X11_loses.2.2, by decide, mq_962, mq_963, mq_964⟩
theorem mc_12_80_10 : mx_CF 12 80 10 2 1 MX10_burns := ⟨mg_X10_burns, mh_X10_burns.1, mh_X10_burns.2.1, mh_X10_burns.2.2, by decide, mq_455, mq_456, mq_457⟩
theorem mc_12_83_11 : mx_CF 12 83 11 2 1 MX11_burns := ⟨mg_X11_burns, mh_X11_burns.1, mh_X11_burns.2.1, mh_X11_burns.2.2, by decide, mq_966, mq_967, mq_968⟩
theorem mc_12_84_10 : mx_CF 12 84 10 2 2 MX10_cousin := ⟨mg_X10_cousin, mh_X10_cousin.1, mh_X10_cousin.2.1, mh_X10_cousin.2.2, by decide, mq_460, mq_461, mq_462⟩
theorem mc_12_87_11 : mx_CF 12 87 11 2 2 MX11_cousin := ⟨mg_X11_cousin, mh_X11_cousin.1, mh_X11_cousin.2.1, mh_X11_cousin.2.2, by decide, mq_970, mq_971, mq_972⟩
theorem mc_12_88_10 : mx_CF 12 88 10 2 2 MX10_kind := ⟨mg_X10_kind, mh_X10_kind.1, mh_X10_kind.2.1, mh_X10_kind.2.2, by decide, mq_464, mq_465, mq_466⟩
theorem mc_12_91_11 : mx_CF 12 91 11 2 2 MX11_kind := ⟨mg_X11_kind, mh_X11_kind.1, mh_X11_kind.2.1, mh_X11_kind.2.2, by decide, mq_978, mq_979, mq_980⟩
theorem mc_12_92_10 : mx_CF 12 92 10 2 3 MX10_keep := ⟨mg_X10_keep, mh_X10_keep.1, mh_X10_keep.2.1, mh_X10_keep.2.2, by decide, mq_468, mq_469, mq_470⟩
theorem mc_12_95_11 : mx_CF 12 95 11 2 3 MX11_keep := ⟨mg_X11_keep, mh_X11_keep.1, mh_X11_keep.2.1, mh_X11_keep.2.2, by decide, mq_982, mq_983, mq_984⟩
theorem mc_12_96_10 : mx_CF 12 96 10 2 2 MX10_best := ⟨mg_X10_best, mh_X10_best.1, mh_X10_best.2.1, mh_X10_best.2.2, by decide, mq_472, mq_473, mq_474⟩
theorem mc_12_99_11 : mx_CF 12 99 11 2 2 MX11_best := ⟨mg_X11_best, mh_X11_best.1, mh_X11_best.2.1, mh_X11_best.2.2, by decide, mq_986, mq_987, mq_988⟩
theorem mc_12_100_10 : mx_CF 12 100 10 2 1 MX10_richest := ⟨mg_X10_richest, mh_X10_richest.1, mh_X10_richest.2.1, mh_X10_richest.2.2, by decide, mq_476, mq_477, mq_478⟩
theorem mc_12_103_11 : mx_CF 12 103 11 2 1 MX11_richest := ⟨mg_X11_richest, mh_X11_richest.1, mh_X11_richest.2.1, mh_X11_richest.2.2, by decide, mq_990, mq_991, mq_992⟩
theorem mc_12_104_10 : mx_CF 12 104 10 2 3 MX10_fewest := ⟨mg_X10_fewest, mh_X10_fewest.1, mh_X10_fewest.2.1, mh_X10_fewest.2.2, by decide, mq_480, mq_481, mq_482⟩
theorem mc_12_107_11 : mx_CF 12 107 11 2 3 MX11_fewest := ⟨mg_X11_fewest, mh_X11_fewest.1, mh_X11_fewest.2.1, mh_X11_fewest.2.2, by decide, mq_994, mq_995, mq_996⟩
theorem mc_12_108_10 : mx_CF 12 108 10 2 2 MX10_feed := ⟨mg_X10_feed, mh_X10_feed.1, mh_X10_feed.2.1, mh_X10_feed.2.2, by decide, mq_495, mq_496, mq_497⟩
theorem mc_12_111_11 : mx_CF 12 111 11 2 2 MX11_feed := ⟨mg_X11_feed, mh_X11_feed.1, mh_X11_feed.2.1, mh_X11_feed.2.2, by decide, mq_999, mq_1000, mq_1001⟩
theorem mc_12_112_10 : mx_CF 12 112 10 2 0 MX10_wipe := ⟨mg_X10_wipe, mh_X10_wipe.1, mh_X10_wipe.2.1, mh_X10_wipe.2.2, by decide, mq_503, mq_504, mq_505⟩
theorem mc_12_116_11 : mx_CF 12 116 11 2 0 MX11_wipe := ⟨mg_X11_wipe, mh_X11_wipe.1, mh_X11_wipe.2.1, mh_X11_wipe.2.2, by decide, mq_1003, mq_1004, mq_1005⟩
theorem mc_12_117_10 : mx_CF 12 117 10 2 0 MX10_family := ⟨mg_X10_family, mh_X10_family.1, mh_X10_family.2.1, mh_X10_family.2.2, by decide, mq_507, mq_508, mq_509⟩
theorem mc_12_120_11 : mx_CF 12 120 11 2 0 MX11_family := ⟨mg_X11_family, mh_X11_family.1, mh_X11_family.2.1, mh_X11_family.2.2, by decide, mq_1007, mq_1008, mq_1009⟩
theorem mc_12_121_10 : mx_CF 12 121 10 2 3 MX10_sheet := ⟨mg_X10_sheet, mh_X10_sheet.1, mh_X10_sheet.2.1, mh_X10_sheet.2.2, by decide, mq_633, mq_634, mq_635⟩
theorem mc_12_124_11 : mx_CF 12 124 11 2 3 MX11_sheet := ⟨mg_X11_sheet, mh_X11_sheet.1, mh_X11_sheet.2.1, mh_X11_sheet.2.2, by decide, mq_1067, mq_1068, mq_1069⟩
theorem mc_12_127_10 : mx_CF 12 127 10 2 3 MX10_write := ⟨mg_X10_write, mh_X10_write.1, mh_X10_write.2.1, mh_X10_write.2.2, by decide, mq_647, mq_648, mq_649⟩
theorem mc_12_131_11 : mx_CF 12 131 11 2 3 MX11_write := ⟨mg_X11_write, mh_X11_write.1, mh_X11_write.2.1, mh_X11_write.2.2, by decide, mq_1074, mq_1075, mq_1076⟩
theorem mc_12_132_10 : mx_CF 12 132 10 2 5 MX10_copy := ⟨mg_X10_copy, mh_X10_copy.1, mh_X10_copy.2.1, mh_X10_copy.2.2, by decide, mq_660, mq_661, mq_662⟩
theorem mc_12_136_11 : mx_CF 12 136 11 2 5 MX11_copy := ⟨mg_X11_copy, mh_X11_copy.1, mh_X11_copy.2.1, mh_X11_copy.2.2, by decide, mq_1082, mq_1083, mq_1084⟩
theorem mc_12_137_10 : mx_CF 12 137 10 2 1 MX10_lays := ⟨mg_X10_lays, mh_X10_lays.1, mh_X10_lays.2.1, mh_X10_lays.2.2, by decide, mq_669, mq_670, mq_671⟩
theorem mc_12_140_11 : mx_CF 12 140 11 2 1 MX11_lays := ⟨mg_X11_lays, mh_X11_lays.1, mh_X11_lays.2.1, mh_X11_lays.2.2, by decide, mq_1090, mq_1091, mq_1092⟩
theorem mc_12_141_10 : mx_CF 12 141 10 2 2 MX10_book := ⟨mg_X10_book, mh_X10_book.1, mh_X10_book.2.1, mh_X10_book.2.2, by decide, mq_674, mq_675, mq_676⟩
theorem mc_12_144_11 : mx_CF 12 144 11 2 2 MX11_book := ⟨mg_X11_book, mh_X11_book.1, mh_X11_book.2.1, mh_X11_book.2.2, by decide, mq_1099, mq_1100, mq_1101⟩
theorem mc_12_145_10 : mx_CF 12 145 10 2 2 MX10_read := ⟨mg_X10_read, mh_X10_read.1, mh_X10_read.2.1, mh_X10_read.2.2, by decide, mq_678, mq_679, mq_680⟩
theorem mc_12_148_11 : mx_CF 12 148 11 2 2 MX11_read := ⟨mg_X11_read, mh_X11_read.1, mh_X11_read.2.1, mh_X11_read.2.2, by decide, mq_1103, mq_1104, mq_1105⟩
theorem mc_12_149_10 : mx_CF 12 149 10 2 0 MX10_image := ⟨mg_X10_image, mh_X10_image.1, mh_X10_image.2.1, mh_X10_image.2.2, by decide, mq_686, mq_687, mq_688⟩
theorem mc_12_152_11 : mx_CF 12 152 11 2 0 MX11_image := ⟨mg_X11_image, mh_X11_image.1, mh_X11_image.2.1, mh_X11_image.2.2, by decide, mq_1111, mq_1112, mq_1113⟩
theorem mc_12_153_10 : mx_CF 12 153 10 2 0 MX10_undo := ⟨mg_X10_undo, mh_X10_undo.1, mh_X10_undo.2.1, mh_X10_undo.2.2, by decide, mq_690, mq_691, mq_692⟩
theorem mc_12_156_11 : mx_CF 12 156 11 2 0 MX11_undo := ⟨mg_X11_undo, mh_X11_undo.1, mh_X11_undo.2.1, mh_X11_undo.2.2, by decide, mq_1115, mq_1116, mq_1117⟩
theorem mc_12_157_10 : mx_CF 12 157 10 2 0 MX10_tear := ⟨mg_X10_tear, mh_X10_tear.1, mh_X10_tear.2.1, mh_X10_tear.2.2, by decide, mq_694, mq_695, mq_696⟩
theorem mc_12_160_11 : mx_CF 12 160 11 2 0 MX11_tear := ⟨mg_X11_tear, mh_X11_tear.1, mh_X11_tear.2.1, mh_X11_tear.2.2, by decide, mq_1119, mq_1120, mq_1121⟩
theorem mc_12_161_10 : mx_CF 12 161 10 2 1 MX10_count := ⟨mg_X10_count, mh_X10_count.1, mh_X10_count.2.1, mh_X10_count.2.2, by decide, mq_698, mq_699, mq_700⟩
theorem mc_12_164_11 : mx_CF 12 164 11 2 1 MX11_count := ⟨mg_X11_count, mh_X11_count.1, mh_X11_count.2.1, mh_X11_count.2.2, by decide, mq_1123, mq_1124, mq_1125⟩
theorem mc_12_165_10 : mx_CF 12 165 10 2 1 MX10_status := ⟨mg_X10_status, mh_X10_status.1, mh_X10_status.2.1, mh_X10_status.2.2, by decide, mq_711, mq_712, mq_713⟩
theorem mc_12_168_11 : mx_CF 12 168 11 2 1 MX11_status := ⟨mg_X11_status, mh_X11_status.1, mh_X11_status.2.1, mh_X11_status.2.2, by decide, mq_1131, mq_1132, mq_1133⟩
theorem mx_CF_12 : ∀ e ∈ mx_call_l 12, mx_CF 12 e.1.1 e.1.2 e.2.1 e.2.2.1 e.2.2.2 := List.forall_mem_cons.mpr ⟨mc_12_9_100, List.forall_mem_cons.mpr ⟨mc_12_12_100, List.forall_mem_cons.mpr ⟨mc_12_13_10, List.forall_mem_cons.mpr ⟨mc_12_17_11, List.forall_mem_cons.mpr ⟨mc_12_18_10, List.forall_mem_cons.mpr ⟨mc_12_22_11, List.forall_mem_cons.mpr ⟨mc_12_23_10, List.forall_mem_cons.mpr ⟨mc_12_26_11, List.forall_mem_cons.mpr ⟨mc_12_27_10, List.forall_mem_cons.mpr ⟨mc_12_30_11, List.forall_mem_cons.mpr ⟨mc_12_31_10, List.forall_mem_cons.mpr ⟨mc_12_34_11, List.forall_mem_cons.mpr ⟨mc_12_35_10, List.forall_mem_cons.mpr ⟨mc_12_39_11, List.forall_mem_cons.mpr ⟨mc_12_40_10, List.forall_mem_cons.mpr ⟨mc_12_43_11, List.forall_mem_cons.mpr ⟨mc_12_44_10, List.forall_mem_cons.mpr ⟨mc_12_47_11, List.forall_mem_cons.mpr ⟨mc_12_48_10, List.forall_mem_cons.mpr ⟨mc_12_51_11, List.forall_mem_cons.mpr ⟨mc_12_52_10, List.forall_mem_cons.mpr ⟨mc_12_55_11, List.forall_mem_cons.mpr ⟨mc_12_56_10, List.forall_mem_cons.mpr ⟨mc_12_59_11, List.forall_mem_cons.mpr ⟨mc_12_60_10, List.forall_mem_cons.mpr ⟨mc_12_63_11, List.forall_mem_cons.mpr ⟨mc_12_64_10, List.forall_mem_cons.mpr ⟨mc_12_67_11, List.forall_mem_cons.mpr ⟨mc_12_68_10, List.forall_mem_cons.mpr ⟨mc_12_71_11, List.forall_mem_cons.mpr ⟨mc_12_72_10, List.forall_mem_cons.mpr ⟨mc_12_75_11, List.forall_mem_cons.mpr ⟨mc_12_76_10, List.forall_mem_cons.mpr ⟨mc_12_79_11, List.forall_mem_cons.mpr ⟨mc_12_80_10, List.forall_mem_cons.mpr ⟨mc_12_83_11, List.forall_mem_cons.mpr ⟨mc_12_84_10, List.forall_mem_cons.mpr ⟨mc_12_87_11, List.forall_mem_cons.mpr ⟨mc_12_88_10, List.forall_mem_cons.mpr ⟨mc_12_91_11, List.forall_mem_cons.mpr ⟨mc_12_92_10, List.forall_mem_cons.mpr ⟨mc_12_95_11, List.forall_mem_cons.mpr ⟨mc_12_96_10, List.forall_mem_cons.mpr ⟨mc_12_99_11, List.forall_mem_cons.mpr ⟨mc_12_100_10, List.forall_mem_cons.mpr ⟨mc_12_103_11, List.forall_mem_cons.mpr ⟨mc_12_104_10, List.forall_mem_cons.mpr ⟨mc_12_107_11, List.forall_mem_cons.mpr ⟨mc_12_108_10, List.forall_mem_cons.mpr ⟨mc_12_111_11, List.forall_mem_cons.mpr ⟨mc_12_112_10, List.forall_mem_cons.mpr ⟨mc_12_116_11, List.forall_mem_cons.mpr ⟨mc_12_117_10, List.forall_mem_cons.mpr ⟨mc_12_120_11, List.forall_mem_cons.mpr ⟨mc_12_121_10, List.forall_mem_cons.mpr ⟨mc_12_124_11, List.forall_mem_cons.mpr ⟨mc_12_127_10, List.forall_mem_cons.mpr ⟨mc_12_131_11, List.forall_mem_cons.mpr ⟨mc_12_132_10, List.forall_mem_cons.mpr ⟨mc_12_136_11, List.forall_mem_cons.mpr ⟨mc_12_137_10, List.forall_mem_cons.mpr ⟨mc_12_140_11, List.forall_mem_cons.mpr ⟨mc_12_141_10, List.forall_mem_cons.mpr ⟨mc_12_144_11, List.forall_mem_cons.mpr ⟨mc_12_145_10, List.forall_mem_cons.mpr ⟨mc_12_148_11, List.forall_mem_cons.mpr ⟨mc_12_149_10, List.forall_mem_cons.mpr ⟨mc_12_152_11, List.forall_mem_cons.mpr ⟨mc_12_153_10, List.forall_mem_cons.mpr ⟨mc_12_156_11, List.forall_mem_cons.mpr ⟨mc_12_157_10, List.forall_mem_cons.mpr ⟨mc_12_160_11, List.forall_mem_cons.mpr ⟨mc_12_161_10, List.forall_mem_cons.mpr ⟨mc_12_164_11, List.forall_mem_cons.mpr ⟨mc_12_165_10, List.forall_mem_cons.mpr ⟨mc_12_168_11, fun _ h => absurd h List.not_mem_nil⟩⟩⟩⟩⟩⟩⟩⟩⟩⟩⟩⟩⟩⟩⟩⟩⟩⟩⟩⟩⟩⟩⟩⟩⟩⟩⟩⟩⟩⟩⟩⟩⟩⟩⟩⟩⟩⟩⟩⟩⟩⟩⟩⟩⟩⟩⟩⟩⟩⟩⟩⟩⟩⟩⟩⟩⟩⟩⟩⟩⟩⟩⟩⟩⟩⟩⟩⟩⟩⟩⟩⟩⟩⟩⟩⟩
theorem mc_20_335_20 : mx_CF 20 335 20 2 0 MJ0_coder_7d493 := ⟨mg_J0_coder_7d493, mh_J0_coder_7d493.1, mh_J0_coder_7d493.2.1, mh_J0_coder_7d493.2.2, by decide, mq_561, mq_562, mq_563⟩
theorem mc_20_492_20 : mx_CF 20 492 20 2 0 MJ0_isLatin1_aae02 := ⟨mg_J0_isLatin1_aae02, mh_J0_isLatin1_aae02.1, mh_J0_isLatin1_aae02.2.1, mh_J0_isLatin1_aae02.2.2, by decide, mq_571, mq_572, mq_573⟩
theorem mc_20_495_100 : mx_CF 20 495 100 0 2 MJ1_charAt_3b067 := ⟨mg_J1_charAt_3b067, mh_J1_charAt_3b067.1, mh_J1_charAt_3b067.2.1, mh_J1_charAt_3b067.2.2, rfl, mq_575, mq_576⟩
theorem mc_20_1059_100 : mx_CF 20 1059 100 0 3 MJ3_checkIndex_8e157 := ⟨mg_J3_checkIndex_8e157, mh_J3_checkIndex_8e157.1, mh_J3_checkIndex_8e157.2.1, mh_J3_checkIndex_8e157.2.2, rfl, mq_583, mq_584⟩
theorem mx_CF_20 : ∀ e ∈ mx_call_l 20, mx_CF 20 e.1.1 e.1.2 e.2.1 e.2.2.1 e.2.2.2 := List.forall_mem_cons.mpr ⟨mc_20_335_20, List.forall_mem_cons.mpr ⟨mc_20_492_20, List.forall_mem_cons.mpr ⟨mc_20_495_100, List.forall_mem_cons.mpr ⟨mc_20_1059_100, fun _ h => absurd h List.not_mem_nil⟩⟩⟩⟩
theorem mc_21_9_100 : mx_CF 21 9 100 0 2 MJ0_checkIndex_df160 := ⟨mg_J0_checkIndex_df160, mh_J0_checkIndex_df160.1, mh_J0_checkIndex_df160.2.1, mh_J0_checkIndex_df160.2.2, rfl, mq_578, mq_579⟩
theorem mx_CF_21 : ∀ e ∈ mx_call_l 21, mx_CF 21 e.1.1 e.1.2 e.2.1 e.2.2.1 e.2.2.2 := List.forall_mem_cons.mpr ⟨mc_21_9_100, fun _ h => absurd h List.not_mem_nil⟩
theorem mx_call_ok {cn k rc kind n : Nat} {M : mx_M} (h : mx_call cn k rc = some (kind, n, M)) : mx_CF cn k rc kind n M := by
  have hm := mx_look_mem h
  by_cases h0 : cn = 0
  · subst h0; exact mx_CF_0 _ hm
  by_cases h1 : cn = 1
  · subst h1; exact mx_CF_1 _ hm
  by_cases h2 : cn = 2
  · subst h2; exact mx_CF_2 _ hm
  by_cases h3 : cn = 3
  · subst h3; exact mx_CF_3 _ hm
  by_cases h4 : cn = 4
  · subst h4; exact mx_CF_4 _ hm
  by_cases h5 : cn = 5
  · subst h5; exact mx_CF_5 _ hm
  by_cases h6 : cn = 6
  · subst h6; exact mx_CF_6 _ hm
  by_cases h8 : cn = 8
  · subst h8; exact mx_CF_8 _ hm
  by_cases h9 : cn = 9
  · subst h9; exact mx_CF_9 _ hm
  by_cases h10 : cn = 10
  · subst h10; exact mx_CF_10 _ hm
  by_cases h11 : cn = 11
  · subst h11; exact mx_CF_11 _ hm
  by_cases h12 : cn = 12
  · subst h12; exact mx_CF_12 _ hm
  by_cases h20 : cn = 20
  · subst h20; exact mx_CF_20 _ hm
  by_cases h21 : cn = 21
  · subst h21; exact mx_CF_21 _ hm
  unfold mx_call_l at hm
  split at hm <;> first | contradiction | (cases hm)
