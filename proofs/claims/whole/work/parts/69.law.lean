/-! THE LAW: a call of each kind, then the loop -/
def LSt (h : mx_G) (A : AS) : Prop := CA h A ∧ MA h A ∧ AI A
theorem lw2 (i : Nat) : nI i + 2 = nI (i + 2) := nI_add i 2
theorem lw3 (i : Nat) : nI i + 3 = nI (i + 3) := nI_add i 3
theorem lw4 (i : Nat) : nI i + 4 = nI (i + 4) := nI_add i 4
theorem lw5 (i : Nat) : nI i + 5 = nI (i + 5) := nI_add i 5
theorem lw6 (i : Nat) : nI i + 6 = nI (i + 6) := nI_add i 6
section
variable {h : mx_G} {A : AS} {L i : Nat} {xs : Nat → Int32}
theorem lw_v (x : CA h A) : mx_av (L, xs) h 3000 = some (.inl (.int, L, .inl xs)) := by
  unfold mx_av
  rw [x.far (by decide)]
  rfl
theorem lw_i {k : Nat} (hi : i + 6 ≤ L) (hL : L ≤ 3072) (hk : k < 6) : mx_in (nI (i + k)) L = true := in_nI (by omega) (by omega)
theorem lw_c {k : Nat} (hi : i + 6 ≤ L) (hL : L ≤ 3072) (hk : k < 6) : (nI (i + k)).toNatClampNeg = i + k := cl_nI (show i + k < L by omega) (by omega)

theorem sq_worth (x : LSt h A) (hi : i + 6 ≤ L) (hL : L ≤ 3072) : ∃ h2 A2, den (L, xs) 11 ML_law 196 [some (.ref 3000), some (.ref 0), some (.ref 42), some (.int (nI i))] [] h = den (L, xs) 11 ML_law 1338 [some (.ref 3000), some (.ref 0), some (.ref 42), some (.int (nI i))] [] h2 ∧ LSt h2 A2 ∧ h2.2 = h.2 := by
  obtain ⟨x1, y1, ai⟩ := x
  obtain ⟨h1, e1, x2, s1⟩ := cm_worth (sc := (L, xs)) x1 (xs (i + 1)) (xs (i + 2))
  have y2 := y1.tr s1
  obtain ⟨h2, e2, y3, s2⟩ := mm_worth (sc := (L, xs)) y2 (xs (i + 1)) (xs (i + 2))
  refine ⟨h2, _, ?_, ⟨x2.tr s2, y3, ai_worth ai (xs (i + 1)) (xs (i + 2))⟩, s2.2.trans s1.2⟩
  simp only [s_L_law_196, s_L_law_197, s_L_law_198, s_L_law_199, s_L_law_200, s_L_law_201, s_L_law_202, s_L_law_203, s_L_law_204, s_L_law_205, s_L_law_206, s_L_law_207, s_L_law_210, s_L_law_211, s_L_law_212, s_L_law_213, s_L_law_214, s_L_law_215, s_L_law_216, s_L_law_217, s_L_law_218, s_L_law_219, s_L_law_220, s_L_law_221, s_L_law_224, s_L_law_227, s_L_law_228, s_L_law_228_0, s_L_law_228_1, x1.rc, y2.rc, lw_v x1, lw_v x2, lw_i hi hL (show 1 < 6 by decide), lw_c hi hL (show 1 < 6 by decide), lw_i hi hL (show 2 < 6 by decide), lw_c hi hL (show 2 < 6 by decide), nI_1, lw2, lw3, lw4, lw5, e1, e2, List.getElem?_cons_zero, List.getElem?_cons_succ, ob1_s, b2_t, b2_f, z1, cI, List.set_cons_zero, List.set_cons_succ, List.length_cons, List.length_nil, Nat.reduceAdd, Nat.reduceLT, Nat.zero_lt_succ, Bool.false_and, Bool.and_false, Bool.true_and, Bool.and_true, Bool.false_eq_true, ck0, ck1, ck2, ck3, ck4, Option.toList_some, Option.toList_none, List.cons_append, List.nil_append, gf_hit, pf_hit, ai_hit, al_hit, ar_hit, ob_hit, if_true, if_false, reduceIte, reduceCtorEq]
theorem sq_worthOf (x : LSt h A) (hi : i + 6 ≤ L) (hL : L ≤ 3072) : ∃ h2 A2, den (L, xs) 11 ML_law 229 [some (.ref 3000), some (.ref 0), some (.ref 42), some (.int (nI i))] [] h = den (L, xs) 11 ML_law 1338 [some (.ref 3000), some (.ref 0), some (.ref 42), some (.int (nI i))] [] h2 ∧ LSt h2 A2 ∧ h2.2 = h.2 := by
  obtain ⟨x1, y1, ai⟩ := x
  obtain ⟨h1, e1, x2, s1⟩ := cm_worthOf (sc := (L, xs)) x1 (xs (i + 1))
  have y2 := y1.tr s1
  obtain ⟨h2, e2, y3, s2⟩ := mm_worthOf (sc := (L, xs)) y2 (xs (i + 1))
  refine ⟨h2, _, ?_, ⟨x2.tr s2, y3, ai_worthOf ai (xs (i + 1))⟩, s2.2.trans s1.2⟩
  simp only [s_L_law_229, s_L_law_230, s_L_law_231, s_L_law_232, s_L_law_233, s_L_law_234, s_L_law_235, s_L_law_238, s_L_law_239, s_L_law_240, s_L_law_241, s_L_law_242, s_L_law_243, s_L_law_244, s_L_law_247, s_L_law_250, s_L_law_251, s_L_law_251_0, s_L_law_251_1, x1.rc, y2.rc, lw_v x1, lw_v x2, lw_i hi hL (show 1 < 6 by decide), lw_c hi hL (show 1 < 6 by decide), nI_1, lw2, lw3, lw4, lw5, e1, e2, List.getElem?_cons_zero, List.getElem?_cons_succ, ob1_s, b2_t, b2_f, z1, cI, List.set_cons_zero, List.set_cons_succ, List.length_cons, List.length_nil, Nat.reduceAdd, Nat.reduceLT, Nat.zero_lt_succ, Bool.false_and, Bool.and_false, Bool.true_and, Bool.and_true, Bool.false_eq_true, ck0, ck1, ck2, ck3, ck4, Option.toList_some, Option.toList_none, List.cons_append, List.nil_append, gf_hit, pf_hit, ai_hit, al_hit, ar_hit, ob_hit, if_true, if_false, reduceIte, reduceCtorEq]
theorem sq_who (x : LSt h A) (hi : i + 6 ≤ L) (hL : L ≤ 3072) : ∃ h2 A2, den (L, xs) 11 ML_law 252 [some (.ref 3000), some (.ref 0), some (.ref 42), some (.int (nI i))] [] h = den (L, xs) 11 ML_law 1338 [some (.ref 3000), some (.ref 0), some (.ref 42), some (.int (nI i))] [] h2 ∧ LSt h2 A2 ∧ h2.2 = h.2 := by
  obtain ⟨x1, y1, ai⟩ := x
  obtain ⟨h1, e1, x2, s1⟩ := cm_who (sc := (L, xs)) x1 ai (xs (i + 1))
  have y2 := y1.tr s1
  obtain ⟨h2, e2, y3, s2⟩ := mm_who (sc := (L, xs)) y2 ai (xs (i + 1))
  refine ⟨h2, _, ?_, ⟨x2.tr s2, y3, ai_who ai (xs (i + 1))⟩, s2.2.trans s1.2⟩
  simp only [s_L_law_252, s_L_law_253, s_L_law_254, s_L_law_255, s_L_law_256, s_L_law_257, s_L_law_258, s_L_law_261, s_L_law_262, s_L_law_263, s_L_law_264, s_L_law_265, s_L_law_266, s_L_law_267, s_L_law_270, s_L_law_273, s_L_law_274, s_L_law_274_0, s_L_law_274_1, x1.rc, y2.rc, lw_v x1, lw_v x2, lw_i hi hL (show 1 < 6 by decide), lw_c hi hL (show 1 < 6 by decide), nI_1, lw2, lw3, lw4, lw5, e1, e2, List.getElem?_cons_zero, List.getElem?_cons_succ, ob1_s, b2_t, b2_f, z1, cI, List.set_cons_zero, List.set_cons_succ, List.length_cons, List.length_nil, Nat.reduceAdd, Nat.reduceLT, Nat.zero_lt_succ, Bool.false_and, Bool.and_false, Bool.true_and, Bool.and_true, Bool.false_eq_true, ck0, ck1, ck2, ck3, ck4, Option.toList_some, Option.toList_none, List.cons_append, List.nil_append, gf_hit, pf_hit, ai_hit, al_hit, ar_hit, ob_hit, if_true, if_false, reduceIte, reduceCtorEq]
theorem sq_person (x : LSt h A) (hi : i + 6 ≤ L) (hL : L ≤ 3072) : ∃ h2 A2, den (L, xs) 11 ML_law 275 [some (.ref 3000), some (.ref 0), some (.ref 42), some (.int (nI i))] [] h = den (L, xs) 11 ML_law 1338 [some (.ref 3000), some (.ref 0), some (.ref 42), some (.int (nI i))] [] h2 ∧ LSt h2 A2 ∧ h2.2 = h.2 := by
  obtain ⟨x1, y1, ai⟩ := x
  obtain ⟨h1, e1, x2, s1⟩ := cm_person (sc := (L, xs)) x1 ai (xs (i + 1))
  have y2 := y1.tr s1
  obtain ⟨h2, e2, y3, s2⟩ := mm_person (sc := (L, xs)) y2 ai (xs (i + 1))
  refine ⟨h2, _, ?_, ⟨x2.tr s2, y3, ai_person ai (xs (i + 1))⟩, s2.2.trans s1.2⟩
  simp only [s_L_law_275, s_L_law_276, s_L_law_277, s_L_law_278, s_L_law_279, s_L_law_280, s_L_law_281, s_L_law_284, s_L_law_285, s_L_law_286, s_L_law_287, s_L_law_288, s_L_law_289, s_L_law_290, s_L_law_293, s_L_law_296, s_L_law_297, s_L_law_297_0, s_L_law_297_1, x1.rc, y2.rc, lw_v x1, lw_v x2, lw_i hi hL (show 1 < 6 by decide), lw_c hi hL (show 1 < 6 by decide), nI_1, lw2, lw3, lw4, lw5, e1, e2, List.getElem?_cons_zero, List.getElem?_cons_succ, ob1_s, b2_t, b2_f, z1, cI, List.set_cons_zero, List.set_cons_succ, List.length_cons, List.length_nil, Nat.reduceAdd, Nat.reduceLT, Nat.zero_lt_succ, Bool.false_and, Bool.and_false, Bool.true_and, Bool.and_true, Bool.false_eq_true, ck0, ck1, ck2, ck3, ck4, Option.toList_some, Option.toList_none, List.cons_append, List.nil_append, gf_hit, pf_hit, ai_hit, al_hit, ar_hit, ob_hit, if_true, if_false, reduceIte, reduceCtorEq]
theorem sq_of (x : LSt h A) (hi : i + 6 ≤ L) (hL : L ≤ 3072) : ∃ h2 A2, den (L, xs) 11 ML_law 298 [some (.ref 3000), some (.ref 0), some (.ref 42), some (.int (nI i))] [] h = den (L, xs) 11 ML_law 1338 [some (.ref 3000), some (.ref 0), some (.ref 42), some (.int (nI i))] [] h2 ∧ LSt h2 A2 ∧ h2.2 = h.2 := by
  obtain ⟨x1, y1, ai⟩ := x
  obtain ⟨h1, e1, x2, s1⟩ := cm_of (sc := (L, xs)) x1 ai (xs (i + 1)) (xs (i + 2))
  have y2 := y1.tr s1
  obtain ⟨h2, e2, y3, s2⟩ := mm_of (sc := (L, xs)) y2 ai (xs (i + 1)) (xs (i + 2))
  refine ⟨h2, _, ?_, ⟨x2.tr s2, y3, ai_of ai (xs (i + 1)) (xs (i + 2))⟩, s2.2.trans s1.2⟩
  simp only [s_L_law_298, s_L_law_299, s_L_law_300, s_L_law_301, s_L_law_302, s_L_law_303, s_L_law_304, s_L_law_305, s_L_law_306, s_L_law_307, s_L_law_308, s_L_law_309, s_L_law_312, s_L_law_313, s_L_law_314, s_L_law_315, s_L_law_316, s_L_law_317, s_L_law_318, s_L_law_319, s_L_law_320, s_L_law_321, s_L_law_322, s_L_law_323, s_L_law_326, s_L_law_329, s_L_law_330, s_L_law_330_0, s_L_law_330_1, x1.rc, y2.rc, lw_v x1, lw_v x2, lw_i hi hL (show 1 < 6 by decide), lw_c hi hL (show 1 < 6 by decide), lw_i hi hL (show 2 < 6 by decide), lw_c hi hL (show 2 < 6 by decide), nI_1, lw2, lw3, lw4, lw5, e1, e2, List.getElem?_cons_zero, List.getElem?_cons_succ, ob1_s, b2_t, b2_f, z1, cI, List.set_cons_zero, List.set_cons_succ, List.length_cons, List.length_nil, Nat.reduceAdd, Nat.reduceLT, Nat.zero_lt_succ, Bool.false_and, Bool.and_false, Bool.true_and, Bool.and_true, Bool.false_eq_true, ck0, ck1, ck2, ck3, ck4, Option.toList_some, Option.toList_none, List.cons_append, List.nil_append, gf_hit, pf_hit, ai_hit, al_hit, ar_hit, ob_hit, if_true, if_false, reduceIte, reduceCtorEq]
theorem sq_set (x : LSt h A) (hi : i + 6 ≤ L) (hL : L ≤ 3072) : ∃ h2 A2, den (L, xs) 11 ML_law 331 [some (.ref 3000), some (.ref 0), some (.ref 42), some (.int (nI i))] [] h = den (L, xs) 11 ML_law 1338 [some (.ref 3000), some (.ref 0), some (.ref 42), some (.int (nI i))] [] h2 ∧ LSt h2 A2 ∧ h2.2 = h.2 := by
  obtain ⟨x1, y1, ai⟩ := x
  obtain ⟨h1, e1, x2, s1⟩ := cm_set (sc := (L, xs)) x1 ai (xs (i + 1)) (xs (i + 2)) (xs (i + 3))
  have y2 := y1.tr s1
  obtain ⟨h2, e2, y3, s2⟩ := mm_set (sc := (L, xs)) y2 ai (xs (i + 1)) (xs (i + 2)) (xs (i + 3))
  refine ⟨h2, _, ?_, ⟨x2.tr s2, y3, ai_set ai (xs (i + 1)) (xs (i + 2)) (xs (i + 3))⟩, s2.2.trans s1.2⟩
  simp only [s_L_law_331, s_L_law_332, s_L_law_333, s_L_law_334, s_L_law_335, s_L_law_336, s_L_law_337, s_L_law_338, s_L_law_339, s_L_law_340, s_L_law_341, s_L_law_342, s_L_law_343, s_L_law_344, s_L_law_345, s_L_law_346, s_L_law_347, s_L_law_350, s_L_law_351, s_L_law_352, s_L_law_353, s_L_law_354, s_L_law_355, s_L_law_356, s_L_law_357, s_L_law_358, s_L_law_359, s_L_law_360, s_L_law_361, s_L_law_362, s_L_law_363, s_L_law_364, s_L_law_365, s_L_law_366, s_L_law_369, s_L_law_372, s_L_law_373, s_L_law_373_0, s_L_law_373_1, x1.rc, y2.rc, lw_v x1, lw_v x2, lw_i hi hL (show 1 < 6 by decide), lw_c hi hL (show 1 < 6 by decide), lw_i hi hL (show 2 < 6 by decide), lw_c hi hL (show 2 < 6 by decide), lw_i hi hL (show 3 < 6 by decide), lw_c hi hL (show 3 < 6 by decide), nI_1, lw2, lw3, lw4, lw5, e1, e2, List.getElem?_cons_zero, List.getElem?_cons_succ, ob1_s, b2_t, b2_f, z1, cI, List.set_cons_zero, List.set_cons_succ, List.length_cons, List.length_nil, Nat.reduceAdd, Nat.reduceLT, Nat.zero_lt_succ, Bool.false_and, Bool.and_false, Bool.true_and, Bool.and_true, Bool.false_eq_true, ck0, ck1, ck2, ck3, ck4, Option.toList_some, Option.toList_none, List.cons_append, List.nil_append, gf_hit, pf_hit, ai_hit, al_hit, ar_hit, ob_hit, if_true, if_false, reduceIte, reduceCtorEq]
theorem sq_turn (x : LSt h A) (hi : i + 6 ≤ L) (hL : L ≤ 3072) : ∃ h2 A2, den (L, xs) 11 ML_law 374 [some (.ref 3000), some (.ref 0), some (.ref 42), some (.int (nI i))] [] h = den (L, xs) 11 ML_law 1338 [some (.ref 3000), some (.ref 0), some (.ref 42), some (.int (nI i))] [] h2 ∧ LSt h2 A2 ∧ h2.2 = h.2 := by
  obtain ⟨x1, y1, ai⟩ := x
  obtain ⟨h1, e1, x2, s1⟩ := cm_turn (sc := (L, xs)) x1 ai (xs (i + 1)) (xs (i + 2))
  have y2 := y1.tr s1
  obtain ⟨h2, e2, y3, s2⟩ := mm_turn (sc := (L, xs)) y2 ai (xs (i + 1)) (xs (i + 2))
  refine ⟨h2, _, ?_, ⟨x2.tr s2, y3, ai_turn ai (xs (i + 1)) (xs (i + 2))⟩, s2.2.trans s1.2⟩
  simp only [s_L_law_374, s_L_law_375, s_L_law_376, s_L_law_377, s_L_law_378, s_L_law_379, s_L_law_380, s_L_law_381, s_L_law_382, s_L_law_383, s_L_law_384, s_L_law_385, s_L_law_388, s_L_law_389, s_L_law_390, s_L_law_391, s_L_law_392, s_L_law_393, s_L_law_394, s_L_law_395, s_L_law_396, s_L_law_397, s_L_law_398, s_L_law_399, s_L_law_402, s_L_law_405, s_L_law_406, s_L_law_406_0, s_L_law_406_1, x1.rc, y2.rc, lw_v x1, lw_v x2, lw_i hi hL (show 1 < 6 by decide), lw_c hi hL (show 1 < 6 by decide), lw_i hi hL (show 2 < 6 by decide), lw_c hi hL (show 2 < 6 by decide), nI_1, lw2, lw3, lw4, lw5, e1, e2, List.getElem?_cons_zero, List.getElem?_cons_succ, ob1_s, b2_t, b2_f, z1, cI, List.set_cons_zero, List.set_cons_succ, List.length_cons, List.length_nil, Nat.reduceAdd, Nat.reduceLT, Nat.zero_lt_succ, Bool.false_and, Bool.and_false, Bool.true_and, Bool.and_true, Bool.false_eq_true, ck0, ck1, ck2, ck3, ck4, Option.toList_some, Option.toList_none, List.cons_append, List.nil_append, gf_hit, pf_hit, ai_hit, al_hit, ar_hit, ob_hit, if_true, if_false, reduceIte, reduceCtorEq]
theorem sq_as (x : LSt h A) (hi : i + 6 ≤ L) (hL : L ≤ 3072) : ∃ h2 A2, den (L, xs) 11 ML_law 407 [some (.ref 3000), some (.ref 0), some (.ref 42), some (.int (nI i))] [] h = den (L, xs) 11 ML_law 1338 [some (.ref 3000), some (.ref 0), some (.ref 42), some (.int (nI i))] [] h2 ∧ LSt h2 A2 ∧ h2.2 = h.2 := by
  obtain ⟨x1, y1, ai⟩ := x
  obtain ⟨h1, e1, x2, s1⟩ := cm_as (sc := (L, xs)) x1 ai (xs (i + 1)) (xs (i + 2))
  have y2 := y1.tr s1
  obtain ⟨h2, e2, y3, s2⟩ := mm_as (sc := (L, xs)) y2 ai (xs (i + 1)) (xs (i + 2))
  refine ⟨h2, _, ?_, ⟨x2.tr s2, y3, ai_as ai (xs (i + 1)) (xs (i + 2))⟩, s2.2.trans s1.2⟩
  simp only [s_L_law_407, s_L_law_408, s_L_law_409, s_L_law_410, s_L_law_411, s_L_law_412, s_L_law_413, s_L_law_414, s_L_law_415, s_L_law_416, s_L_law_417, s_L_law_418, s_L_law_421, s_L_law_422, s_L_law_423, s_L_law_424, s_L_law_425, s_L_law_426, s_L_law_427, s_L_law_428, s_L_law_429, s_L_law_430, s_L_law_431, s_L_law_432, s_L_law_435, s_L_law_438, s_L_law_439, s_L_law_439_0, s_L_law_439_1, x1.rc, y2.rc, lw_v x1, lw_v x2, lw_i hi hL (show 1 < 6 by decide), lw_c hi hL (show 1 < 6 by decide), lw_i hi hL (show 2 < 6 by decide), lw_c hi hL (show 2 < 6 by decide), nI_1, lw2, lw3, lw4, lw5, e1, e2, List.getElem?_cons_zero, List.getElem?_cons_succ, ob1_s, b2_t, b2_f, z1, cI, List.set_cons_zero, List.set_cons_succ, List.length_cons, List.length_nil, Nat.reduceAdd, Nat.reduceLT, Nat.zero_lt_succ, Bool.false_and, Bool.and_false, Bool.true_and, Bool.and_true, Bool.false_eq_true, ck0, ck1, ck2, ck3, ck4, Option.toList_some, Option.toList_none, List.cons_append, List.nil_append, gf_hit, pf_hit, ai_hit, al_hit, ar_hit, ob_hit, if_true, if_false, reduceIte, reduceCtorEq]
theorem sq_give (x : LSt h A) (hi : i + 6 ≤ L) (hL : L ≤ 3072) : ∃ h2 A2, den (L, xs) 11 ML_law 440 [some (.ref 3000), some (.ref 0), some (.ref 42), some (.int (nI i))] [] h = den (L, xs) 11 ML_law 1338 [some (.ref 3000), some (.ref 0), some (.ref 42), some (.int (nI i))] [] h2 ∧ LSt h2 A2 ∧ h2.2 = h.2 := by
  obtain ⟨x1, y1, ai⟩ := x
  obtain ⟨h1, e1, x2, s1⟩ := cm_give (sc := (L, xs)) x1 ai (xs (i + 1)) (xs (i + 2))
  have y2 := y1.tr s1
  obtain ⟨h2, e2, y3, s2⟩ := mm_give (sc := (L, xs)) y2 ai (xs (i + 1)) (xs (i + 2))
  refine ⟨h2, _, ?_, ⟨x2.tr s2, y3, ai_give ai (xs (i + 1)) (xs (i + 2))⟩, s2.2.trans s1.2⟩
  simp only [s_L_law_440, s_L_law_441, s_L_law_442, s_L_law_443, s_L_law_444, s_L_law_445, s_L_law_446, s_L_law_447, s_L_law_448, s_L_law_449, s_L_law_450, s_L_law_451, s_L_law_454, s_L_law_455, s_L_law_456, s_L_law_457, s_L_law_458, s_L_law_459, s_L_law_460, s_L_law_461, s_L_law_462, s_L_law_463, s_L_law_464, s_L_law_465, s_L_law_468, s_L_law_471, s_L_law_472, s_L_law_472_0, s_L_law_472_1, x1.rc, y2.rc, lw_v x1, lw_v x2, lw_i hi hL (show 1 < 6 by decide), lw_c hi hL (show 1 < 6 by decide), lw_i hi hL (show 2 < 6 by decide), lw_c hi hL (show 2 < 6 by decide), nI_1, lw2, lw3, lw4, lw5, e1, e2, List.getElem?_cons_zero, List.getElem?_cons_succ, ob1_s, b2_t, b2_f, z1, cI, List.set_cons_zero, List.set_cons_succ, List.length_cons, List.length_nil, Nat.reduceAdd, Nat.reduceLT, Nat.zero_lt_succ, Bool.false_and, Bool.and_false, Bool.true_and, Bool.and_true, Bool.false_eq_true, ck0, ck1, ck2, ck3, ck4, Option.toList_some, Option.toList_none, List.cons_append, List.nil_append, gf_hit, pf_hit, ai_hit, al_hit, ar_hit, ob_hit, if_true, if_false, reduceIte, reduceCtorEq]
theorem sq_hand (x : LSt h A) (hi : i + 6 ≤ L) (hL : L ≤ 3072) : ∃ h2 A2, den (L, xs) 11 ML_law 473 [some (.ref 3000), some (.ref 0), some (.ref 42), some (.int (nI i))] [] h = den (L, xs) 11 ML_law 1338 [some (.ref 3000), some (.ref 0), some (.ref 42), some (.int (nI i))] [] h2 ∧ LSt h2 A2 ∧ h2.2 = h.2 := by
  obtain ⟨x1, y1, ai⟩ := x
  obtain ⟨h1, e1, x2, s1⟩ := cm_hand (sc := (L, xs)) x1 ai (xs (i + 1)) (xs (i + 2)) (xs (i + 3))
  have y2 := y1.tr s1
  obtain ⟨h2, e2, y3, s2⟩ := mm_hand (sc := (L, xs)) y2 ai (xs (i + 1)) (xs (i + 2)) (xs (i + 3))
  refine ⟨h2, _, ?_, ⟨x2.tr s2, y3, ai_hand ai (xs (i + 1)) (xs (i + 2)) (xs (i + 3))⟩, s2.2.trans s1.2⟩
  simp only [s_L_law_473, s_L_law_474, s_L_law_475, s_L_law_476, s_L_law_477, s_L_law_478, s_L_law_479, s_L_law_480, s_L_law_481, s_L_law_482, s_L_law_483, s_L_law_484, s_L_law_485, s_L_law_486, s_L_law_487, s_L_law_488, s_L_law_489, s_L_law_492, s_L_law_493, s_L_law_494, s_L_law_495, s_L_law_496, s_L_law_497, s_L_law_498, s_L_law_499, s_L_law_500, s_L_law_501, s_L_law_502, s_L_law_503, s_L_law_504, s_L_law_505, s_L_law_506, s_L_law_507, s_L_law_508, s_L_law_511, s_L_law_514, s_L_law_515, s_L_law_515_0, s_L_law_515_1, x1.rc, y2.rc, lw_v x1, lw_v x2, lw_i hi hL (show 1 < 6 by decide), lw_c hi hL (show 1 < 6 by decide), lw_i hi hL (show 2 < 6 by decide), lw_c hi hL (show 2 < 6 by decide), lw_i hi hL (show 3 < 6 by decide), lw_c hi hL (show 3 < 6 by decide), nI_1, lw2, lw3, lw4, lw5, e1, e2, List.getElem?_cons_zero, List.getElem?_cons_succ, ob1_s, b2_t, b2_f, z1, cI, List.set_cons_zero, List.set_cons_succ, List.length_cons, List.length_nil, Nat.reduceAdd, Nat.reduceLT, Nat.zero_lt_succ, Bool.false_and, Bool.and_false, Bool.true_and, Bool.and_true, Bool.false_eq_true, ck0, ck1, ck2, ck3, ck4, Option.toList_some, Option.toList_none, List.cons_append, List.nil_append, gf_hit, pf_hit, ai_hit, al_hit, ar_hit, ob_hit, if_true, if_false, reduceIte, reduceCtorEq]
theorem sq_border (x : LSt h A) (hi : i + 6 ≤ L) (hL : L ≤ 3072) : ∃ h2 A2, den (L, xs) 11 ML_law 516 [some (.ref 3000), some (.ref 0), some (.ref 42), some (.int (nI i))] [] h = den (L, xs) 11 ML_law 1338 [some (.ref 3000), some (.ref 0), some (.ref 42), some (.int (nI i))] [] h2 ∧ LSt h2 A2 ∧ h2.2 = h.2 := by
  obtain ⟨x1, y1, ai⟩ := x
  obtain ⟨h1, e1, x2, s1⟩ := cm_border (sc := (L, xs)) x1 ai (xs (i + 1))
  have y2 := y1.tr s1
  obtain ⟨h2, e2, y3, s2⟩ := mm_border (sc := (L, xs)) y2 ai (xs (i + 1))
  refine ⟨h2, _, ?_, ⟨x2.tr s2, y3, ai_border ai (xs (i + 1))⟩, s2.2.trans s1.2⟩
  simp only [s_L_law_516, s_L_law_517, s_L_law_518, s_L_law_519, s_L_law_520, s_L_law_521, s_L_law_522, s_L_law_525, s_L_law_526, s_L_law_527, s_L_law_528, s_L_law_529, s_L_law_530, s_L_law_531, s_L_law_534, s_L_law_537, s_L_law_538, s_L_law_538_0, s_L_law_538_1, x1.rc, y2.rc, lw_v x1, lw_v x2, lw_i hi hL (show 1 < 6 by decide), lw_c hi hL (show 1 < 6 by decide), nI_1, lw2, lw3, lw4, lw5, e1, e2, List.getElem?_cons_zero, List.getElem?_cons_succ, ob1_s, b2_t, b2_f, z1, cI, List.set_cons_zero, List.set_cons_succ, List.length_cons, List.length_nil, Nat.reduceAdd, Nat.reduceLT, Nat.zero_lt_succ, Bool.false_and, Bool.and_false, Bool.true_and, Bool.and_true, Bool.false_eq_true, ck0, ck1, ck2, ck3, ck4, Option.toList_some, Option.toList_none, List.cons_append, List.nil_append, gf_hit, pf_hit, ai_hit, al_hit, ar_hit, ob_hit, if_true, if_false, reduceIte, reduceCtorEq]
theorem sq_years (x : LSt h A) (hi : i + 6 ≤ L) (hL : L ≤ 3072) : ∃ h2 A2, den (L, xs) 11 ML_law 539 [some (.ref 3000), some (.ref 0), some (.ref 42), some (.int (nI i))] [] h = den (L, xs) 11 ML_law 1338 [some (.ref 3000), some (.ref 0), some (.ref 42), some (.int (nI i))] [] h2 ∧ LSt h2 A2 ∧ h2.2 = h.2 := by
  obtain ⟨x1, y1, ai⟩ := x
  obtain ⟨h1, e1, x2, s1⟩ := cm_years (sc := (L, xs)) x1 ai (xs (i + 1))
  have y2 := y1.tr s1
  obtain ⟨h2, e2, y3, s2⟩ := mm_years (sc := (L, xs)) y2 ai (xs (i + 1))
  refine ⟨h2, _, ?_, ⟨x2.tr s2, y3, ai_years ai (xs (i + 1))⟩, s2.2.trans s1.2⟩
  simp only [s_L_law_539, s_L_law_540, s_L_law_541, s_L_law_542, s_L_law_543, s_L_law_544, s_L_law_545, s_L_law_548, s_L_law_549, s_L_law_550, s_L_law_551, s_L_law_552, s_L_law_553, s_L_law_554, s_L_law_557, s_L_law_560, s_L_law_561, s_L_law_561_0, s_L_law_561_1, x1.rc, y2.rc, lw_v x1, lw_v x2, lw_i hi hL (show 1 < 6 by decide), lw_c hi hL (show 1 < 6 by decide), nI_1, lw2, lw3, lw4, lw5, e1, e2, List.getElem?_cons_zero, List.getElem?_cons_succ, ob1_s, b2_t, b2_f, z1, cI, List.set_cons_zero, List.set_cons_succ, List.length_cons, List.length_nil, Nat.reduceAdd, Nat.reduceLT, Nat.zero_lt_succ, Bool.false_and, Bool.and_false, Bool.true_and, Bool.and_true, Bool.false_eq_true, ck0, ck1, ck2, ck3, ck4, Option.toList_some, Option.toList_none, List.cons_append, List.nil_append, gf_hit, pf_hit, ai_hit, al_hit, ar_hit, ob_hit, if_true, if_false, reduceIte, reduceCtorEq]
theorem sq_now (x : LSt h A) (hi : i + 6 ≤ L) (hL : L ≤ 3072) : ∃ h2 A2, den (L, xs) 11 ML_law 562 [some (.ref 3000), some (.ref 0), some (.ref 42), some (.int (nI i))] [] h = den (L, xs) 11 ML_law 1338 [some (.ref 3000), some (.ref 0), some (.ref 42), some (.int (nI i))] [] h2 ∧ LSt h2 A2 ∧ h2.2 = h.2 := by
  obtain ⟨x1, y1, ai⟩ := x
  obtain ⟨h1, e1, x2, s1⟩ := cm_now (sc := (L, xs)) x1 ai (xs (i + 1))
  have y2 := y1.tr s1
  obtain ⟨h2, e2, y3, s2⟩ := mm_now (sc := (L, xs)) y2 ai (xs (i + 1))
  refine ⟨h2, _, ?_, ⟨x2.tr s2, y3, ai_now ai (xs (i + 1))⟩, s2.2.trans s1.2⟩
  simp only [s_L_law_562, s_L_law_563, s_L_law_564, s_L_law_565, s_L_law_566, s_L_law_567, s_L_law_568, s_L_law_571, s_L_law_572, s_L_law_573, s_L_law_574, s_L_law_575, s_L_law_576, s_L_law_577, s_L_law_580, s_L_law_583, s_L_law_584, s_L_law_584_0, s_L_law_584_1, x1.rc, y2.rc, lw_v x1, lw_v x2, lw_i hi hL (show 1 < 6 by decide), lw_c hi hL (show 1 < 6 by decide), nI_1, lw2, lw3, lw4, lw5, e1, e2, List.getElem?_cons_zero, List.getElem?_cons_succ, ob1_s, b2_t, b2_f, z1, cI, List.set_cons_zero, List.set_cons_succ, List.length_cons, List.length_nil, Nat.reduceAdd, Nat.reduceLT, Nat.zero_lt_succ, Bool.false_and, Bool.and_false, Bool.true_and, Bool.and_true, Bool.false_eq_true, ck0, ck1, ck2, ck3, ck4, Option.toList_some, Option.toList_none, List.cons_append, List.nil_append, gf_hit, pf_hit, ai_hit, al_hit, ar_hit, ob_hit, if_true, if_false, reduceIte, reduceCtorEq]
theorem sq_on (x : LSt h A) (hi : i + 6 ≤ L) (hL : L ≤ 3072) : ∃ h2 A2, den (L, xs) 11 ML_law 585 [some (.ref 3000), some (.ref 0), some (.ref 42), some (.int (nI i))] [] h = den (L, xs) 11 ML_law 1338 [some (.ref 3000), some (.ref 0), some (.ref 42), some (.int (nI i))] [] h2 ∧ LSt h2 A2 ∧ h2.2 = h.2 := by
  obtain ⟨x1, y1, ai⟩ := x
  obtain ⟨h1, e1, x2, s1⟩ := cm_on (sc := (L, xs)) x1 ai (xs (i + 1)) (xs (i + 2)) (xs (i + 3))
  have y2 := y1.tr s1
  obtain ⟨h2, e2, y3, s2⟩ := mm_on (sc := (L, xs)) y2 ai (xs (i + 1)) (xs (i + 2)) (xs (i + 3))
  refine ⟨h2, _, ?_, ⟨x2.tr s2, y3, ai_on ai (xs (i + 1)) (xs (i + 2)) (xs (i + 3))⟩, s2.2.trans s1.2⟩
  simp only [s_L_law_585, s_L_law_586, s_L_law_587, s_L_law_588, s_L_law_589, s_L_law_590, s_L_law_591, s_L_law_592, s_L_law_593, s_L_law_594, s_L_law_595, s_L_law_596, s_L_law_597, s_L_law_598, s_L_law_599, s_L_law_600, s_L_law_601, s_L_law_604, s_L_law_605, s_L_law_606, s_L_law_607, s_L_law_608, s_L_law_609, s_L_law_610, s_L_law_611, s_L_law_612, s_L_law_613, s_L_law_614, s_L_law_615, s_L_law_616, s_L_law_617, s_L_law_618, s_L_law_619, s_L_law_620, s_L_law_623, s_L_law_626, s_L_law_627, s_L_law_627_0, s_L_law_627_1, x1.rc, y2.rc, lw_v x1, lw_v x2, lw_i hi hL (show 1 < 6 by decide), lw_c hi hL (show 1 < 6 by decide), lw_i hi hL (show 2 < 6 by decide), lw_c hi hL (show 2 < 6 by decide), lw_i hi hL (show 3 < 6 by decide), lw_c hi hL (show 3 < 6 by decide), nI_1, lw2, lw3, lw4, lw5, e1, e2, List.getElem?_cons_zero, List.getElem?_cons_succ, ob1_s, b2_t, b2_f, z1, cI, List.set_cons_zero, List.set_cons_succ, List.length_cons, List.length_nil, Nat.reduceAdd, Nat.reduceLT, Nat.zero_lt_succ, Bool.false_and, Bool.and_false, Bool.true_and, Bool.and_true, Bool.false_eq_true, ck0, ck1, ck2, ck3, ck4, Option.toList_some, Option.toList_none, List.cons_append, List.nil_append, gf_hit, pf_hit, ai_hit, al_hit, ar_hit, ob_hit, if_true, if_false, reduceIte, reduceCtorEq]
theorem sq_gets (x : LSt h A) (hi : i + 6 ≤ L) (hL : L ≤ 3072) : ∃ h2 A2, den (L, xs) 11 ML_law 628 [some (.ref 3000), some (.ref 0), some (.ref 42), some (.int (nI i))] [] h = den (L, xs) 11 ML_law 1338 [some (.ref 3000), some (.ref 0), some (.ref 42), some (.int (nI i))] [] h2 ∧ LSt h2 A2 ∧ h2.2 = h.2 := by
  obtain ⟨x1, y1, ai⟩ := x
  obtain ⟨h1, e1, x2, s1⟩ := cm_gets (sc := (L, xs)) x1 ai (xs (i + 1)) (xs (i + 2))
  have y2 := y1.tr s1
  obtain ⟨h2, e2, y3, s2⟩ := mm_gets (sc := (L, xs)) y2 ai (xs (i + 1)) (xs (i + 2))
  refine ⟨h2, _, ?_, ⟨x2.tr s2, y3, ai_gets ai (xs (i + 1)) (xs (i + 2))⟩, s2.2.trans s1.2⟩
  simp only [s_L_law_628, s_L_law_629, s_L_law_630, s_L_law_631, s_L_law_632, s_L_law_633, s_L_law_634, s_L_law_635, s_L_law_636, s_L_law_637, s_L_law_638, s_L_law_639, s_L_law_642, s_L_law_643, s_L_law_644, s_L_law_645, s_L_law_646, s_L_law_647, s_L_law_648, s_L_law_649, s_L_law_650, s_L_law_651, s_L_law_652, s_L_law_653, s_L_law_656, s_L_law_659, s_L_law_660, s_L_law_660_0, s_L_law_660_1, x1.rc, y2.rc, lw_v x1, lw_v x2, lw_i hi hL (show 1 < 6 by decide), lw_c hi hL (show 1 < 6 by decide), lw_i hi hL (show 2 < 6 by decide), lw_c hi hL (show 2 < 6 by decide), nI_1, lw2, lw3, lw4, lw5, e1, e2, List.getElem?_cons_zero, List.getElem?_cons_succ, ob1_s, b2_t, b2_f, z1, cI, List.set_cons_zero, List.set_cons_succ, List.length_cons, List.length_nil, Nat.reduceAdd, Nat.reduceLT, Nat.zero_lt_succ, Bool.false_and, Bool.and_false, Bool.true_and, Bool.and_true, Bool.false_eq_true, ck0, ck1, ck2, ck3, ck4, Option.toList_some, Option.toList_none, List.cons_append, List.nil_append, gf_hit, pf_hit, ai_hit, al_hit, ar_hit, ob_hit, if_true, if_false, reduceIte, reduceCtorEq]
theorem sq_loses (x : LSt h A) (hi : i + 6 ≤ L) (hL : L ≤ 3072) : ∃ h2 A2, den (L, xs) 11 ML_law 661 [some (.ref 3000), some (.ref 0), some (.ref 42), some (.int (nI i))] [] h = den (L, xs) 11 ML_law 1338 [some (.ref 3000), some (.ref 0), some (.ref 42), some (.int (nI i))] [] h2 ∧ LSt h2 A2 ∧ h2.2 = h.2 := by
  obtain ⟨x1, y1, ai⟩ := x
  obtain ⟨h1, e1, x2, s1⟩ := cm_loses (sc := (L, xs)) x1 ai (xs (i + 1)) (xs (i + 2))
  have y2 := y1.tr s1
  obtain ⟨h2, e2, y3, s2⟩ := mm_loses (sc := (L, xs)) y2 ai (xs (i + 1)) (xs (i + 2))
  refine ⟨h2, _, ?_, ⟨x2.tr s2, y3, ai_loses ai (xs (i + 1)) (xs (i + 2))⟩, s2.2.trans s1.2⟩
  simp only [s_L_law_661, s_L_law_662, s_L_law_663, s_L_law_664, s_L_law_665, s_L_law_666, s_L_law_667, s_L_law_668, s_L_law_669, s_L_law_670, s_L_law_671, s_L_law_672, s_L_law_675, s_L_law_676, s_L_law_677, s_L_law_678, s_L_law_679, s_L_law_680, s_L_law_681, s_L_law_682, s_L_law_683, s_L_law_684, s_L_law_685, s_L_law_686, s_L_law_689, s_L_law_692, s_L_law_693, s_L_law_693_0, s_L_law_693_1, x1.rc, y2.rc, lw_v x1, lw_v x2, lw_i hi hL (show 1 < 6 by decide), lw_c hi hL (show 1 < 6 by decide), lw_i hi hL (show 2 < 6 by decide), lw_c hi hL (show 2 < 6 by decide), nI_1, lw2, lw3, lw4, lw5, e1, e2, List.getElem?_cons_zero, List.getElem?_cons_succ, ob1_s, b2_t, b2_f, z1, cI, List.set_cons_zero, List.set_cons_succ, List.length_cons, List.length_nil, Nat.reduceAdd, Nat.reduceLT, Nat.zero_lt_succ, Bool.false_and, Bool.and_false, Bool.true_and, Bool.and_true, Bool.false_eq_true, ck0, ck1, ck2, ck3, ck4, Option.toList_some, Option.toList_none, List.cons_append, List.nil_append, gf_hit, pf_hit, ai_hit, al_hit, ar_hit, ob_hit, if_true, if_false, reduceIte, reduceCtorEq]
theorem sq_burns (x : LSt h A) (hi : i + 6 ≤ L) (hL : L ≤ 3072) : ∃ h2 A2, den (L, xs) 11 ML_law 694 [some (.ref 3000), some (.ref 0), some (.ref 42), some (.int (nI i))] [] h = den (L, xs) 11 ML_law 1338 [some (.ref 3000), some (.ref 0), some (.ref 42), some (.int (nI i))] [] h2 ∧ LSt h2 A2 ∧ h2.2 = h.2 := by
  obtain ⟨x1, y1, ai⟩ := x
  obtain ⟨h1, e1, x2, s1⟩ := cm_burns (sc := (L, xs)) x1 ai (xs (i + 1))
  have y2 := y1.tr s1
  obtain ⟨h2, e2, y3, s2⟩ := mm_burns (sc := (L, xs)) y2 ai (xs (i + 1))
  refine ⟨h2, _, ?_, ⟨x2.tr s2, y3, ai_burns ai (xs (i + 1))⟩, s2.2.trans s1.2⟩
  simp only [s_L_law_694, s_L_law_695, s_L_law_696, s_L_law_697, s_L_law_698, s_L_law_699, s_L_law_700, s_L_law_703, s_L_law_704, s_L_law_705, s_L_law_706, s_L_law_707, s_L_law_708, s_L_law_709, s_L_law_712, s_L_law_715, s_L_law_716, s_L_law_716_0, s_L_law_716_1, x1.rc, y2.rc, lw_v x1, lw_v x2, lw_i hi hL (show 1 < 6 by decide), lw_c hi hL (show 1 < 6 by decide), nI_1, lw2, lw3, lw4, lw5, e1, e2, List.getElem?_cons_zero, List.getElem?_cons_succ, ob1_s, b2_t, b2_f, z1, cI, List.set_cons_zero, List.set_cons_succ, List.length_cons, List.length_nil, Nat.reduceAdd, Nat.reduceLT, Nat.zero_lt_succ, Bool.false_and, Bool.and_false, Bool.true_and, Bool.and_true, Bool.false_eq_true, ck0, ck1, ck2, ck3, ck4, Option.toList_some, Option.toList_none, List.cons_append, List.nil_append, gf_hit, pf_hit, ai_hit, al_hit, ar_hit, ob_hit, if_true, if_false, reduceIte, reduceCtorEq]
theorem sq_cousin (x : LSt h A) (hi : i + 6 ≤ L) (hL : L ≤ 3072) : ∃ h2 A2, den (L, xs) 11 ML_law 717 [some (.ref 3000), some (.ref 0), some (.ref 42), some (.int (nI i))] [] h = den (L, xs) 11 ML_law 1338 [some (.ref 3000), some (.ref 0), some (.ref 42), some (.int (nI i))] [] h2 ∧ LSt h2 A2 ∧ h2.2 = h.2 := by
  obtain ⟨x1, y1, ai⟩ := x
  obtain ⟨h1, e1, x2, s1⟩ := cm_cousin (sc := (L, xs)) x1 ai (xs (i + 1)) (xs (i + 2))
  have y2 := y1.tr s1
  obtain ⟨h2, e2, y3, s2⟩ := mm_cousin (sc := (L, xs)) y2 ai (xs (i + 1)) (xs (i + 2))
  refine ⟨h2, _, ?_, ⟨x2.tr s2, y3, ai_cousin ai (xs (i + 1)) (xs (i + 2))⟩, s2.2.trans s1.2⟩
  simp only [s_L_law_717, s_L_law_718, s_L_law_719, s_L_law_720, s_L_law_721, s_L_law_722, s_L_law_723, s_L_law_724, s_L_law_725, s_L_law_726, s_L_law_727, s_L_law_728, s_L_law_731, s_L_law_732, s_L_law_733, s_L_law_734, s_L_law_735, s_L_law_736, s_L_law_737, s_L_law_738, s_L_law_739, s_L_law_740, s_L_law_741, s_L_law_742, s_L_law_745, s_L_law_748, s_L_law_749, s_L_law_749_0, s_L_law_749_1, x1.rc, y2.rc, lw_v x1, lw_v x2, lw_i hi hL (show 1 < 6 by decide), lw_c hi hL (show 1 < 6 by decide), lw_i hi hL (show 2 < 6 by decide), lw_c hi hL (show 2 < 6 by decide), nI_1, lw2, lw3, lw4, lw5, e1, e2, List.getElem?_cons_zero, List.getElem?_cons_succ, ob1_s, b2_t, b2_f, z1, cI, List.set_cons_zero, List.set_cons_succ, List.length_cons, List.length_nil, Nat.reduceAdd, Nat.reduceLT, Nat.zero_lt_succ, Bool.false_and, Bool.and_false, Bool.true_and, Bool.and_true, Bool.false_eq_true, ck0, ck1, ck2, ck3, ck4, Option.toList_some, Option.toList_none, List.cons_append, List.nil_append, gf_hit, pf_hit, ai_hit, al_hit, ar_hit, ob_hit, if_true, if_false, reduceIte, reduceCtorEq]
theorem sq_kind (x : LSt h A) (hi : i + 6 ≤ L) (hL : L ≤ 3072) : ∃ h2 A2, den (L, xs) 11 ML_law 750 [some (.ref 3000), some (.ref 0), some (.ref 42), some (.int (nI i))] [] h = den (L, xs) 11 ML_law 1338 [some (.ref 3000), some (.ref 0), some (.ref 42), some (.int (nI i))] [] h2 ∧ LSt h2 A2 ∧ h2.2 = h.2 := by
  obtain ⟨x1, y1, ai⟩ := x
  obtain ⟨h1, e1, x2, s1⟩ := cm_kind (sc := (L, xs)) x1 ai (xs (i + 1)) (xs (i + 2))
  have y2 := y1.tr s1
  obtain ⟨h2, e2, y3, s2⟩ := mm_kind (sc := (L, xs)) y2 ai (xs (i + 1)) (xs (i + 2))
  refine ⟨h2, _, ?_, ⟨x2.tr s2, y3, ai_kind ai (xs (i + 1)) (xs (i + 2))⟩, s2.2.trans s1.2⟩
  simp only [s_L_law_750, s_L_law_751, s_L_law_752, s_L_law_753, s_L_law_754, s_L_law_755, s_L_law_756, s_L_law_757, s_L_law_758, s_L_law_759, s_L_law_760, s_L_law_761, s_L_law_764, s_L_law_765, s_L_law_766, s_L_law_767, s_L_law_768, s_L_law_769, s_L_law_770, s_L_law_771, s_L_law_772, s_L_law_773, s_L_law_774, s_L_law_775, s_L_law_778, s_L_law_781, s_L_law_782, s_L_law_782_0, s_L_law_782_1, x1.rc, y2.rc, lw_v x1, lw_v x2, lw_i hi hL (show 1 < 6 by decide), lw_c hi hL (show 1 < 6 by decide), lw_i hi hL (show 2 < 6 by decide), lw_c hi hL (show 2 < 6 by decide), nI_1, lw2, lw3, lw4, lw5, e1, e2, List.getElem?_cons_zero, List.getElem?_cons_succ, ob1_s, b2_t, b2_f, z1, cI, List.set_cons_zero, List.set_cons_succ, List.length_cons, List.length_nil, Nat.reduceAdd, Nat.reduceLT, Nat.zero_lt_succ, Bool.false_and, Bool.and_false, Bool.true_and, Bool.and_true, Bool.false_eq_true, ck0, ck1, ck2, ck3, ck4, Option.toList_some, Option.toList_none, List.cons_append, List.nil_append, gf_hit, pf_hit, ai_hit, al_hit, ar_hit, ob_hit, if_true, if_false, reduceIte, reduceCtorEq]
theorem sq_keep (x : LSt h A) (hi : i + 6 ≤ L) (hL : L ≤ 3072) : ∃ h2 A2, den (L, xs) 11 ML_law 783 [some (.ref 3000), some (.ref 0), some (.ref 42), some (.int (nI i))] [] h = den (L, xs) 11 ML_law 1338 [some (.ref 3000), some (.ref 0), some (.ref 42), some (.int (nI i))] [] h2 ∧ LSt h2 A2 ∧ h2.2 = h.2 := by
  obtain ⟨x1, y1, ai⟩ := x
  obtain ⟨h1, e1, x2, s1⟩ := cm_kee (sc := (L, xs)) x1 ai (xs (i + 1)) (xs (i + 2)) (xs (i + 3))
  have y2 := y1.tr s1
  obtain ⟨h2, e2, y3, s2⟩ := mm_kee (sc := (L, xs)) y2 ai (xs (i + 1)) (xs (i + 2)) (xs (i + 3))
  refine ⟨h2, _, ?_, ⟨x2.tr s2, y3, ai_keep ai (xs (i + 1)) (xs (i + 2)) (xs (i + 3))⟩, s2.2.trans s1.2⟩
  simp only [s_L_law_783, s_L_law_784, s_L_law_785, s_L_law_786, s_L_law_787, s_L_law_788, s_L_law_789, s_L_law_790, s_L_law_791, s_L_law_792, s_L_law_793, s_L_law_794, s_L_law_795, s_L_law_796, s_L_law_797, s_L_law_798, s_L_law_799, s_L_law_802, s_L_law_803, s_L_law_804, s_L_law_805, s_L_law_806, s_L_law_807, s_L_law_808, s_L_law_809, s_L_law_810, s_L_law_811, s_L_law_812, s_L_law_813, s_L_law_814, s_L_law_815, s_L_law_816, s_L_law_817, s_L_law_818, s_L_law_821, s_L_law_824, s_L_law_825, s_L_law_825_0, s_L_law_825_1, x1.rc, y2.rc, lw_v x1, lw_v x2, lw_i hi hL (show 1 < 6 by decide), lw_c hi hL (show 1 < 6 by decide), lw_i hi hL (show 2 < 6 by decide), lw_c hi hL (show 2 < 6 by decide), lw_i hi hL (show 3 < 6 by decide), lw_c hi hL (show 3 < 6 by decide), nI_1, lw2, lw3, lw4, lw5, e1, e2, List.getElem?_cons_zero, List.getElem?_cons_succ, ob1_s, b2_t, b2_f, z1, cI, List.set_cons_zero, List.set_cons_succ, List.length_cons, List.length_nil, Nat.reduceAdd, Nat.reduceLT, Nat.zero_lt_succ, Bool.false_and, Bool.and_false, Bool.true_and, Bool.and_true, Bool.false_eq_true, ck0, ck1, ck2, ck3, ck4, Option.toList_some, Option.toList_none, List.cons_append, List.nil_append, gf_hit, pf_hit, ai_hit, al_hit, ar_hit, ob_hit, if_true, if_false, reduceIte, reduceCtorEq]
theorem sq_best (x : LSt h A) (hi : i + 6 ≤ L) (hL : L ≤ 3072) : ∃ h2 A2, den (L, xs) 11 ML_law 826 [some (.ref 3000), some (.ref 0), some (.ref 42), some (.int (nI i))] [] h = den (L, xs) 11 ML_law 1338 [some (.ref 3000), some (.ref 0), some (.ref 42), some (.int (nI i))] [] h2 ∧ LSt h2 A2 ∧ h2.2 = h.2 := by
  obtain ⟨x1, y1, ai⟩ := x
  obtain ⟨h1, e1, x2, s1⟩ := cm_best (sc := (L, xs)) x1 ai (xs (i + 1)) (xs (i + 2))
  have y2 := y1.tr s1
  obtain ⟨h2, e2, y3, s2⟩ := mm_best (sc := (L, xs)) y2 ai (xs (i + 1)) (xs (i + 2))
  refine ⟨h2, _, ?_, ⟨x2.tr s2, y3, ai_best ai (xs (i + 1)) (xs (i + 2))⟩, s2.2.trans s1.2⟩
  simp only [s_L_law_826, s_L_law_827, s_L_law_828, s_L_law_829, s_L_law_830, s_L_law_831, s_L_law_832, s_L_law_833, s_L_law_834, s_L_law_835, s_L_law_836, s_L_law_837, s_L_law_840, s_L_law_841, s_L_law_842, s_L_law_843, s_L_law_844, s_L_law_845, s_L_law_846, s_L_law_847, s_L_law_848, s_L_law_849, s_L_law_850, s_L_law_851, s_L_law_854, s_L_law_857, s_L_law_858, s_L_law_858_0, s_L_law_858_1, x1.rc, y2.rc, lw_v x1, lw_v x2, lw_i hi hL (show 1 < 6 by decide), lw_c hi hL (show 1 < 6 by decide), lw_i hi hL (show 2 < 6 by decide), lw_c hi hL (show 2 < 6 by decide), nI_1, lw2, lw3, lw4, lw5, e1, e2, List.getElem?_cons_zero, List.getElem?_cons_succ, ob1_s, b2_t, b2_f, z1, cI, List.set_cons_zero, List.set_cons_succ, List.length_cons, List.length_nil, Nat.reduceAdd, Nat.reduceLT, Nat.zero_lt_succ, Bool.false_and, Bool.and_false, Bool.true_and, Bool.and_true, Bool.false_eq_true, ck0, ck1, ck2, ck3, ck4, Option.toList_some, Option.toList_none, List.cons_append, List.nil_append, gf_hit, pf_hit, ai_hit, al_hit, ar_hit, ob_hit, if_true, if_false, reduceIte, reduceCtorEq]
theorem sq_richest (x : LSt h A) (hi : i + 6 ≤ L) (hL : L ≤ 3072) : ∃ h2 A2, den (L, xs) 11 ML_law 859 [some (.ref 3000), some (.ref 0), some (.ref 42), some (.int (nI i))] [] h = den (L, xs) 11 ML_law 1338 [some (.ref 3000), some (.ref 0), some (.ref 42), some (.int (nI i))] [] h2 ∧ LSt h2 A2 ∧ h2.2 = h.2 := by
  obtain ⟨x1, y1, ai⟩ := x
  obtain ⟨h1, e1, x2, s1⟩ := cm_richest (sc := (L, xs)) x1 ai (xs (i + 1))
  have y2 := y1.tr s1
  obtain ⟨h2, e2, y3, s2⟩ := mm_richest (sc := (L, xs)) y2 ai (xs (i + 1))
  refine ⟨h2, _, ?_, ⟨x2.tr s2, y3, ai_richest ai (xs (i + 1))⟩, s2.2.trans s1.2⟩
  simp only [s_L_law_859, s_L_law_860, s_L_law_861, s_L_law_862, s_L_law_863, s_L_law_864, s_L_law_865, s_L_law_868, s_L_law_869, s_L_law_870, s_L_law_871, s_L_law_872, s_L_law_873, s_L_law_874, s_L_law_877, s_L_law_880, s_L_law_881, s_L_law_881_0, s_L_law_881_1, x1.rc, y2.rc, lw_v x1, lw_v x2, lw_i hi hL (show 1 < 6 by decide), lw_c hi hL (show 1 < 6 by decide), nI_1, lw2, lw3, lw4, lw5, e1, e2, List.getElem?_cons_zero, List.getElem?_cons_succ, ob1_s, b2_t, b2_f, z1, cI, List.set_cons_zero, List.set_cons_succ, List.length_cons, List.length_nil, Nat.reduceAdd, Nat.reduceLT, Nat.zero_lt_succ, Bool.false_and, Bool.and_false, Bool.true_and, Bool.and_true, Bool.false_eq_true, ck0, ck1, ck2, ck3, ck4, Option.toList_some, Option.toList_none, List.cons_append, List.nil_append, gf_hit, pf_hit, ai_hit, al_hit, ar_hit, ob_hit, if_true, if_false, reduceIte, reduceCtorEq]
theorem sq_fewest (x : LSt h A) (hi : i + 6 ≤ L) (hL : L ≤ 3072) : ∃ h2 A2, den (L, xs) 11 ML_law 882 [some (.ref 3000), some (.ref 0), some (.ref 42), some (.int (nI i))] [] h = den (L, xs) 11 ML_law 1338 [some (.ref 3000), some (.ref 0), some (.ref 42), some (.int (nI i))] [] h2 ∧ LSt h2 A2 ∧ h2.2 = h.2 := by
  obtain ⟨x1, y1, ai⟩ := x
  obtain ⟨h1, e1, x2, s1⟩ := cm_fewest (sc := (L, xs)) x1 ai (xs (i + 1)) (xs (i + 2)) (xs (i + 3))
  have y2 := y1.tr s1
  obtain ⟨h2, e2, y3, s2⟩ := mm_fewest (sc := (L, xs)) y2 ai (xs (i + 1)) (xs (i + 2)) (xs (i + 3))
  refine ⟨h2, _, ?_, ⟨x2.tr s2, y3, ai_fewest ai (xs (i + 1)) (xs (i + 2)) (xs (i + 3))⟩, s2.2.trans s1.2⟩
  simp only [s_L_law_882, s_L_law_883, s_L_law_884, s_L_law_885, s_L_law_886, s_L_law_887, s_L_law_888, s_L_law_889, s_L_law_890, s_L_law_891, s_L_law_892, s_L_law_893, s_L_law_894, s_L_law_895, s_L_law_896, s_L_law_897, s_L_law_898, s_L_law_901, s_L_law_902, s_L_law_903, s_L_law_904, s_L_law_905, s_L_law_906, s_L_law_907, s_L_law_908, s_L_law_909, s_L_law_910, s_L_law_911, s_L_law_912, s_L_law_913, s_L_law_914, s_L_law_915, s_L_law_916, s_L_law_917, s_L_law_920, s_L_law_923, s_L_law_924, s_L_law_924_0, s_L_law_924_1, x1.rc, y2.rc, lw_v x1, lw_v x2, lw_i hi hL (show 1 < 6 by decide), lw_c hi hL (show 1 < 6 by decide), lw_i hi hL (show 2 < 6 by decide), lw_c hi hL (show 2 < 6 by decide), lw_i hi hL (show 3 < 6 by decide), lw_c hi hL (show 3 < 6 by decide), nI_1, lw2, lw3, lw4, lw5, e1, e2, List.getElem?_cons_zero, List.getElem?_cons_succ, ob1_s, b2_t, b2_f, z1, cI, List.set_cons_zero, List.set_cons_succ, List.length_cons, List.length_nil, Nat.reduceAdd, Nat.reduceLT, Nat.zero_lt_succ, Bool.false_and, Bool.and_false, Bool.true_and, Bool.and_true, Bool.false_eq_true, ck0, ck1, ck2, ck3, ck4, Option.toList_some, Option.toList_none, List.cons_append, List.nil_append, gf_hit, pf_hit, ai_hit, al_hit, ar_hit, ob_hit, if_true, if_false, reduceIte, reduceCtorEq]
theorem sq_feed (x : LSt h A) (hi : i + 6 ≤ L) (hL : L ≤ 3072) : ∃ h2 A2, den (L, xs) 11 ML_law 925 [some (.ref 3000), some (.ref 0), some (.ref 42), some (.int (nI i))] [] h = den (L, xs) 11 ML_law 1338 [some (.ref 3000), some (.ref 0), some (.ref 42), some (.int (nI i))] [] h2 ∧ LSt h2 A2 ∧ h2.2 = h.2 := by
  obtain ⟨x1, y1, ai⟩ := x
  obtain ⟨h1, e1, x2, s1⟩ := cm_feed (sc := (L, xs)) x1 ai (xs (i + 1)) (xs (i + 2))
  have y2 := y1.tr s1
  obtain ⟨h2, e2, y3, s2⟩ := mm_feed (sc := (L, xs)) y2 ai (xs (i + 1)) (xs (i + 2))
  refine ⟨h2, _, ?_, ⟨x2.tr s2, y3, ai_feed ai (xs (i + 1)) (xs (i + 2))⟩, s2.2.trans s1.2⟩
  simp only [s_L_law_925, s_L_law_926, s_L_law_927, s_L_law_928, s_L_law_929, s_L_law_930, s_L_law_931, s_L_law_932, s_L_law_933, s_L_law_934, s_L_law_935, s_L_law_936, s_L_law_939, s_L_law_940, s_L_law_941, s_L_law_942, s_L_law_943, s_L_law_944, s_L_law_945, s_L_law_946, s_L_law_947, s_L_law_948, s_L_law_949, s_L_law_950, s_L_law_953, s_L_law_956, s_L_law_957, s_L_law_957_0, s_L_law_957_1, x1.rc, y2.rc, lw_v x1, lw_v x2, lw_i hi hL (show 1 < 6 by decide), lw_c hi hL (show 1 < 6 by decide), lw_i hi hL (show 2 < 6 by decide), lw_c hi hL (show 2 < 6 by decide), nI_1, lw2, lw3, lw4, lw5, e1, e2, List.getElem?_cons_zero, List.getElem?_cons_succ, ob1_s, b2_t, b2_f, z1, cI, List.set_cons_zero, List.set_cons_succ, List.length_cons, List.length_nil, Nat.reduceAdd, Nat.reduceLT, Nat.zero_lt_succ, Bool.false_and, Bool.and_false, Bool.true_and, Bool.and_true, Bool.false_eq_true, ck0, ck1, ck2, ck3, ck4, Option.toList_some, Option.toList_none, List.cons_append, List.nil_append, gf_hit, pf_hit, ai_hit, al_hit, ar_hit, ob_hit, if_true, if_false, reduceIte, reduceCtorEq]
theorem sq_wipe (x : LSt h A) (hi : i + 6 ≤ L) (hL : L ≤ 3072) : ∃ h2 A2, den (L, xs) 11 ML_law 958 [some (.ref 3000), some (.ref 0), some (.ref 42), some (.int (nI i))] [] h = den (L, xs) 11 ML_law 1338 [some (.ref 3000), some (.ref 0), some (.ref 42), some (.int (nI i))] [] h2 ∧ LSt h2 A2 ∧ h2.2 = h.2 := by
  obtain ⟨x1, y1, ai⟩ := x
  obtain ⟨h1, e1, x2, s1⟩ := cm_wipe (sc := (L, xs)) x1 
  have y2 := y1.tr s1
  obtain ⟨h2, e2, y3, s2⟩ := mm_wipe (sc := (L, xs)) y2 
  refine ⟨h2, _, ?_, ⟨x2.tr s2, y3, ai_wipe ai ⟩, s2.2.trans s1.2⟩
  simp only [s_L_law_958, s_L_law_959, s_L_law_962, s_L_law_963, s_L_law_966, s_L_law_969, s_L_law_970, s_L_law_970_0, s_L_law_970_1, x1.rc, y2.rc, lw_v x1, lw_v x2, nI_1, lw2, lw3, lw4, lw5, e1, e2, List.getElem?_cons_zero, List.getElem?_cons_succ, ob1_s, b2_t, b2_f, z1, cI, List.set_cons_zero, List.set_cons_succ, List.length_cons, List.length_nil, Nat.reduceAdd, Nat.reduceLT, Nat.zero_lt_succ, Bool.false_and, Bool.and_false, Bool.true_and, Bool.and_true, Bool.false_eq_true, ck0, ck1, ck2, ck3, ck4, Option.toList_some, Option.toList_none, List.cons_append, List.nil_append, gf_hit, pf_hit, ai_hit, al_hit, ar_hit, ob_hit, if_true, if_false, reduceIte, reduceCtorEq]
theorem sq_family (x : LSt h A) (hi : i + 6 ≤ L) (hL : L ≤ 3072) : ∃ h2 A2, den (L, xs) 11 ML_law 971 [some (.ref 3000), some (.ref 0), some (.ref 42), some (.int (nI i))] [] h = den (L, xs) 11 ML_law 1338 [some (.ref 3000), some (.ref 0), some (.ref 42), some (.int (nI i))] [] h2 ∧ LSt h2 A2 ∧ h2.2 = h.2 := by
  obtain ⟨x1, y1, ai⟩ := x
  obtain ⟨h1, e1, x2, s1⟩ := cm_family (sc := (L, xs)) x1 ai 
  have y2 := y1.tr s1
  obtain ⟨h2, e2, y3, s2⟩ := mm_family (sc := (L, xs)) y2 ai 
  refine ⟨h2, _, ?_, ⟨x2.tr s2, y3, ai_family ai ⟩, s2.2.trans s1.2⟩
  simp only [s_L_law_971, s_L_law_972, s_L_law_975, s_L_law_976, s_L_law_979, s_L_law_982, s_L_law_983, s_L_law_983_0, s_L_law_983_1, x1.rc, y2.rc, lw_v x1, lw_v x2, nI_1, lw2, lw3, lw4, lw5, e1, e2, List.getElem?_cons_zero, List.getElem?_cons_succ, ob1_s, b2_t, b2_f, z1, cI, List.set_cons_zero, List.set_cons_succ, List.length_cons, List.length_nil, Nat.reduceAdd, Nat.reduceLT, Nat.zero_lt_succ, Bool.false_and, Bool.and_false, Bool.true_and, Bool.and_true, Bool.false_eq_true, ck0, ck1, ck2, ck3, ck4, Option.toList_some, Option.toList_none, List.cons_append, List.nil_append, gf_hit, pf_hit, ai_hit, al_hit, ar_hit, ob_hit, if_true, if_false, reduceIte, reduceCtorEq]
theorem sq_sheet (x : LSt h A) (hi : i + 6 ≤ L) (hL : L ≤ 3072) : ∃ h2 A2, den (L, xs) 11 ML_law 984 [some (.ref 3000), some (.ref 0), some (.ref 42), some (.int (nI i))] [] h = den (L, xs) 11 ML_law 1338 [some (.ref 3000), some (.ref 0), some (.ref 42), some (.int (nI i))] [] h2 ∧ LSt h2 A2 ∧ h2.2 = h.2 := by
  obtain ⟨x1, y1, ai⟩ := x
  obtain ⟨h1, e1, x2, s1⟩ := cm_sheet (sc := (L, xs)) x1 (xs (i + 1)) (xs (i + 2)) (xs (i + 3))
  have y2 := y1.tr s1
  obtain ⟨h2, e2, y3, s2⟩ := mm_sheet (sc := (L, xs)) y2 (xs (i + 1)) (xs (i + 2)) (xs (i + 3))
  refine ⟨h2, _, ?_, ⟨x2.tr s2, y3, ai_sheet ai (xs (i + 1)) (xs (i + 2)) (xs (i + 3))⟩, s2.2.trans s1.2⟩
  simp only [s_L_law_984, s_L_law_985, s_L_law_986, s_L_law_987, s_L_law_988, s_L_law_989, s_L_law_990, s_L_law_991, s_L_law_992, s_L_law_993, s_L_law_994, s_L_law_995, s_L_law_996, s_L_law_997, s_L_law_998, s_L_law_999, s_L_law_1000, s_L_law_1003, s_L_law_1004, s_L_law_1005, s_L_law_1006, s_L_law_1007, s_L_law_1008, s_L_law_1009, s_L_law_1010, s_L_law_1011, s_L_law_1012, s_L_law_1013, s_L_law_1014, s_L_law_1015, s_L_law_1016, s_L_law_1017, s_L_law_1018, s_L_law_1019, s_L_law_1022, s_L_law_1025, s_L_law_1026, s_L_law_1026_0, s_L_law_1026_1, x1.rc, y2.rc, lw_v x1, lw_v x2, lw_i hi hL (show 1 < 6 by decide), lw_c hi hL (show 1 < 6 by decide), lw_i hi hL (show 2 < 6 by decide), lw_c hi hL (show 2 < 6 by decide), lw_i hi hL (show 3 < 6 by decide), lw_c hi hL (show 3 < 6 by decide), nI_1, lw2, lw3, lw4, lw5, e1, e2, List.getElem?_cons_zero, List.getElem?_cons_succ, ob1_s, b2_t, b2_f, z1, cI, List.set_cons_zero, List.set_cons_succ, List.length_cons, List.length_nil, Nat.reduceAdd, Nat.reduceLT, Nat.zero_lt_succ, Bool.false_and, Bool.and_false, Bool.true_and, Bool.and_true, Bool.false_eq_true, ck0, ck1, ck2, ck3, ck4, Option.toList_some, Option.toList_none, List.cons_append, List.nil_append, gf_hit, pf_hit, ai_hit, al_hit, ar_hit, ob_hit, if_true, if_false, reduceIte, reduceCtorEq]
theorem sq_write (x : LSt h A) (hi : i + 6 ≤ L) (hL : L ≤ 3072) : ∃ h2 A2, den (L, xs) 11 ML_law 1027 [some (.ref 3000), some (.ref 0), some (.ref 42), some (.int (nI i))] [] h = den (L, xs) 11 ML_law 1338 [some (.ref 3000), some (.ref 0), some (.ref 42), some (.int (nI i))] [] h2 ∧ LSt h2 A2 ∧ h2.2 = h.2 := by
  obtain ⟨x1, y1, ai⟩ := x
  obtain ⟨h1, e1, x2, s1⟩ := cm_write (sc := (L, xs)) x1 ai (xs (i + 1)) (xs (i + 2)) ((xs (i + 3)).toInt64 <<< ((32 : Int32).toInt64 &&& 63) ||| ((xs (i + 4)).toInt64 &&& 4294967295))
  have y2 := y1.tr s1
  obtain ⟨h2, e2, y3, s2⟩ := mm_write (sc := (L, xs)) y2 ai (xs (i + 1)) (xs (i + 2)) ((xs (i + 3)).toInt64 <<< ((32 : Int32).toInt64 &&& 63) ||| ((xs (i + 4)).toInt64 &&& 4294967295))
  refine ⟨h2, _, ?_, ⟨x2.tr s2, y3, ai_write ai (xs (i + 1)) (xs (i + 2)) ((xs (i + 3)).toInt64 <<< ((32 : Int32).toInt64 &&& 63) ||| ((xs (i + 4)).toInt64 &&& 4294967295))⟩, s2.2.trans s1.2⟩
  simp only [s_L_law_1027, s_L_law_1028, s_L_law_1029, s_L_law_1030, s_L_law_1031, s_L_law_1032, s_L_law_1033, s_L_law_1034, s_L_law_1035, s_L_law_1036, s_L_law_1037, s_L_law_1038, s_L_law_1039, s_L_law_1040, s_L_law_1041, s_L_law_1042, s_L_law_1043, s_L_law_1044, s_L_law_1046, s_L_law_1047, s_L_law_1048, s_L_law_1049, s_L_law_1050, s_L_law_1051, s_L_law_1052, s_L_law_1053, s_L_law_1056, s_L_law_1057, s_L_law_1058, s_L_law_1061, s_L_law_1062, s_L_law_1063, s_L_law_1064, s_L_law_1065, s_L_law_1066, s_L_law_1067, s_L_law_1068, s_L_law_1069, s_L_law_1070, s_L_law_1071, s_L_law_1072, s_L_law_1073, s_L_law_1074, s_L_law_1075, s_L_law_1076, s_L_law_1077, s_L_law_1078, s_L_law_1080, s_L_law_1081, s_L_law_1082, s_L_law_1083, s_L_law_1084, s_L_law_1085, s_L_law_1086, s_L_law_1087, s_L_law_1090, s_L_law_1091, s_L_law_1092, s_L_law_1095, s_L_law_1096, s_L_law_1099, s_L_law_1100, s_L_law_1100_0, s_L_law_1100_1, x1.rc, y2.rc, lw_v x1, lw_v x2, lw_i hi hL (show 1 < 6 by decide), lw_c hi hL (show 1 < 6 by decide), lw_i hi hL (show 2 < 6 by decide), lw_c hi hL (show 2 < 6 by decide), lw_i hi hL (show 3 < 6 by decide), lw_c hi hL (show 3 < 6 by decide), lw_i hi hL (show 4 < 6 by decide), lw_c hi hL (show 4 < 6 by decide), nI_1, lw2, lw3, lw4, lw5, e1, e2, lg_cmp_eq, List.getElem?_cons_zero, List.getElem?_cons_succ, ob1_s, b2_t, b2_f, z1, cI, List.set_cons_zero, List.set_cons_succ, List.length_cons, List.length_nil, Nat.reduceAdd, Nat.reduceLT, Nat.zero_lt_succ, Bool.false_and, Bool.and_false, Bool.true_and, Bool.and_true, Bool.false_eq_true, ck0, ck1, ck2, ck3, ck4, Option.toList_some, Option.toList_none, List.cons_append, List.nil_append, gf_hit, pf_hit, ai_hit, al_hit, ar_hit, ob_hit, if_true, if_false, reduceIte, reduceCtorEq]
theorem sq_copy (x : LSt h A) (hi : i + 6 ≤ L) (hL : L ≤ 3072) : ∃ h2 A2, den (L, xs) 11 ML_law 1101 [some (.ref 3000), some (.ref 0), some (.ref 42), some (.int (nI i))] [] h = den (L, xs) 11 ML_law 1338 [some (.ref 3000), some (.ref 0), some (.ref 42), some (.int (nI i))] [] h2 ∧ LSt h2 A2 ∧ h2.2 = h.2 := by
  obtain ⟨x1, y1, ai⟩ := x
  obtain ⟨h1, e1, x2, s1⟩ := cm_copy (sc := (L, xs)) x1 ai (xs (i + 1)) (xs (i + 2)) (xs (i + 3)) (xs (i + 4)) (xs (i + 5))
  have y2 := y1.tr s1
  obtain ⟨h2, e2, y3, s2⟩ := mm_copy (sc := (L, xs)) y2 ai (xs (i + 1)) (xs (i + 2)) (xs (i + 3)) (xs (i + 4)) (xs (i + 5))
  refine ⟨h2, _, ?_, ⟨x2.tr s2, y3, ai_copy ai (xs (i + 1)) (xs (i + 2)) (xs (i + 3)) (xs (i + 4)) (xs (i + 5))⟩, s2.2.trans s1.2⟩
  simp only [s_L_law_1101, s_L_law_1102, s_L_law_1103, s_L_law_1104, s_L_law_1105, s_L_law_1106, s_L_law_1107, s_L_law_1108, s_L_law_1109, s_L_law_1110, s_L_law_1111, s_L_law_1112, s_L_law_1113, s_L_law_1114, s_L_law_1115, s_L_law_1116, s_L_law_1117, s_L_law_1118, s_L_law_1119, s_L_law_1120, s_L_law_1121, s_L_law_1122, s_L_law_1123, s_L_law_1124, s_L_law_1125, s_L_law_1126, s_L_law_1127, s_L_law_1130, s_L_law_1131, s_L_law_1132, s_L_law_1133, s_L_law_1134, s_L_law_1135, s_L_law_1136, s_L_law_1137, s_L_law_1138, s_L_law_1139, s_L_law_1140, s_L_law_1141, s_L_law_1142, s_L_law_1143, s_L_law_1144, s_L_law_1145, s_L_law_1146, s_L_law_1147, s_L_law_1148, s_L_law_1149, s_L_law_1150, s_L_law_1151, s_L_law_1152, s_L_law_1153, s_L_law_1154, s_L_law_1155, s_L_law_1156, s_L_law_1159, s_L_law_1162, s_L_law_1163, s_L_law_1163_0, s_L_law_1163_1, x1.rc, y2.rc, lw_v x1, lw_v x2, lw_i hi hL (show 1 < 6 by decide), lw_c hi hL (show 1 < 6 by decide), lw_i hi hL (show 2 < 6 by decide), lw_c hi hL (show 2 < 6 by decide), lw_i hi hL (show 3 < 6 by decide), lw_c hi hL (show 3 < 6 by decide), lw_i hi hL (show 4 < 6 by decide), lw_c hi hL (show 4 < 6 by decide), lw_i hi hL (show 5 < 6 by decide), lw_c hi hL (show 5 < 6 by decide), nI_1, lw2, lw3, lw4, lw5, e1, e2, List.getElem?_cons_zero, List.getElem?_cons_succ, ob1_s, b2_t, b2_f, z1, cI, List.set_cons_zero, List.set_cons_succ, List.length_cons, List.length_nil, Nat.reduceAdd, Nat.reduceLT, Nat.zero_lt_succ, Bool.false_and, Bool.and_false, Bool.true_and, Bool.and_true, Bool.false_eq_true, ck0, ck1, ck2, ck3, ck4, Option.toList_some, Option.toList_none, List.cons_append, List.nil_append, gf_hit, pf_hit, ai_hit, al_hit, ar_hit, ob_hit, if_true, if_false, reduceIte, reduceCtorEq]
theorem sq_lays (x : LSt h A) (hi : i + 6 ≤ L) (hL : L ≤ 3072) : ∃ h2 A2, den (L, xs) 11 ML_law 1164 [some (.ref 3000), some (.ref 0), some (.ref 42), some (.int (nI i))] [] h = den (L, xs) 11 ML_law 1338 [some (.ref 3000), some (.ref 0), some (.ref 42), some (.int (nI i))] [] h2 ∧ LSt h2 A2 ∧ h2.2 = h.2 := by
  obtain ⟨x1, y1, ai⟩ := x
  obtain ⟨h1, e1, x2, s1⟩ := cm_lays (sc := (L, xs)) x1 ai (xs (i + 1))
  have y2 := y1.tr s1
  obtain ⟨h2, e2, y3, s2⟩ := mm_lays (sc := (L, xs)) y2 ai (xs (i + 1))
  refine ⟨h2, _, ?_, ⟨x2.tr s2, y3, ai_lays ai (xs (i + 1))⟩, s2.2.trans s1.2⟩
  simp only [s_L_law_1164, s_L_law_1165, s_L_law_1166, s_L_law_1167, s_L_law_1168, s_L_law_1169, s_L_law_1170, s_L_law_1173, s_L_law_1174, s_L_law_1175, s_L_law_1176, s_L_law_1177, s_L_law_1178, s_L_law_1179, s_L_law_1182, s_L_law_1185, s_L_law_1186, s_L_law_1186_0, s_L_law_1186_1, x1.rc, y2.rc, lw_v x1, lw_v x2, lw_i hi hL (show 1 < 6 by decide), lw_c hi hL (show 1 < 6 by decide), nI_1, lw2, lw3, lw4, lw5, e1, e2, List.getElem?_cons_zero, List.getElem?_cons_succ, ob1_s, b2_t, b2_f, z1, cI, List.set_cons_zero, List.set_cons_succ, List.length_cons, List.length_nil, Nat.reduceAdd, Nat.reduceLT, Nat.zero_lt_succ, Bool.false_and, Bool.and_false, Bool.true_and, Bool.and_true, Bool.false_eq_true, ck0, ck1, ck2, ck3, ck4, Option.toList_some, Option.toList_none, List.cons_append, List.nil_append, gf_hit, pf_hit, ai_hit, al_hit, ar_hit, ob_hit, if_true, if_false, reduceIte, reduceCtorEq]
theorem sq_book (x : LSt h A) (hi : i + 6 ≤ L) (hL : L ≤ 3072) : ∃ h2 A2, den (L, xs) 11 ML_law 1187 [some (.ref 3000), some (.ref 0), some (.ref 42), some (.int (nI i))] [] h = den (L, xs) 11 ML_law 1338 [some (.ref 3000), some (.ref 0), some (.ref 42), some (.int (nI i))] [] h2 ∧ LSt h2 A2 ∧ h2.2 = h.2 := by
  obtain ⟨x1, y1, ai⟩ := x
  obtain ⟨h1, e1, x2, s1⟩ := cm_book (sc := (L, xs)) x1 ai (xs (i + 1)) (xs (i + 2))
  have y2 := y1.tr s1
  obtain ⟨h2, e2, y3, s2⟩ := mm_book (sc := (L, xs)) y2 ai (xs (i + 1)) (xs (i + 2))
  refine ⟨h2, _, ?_, ⟨x2.tr s2, y3, ai_book ai (xs (i + 1)) (xs (i + 2))⟩, s2.2.trans s1.2⟩
  simp only [s_L_law_1187, s_L_law_1188, s_L_law_1189, s_L_law_1190, s_L_law_1191, s_L_law_1192, s_L_law_1193, s_L_law_1194, s_L_law_1195, s_L_law_1196, s_L_law_1197, s_L_law_1198, s_L_law_1201, s_L_law_1202, s_L_law_1203, s_L_law_1204, s_L_law_1205, s_L_law_1206, s_L_law_1207, s_L_law_1208, s_L_law_1209, s_L_law_1210, s_L_law_1211, s_L_law_1212, s_L_law_1215, s_L_law_1218, s_L_law_1219, s_L_law_1219_0, s_L_law_1219_1, x1.rc, y2.rc, lw_v x1, lw_v x2, lw_i hi hL (show 1 < 6 by decide), lw_c hi hL (show 1 < 6 by decide), lw_i hi hL (show 2 < 6 by decide), lw_c hi hL (show 2 < 6 by decide), nI_1, lw2, lw3, lw4, lw5, e1, e2, List.getElem?_cons_zero, List.getElem?_cons_succ, ob1_s, b2_t, b2_f, z1, cI, List.set_cons_zero, List.set_cons_succ, List.length_cons, List.length_nil, Nat.reduceAdd, Nat.reduceLT, Nat.zero_lt_succ, Bool.false_and, Bool.and_false, Bool.true_and, Bool.and_true, Bool.false_eq_true, ck0, ck1, ck2, ck3, ck4, Option.toList_some, Option.toList_none, List.cons_append, List.nil_append, gf_hit, pf_hit, ai_hit, al_hit, ar_hit, ob_hit, if_true, if_false, reduceIte, reduceCtorEq]
theorem sq_read (x : LSt h A) (hi : i + 6 ≤ L) (hL : L ≤ 3072) : ∃ h2 A2, den (L, xs) 11 ML_law 1220 [some (.ref 3000), some (.ref 0), some (.ref 42), some (.int (nI i))] [] h = den (L, xs) 11 ML_law 1338 [some (.ref 3000), some (.ref 0), some (.ref 42), some (.int (nI i))] [] h2 ∧ LSt h2 A2 ∧ h2.2 = h.2 := by
  obtain ⟨x1, y1, ai⟩ := x
  obtain ⟨h1, e1, x2, s1⟩ := cm_read (sc := (L, xs)) x1 ai (xs (i + 1)) (xs (i + 2))
  have y2 := y1.tr s1
  obtain ⟨h2, e2, y3, s2⟩ := mm_read (sc := (L, xs)) y2 ai (xs (i + 1)) (xs (i + 2))
  refine ⟨h2, _, ?_, ⟨x2.tr s2, y3, ai_read ai (xs (i + 1)) (xs (i + 2))⟩, s2.2.trans s1.2⟩
  simp only [s_L_law_1220, s_L_law_1221, s_L_law_1222, s_L_law_1223, s_L_law_1224, s_L_law_1225, s_L_law_1226, s_L_law_1227, s_L_law_1228, s_L_law_1229, s_L_law_1230, s_L_law_1231, s_L_law_1234, s_L_law_1235, s_L_law_1236, s_L_law_1237, s_L_law_1238, s_L_law_1239, s_L_law_1240, s_L_law_1241, s_L_law_1242, s_L_law_1243, s_L_law_1244, s_L_law_1245, s_L_law_1248, s_L_law_1251, s_L_law_1252, s_L_law_1252_0, s_L_law_1252_1, x1.rc, y2.rc, lw_v x1, lw_v x2, lw_i hi hL (show 1 < 6 by decide), lw_c hi hL (show 1 < 6 by decide), lw_i hi hL (show 2 < 6 by decide), lw_c hi hL (show 2 < 6 by decide), nI_1, lw2, lw3, lw4, lw5, e1, e2, List.getElem?_cons_zero, List.getElem?_cons_succ, ob1_s, b2_t, b2_f, z1, cI, List.set_cons_zero, List.set_cons_succ, List.length_cons, List.length_nil, Nat.reduceAdd, Nat.reduceLT, Nat.zero_lt_succ, Bool.false_and, Bool.and_false, Bool.true_and, Bool.and_true, Bool.false_eq_true, ck0, ck1, ck2, ck3, ck4, Option.toList_some, Option.toList_none, List.cons_append, List.nil_append, gf_hit, pf_hit, ai_hit, al_hit, ar_hit, ob_hit, if_true, if_false, reduceIte, reduceCtorEq]
theorem sq_image (x : LSt h A) (hi : i + 6 ≤ L) (hL : L ≤ 3072) : ∃ h2 A2, den (L, xs) 11 ML_law 1253 [some (.ref 3000), some (.ref 0), some (.ref 42), some (.int (nI i))] [] h = den (L, xs) 11 ML_law 1338 [some (.ref 3000), some (.ref 0), some (.ref 42), some (.int (nI i))] [] h2 ∧ LSt h2 A2 ∧ h2.2 = h.2 := by
  obtain ⟨x1, y1, ai⟩ := x
  obtain ⟨h1, e1, x2, s1⟩ := cm_image (sc := (L, xs)) x1 ai 
  have y2 := y1.tr s1
  obtain ⟨h2, e2, y3, s2⟩ := mm_image (sc := (L, xs)) y2 
  refine ⟨h2, _, ?_, ⟨x2.tr s2, y3, ai_image ai ⟩, s2.2.trans s1.2⟩
  simp only [s_L_law_1253, s_L_law_1254, s_L_law_1257, s_L_law_1258, s_L_law_1261, s_L_law_1264, s_L_law_1265, s_L_law_1265_0, s_L_law_1265_1, x1.rc, y2.rc, lw_v x1, lw_v x2, nI_1, lw2, lw3, lw4, lw5, e1, e2, List.getElem?_cons_zero, List.getElem?_cons_succ, ob1_s, b2_t, b2_f, z1, cI, List.set_cons_zero, List.set_cons_succ, List.length_cons, List.length_nil, Nat.reduceAdd, Nat.reduceLT, Nat.zero_lt_succ, Bool.false_and, Bool.and_false, Bool.true_and, Bool.and_true, Bool.false_eq_true, ck0, ck1, ck2, ck3, ck4, Option.toList_some, Option.toList_none, List.cons_append, List.nil_append, gf_hit, pf_hit, ai_hit, al_hit, ar_hit, ob_hit, if_true, if_false, reduceIte, reduceCtorEq]
theorem sq_undo (x : LSt h A) (hi : i + 6 ≤ L) (hL : L ≤ 3072) : ∃ h2 A2, den (L, xs) 11 ML_law 1266 [some (.ref 3000), some (.ref 0), some (.ref 42), some (.int (nI i))] [] h = den (L, xs) 11 ML_law 1338 [some (.ref 3000), some (.ref 0), some (.ref 42), some (.int (nI i))] [] h2 ∧ LSt h2 A2 ∧ h2.2 = h.2 := by
  obtain ⟨x1, y1, ai⟩ := x
  obtain ⟨h1, e1, x2, s1⟩ := cm_undo (sc := (L, xs)) x1 ai 
  have y2 := y1.tr s1
  obtain ⟨h2, e2, y3, s2⟩ := mm_undo (sc := (L, xs)) y2 
  refine ⟨h2, _, ?_, ⟨x2.tr s2, y3, ai_undo ai ⟩, s2.2.trans s1.2⟩
  simp only [s_L_law_1266, s_L_law_1267, s_L_law_1270, s_L_law_1271, s_L_law_1274, s_L_law_1277, s_L_law_1278, s_L_law_1278_0, s_L_law_1278_1, x1.rc, y2.rc, lw_v x1, lw_v x2, nI_1, lw2, lw3, lw4, lw5, e1, e2, List.getElem?_cons_zero, List.getElem?_cons_succ, ob1_s, b2_t, b2_f, z1, cI, List.set_cons_zero, List.set_cons_succ, List.length_cons, List.length_nil, Nat.reduceAdd, Nat.reduceLT, Nat.zero_lt_succ, Bool.false_and, Bool.and_false, Bool.true_and, Bool.and_true, Bool.false_eq_true, ck0, ck1, ck2, ck3, ck4, Option.toList_some, Option.toList_none, List.cons_append, List.nil_append, gf_hit, pf_hit, ai_hit, al_hit, ar_hit, ob_hit, if_true, if_false, reduceIte, reduceCtorEq]
theorem sq_tear (x : LSt h A) (hi : i + 6 ≤ L) (hL : L ≤ 3072) : ∃ h2 A2, den (L, xs) 11 ML_law 1279 [some (.ref 3000), some (.ref 0), some (.ref 42), some (.int (nI i))] [] h = den (L, xs) 11 ML_law 1338 [some (.ref 3000), some (.ref 0), some (.ref 42), some (.int (nI i))] [] h2 ∧ LSt h2 A2 ∧ h2.2 = h.2 := by
  obtain ⟨x1, y1, ai⟩ := x
  obtain ⟨h1, e1, x2, s1⟩ := cm_tear (sc := (L, xs)) x1 
  have y2 := y1.tr s1
  obtain ⟨h2, e2, y3, s2⟩ := mm_tear (sc := (L, xs)) y2 
  refine ⟨h2, _, ?_, ⟨x2.tr s2, y3, ai_tear ai ⟩, s2.2.trans s1.2⟩
  simp only [s_L_law_1279, s_L_law_1280, s_L_law_1283, s_L_law_1284, s_L_law_1287, s_L_law_1290, s_L_law_1291, s_L_law_1291_0, s_L_law_1291_1, x1.rc, y2.rc, lw_v x1, lw_v x2, nI_1, lw2, lw3, lw4, lw5, e1, e2, List.getElem?_cons_zero, List.getElem?_cons_succ, ob1_s, b2_t, b2_f, z1, cI, List.set_cons_zero, List.set_cons_succ, List.length_cons, List.length_nil, Nat.reduceAdd, Nat.reduceLT, Nat.zero_lt_succ, Bool.false_and, Bool.and_false, Bool.true_and, Bool.and_true, Bool.false_eq_true, ck0, ck1, ck2, ck3, ck4, Option.toList_some, Option.toList_none, List.cons_append, List.nil_append, gf_hit, pf_hit, ai_hit, al_hit, ar_hit, ob_hit, if_true, if_false, reduceIte, reduceCtorEq]
theorem sq_count (x : LSt h A) (hi : i + 6 ≤ L) (hL : L ≤ 3072) : ∃ h2 A2, den (L, xs) 11 ML_law 1292 [some (.ref 3000), some (.ref 0), some (.ref 42), some (.int (nI i))] [] h = den (L, xs) 11 ML_law 1338 [some (.ref 3000), some (.ref 0), some (.ref 42), some (.int (nI i))] [] h2 ∧ LSt h2 A2 ∧ h2.2 = h.2 := by
  obtain ⟨x1, y1, ai⟩ := x
  obtain ⟨h1, e1, x2, s1⟩ := cm_count (sc := (L, xs)) x1 ai (xs (i + 1))
  have y2 := y1.tr s1
  obtain ⟨h2, e2, y3, s2⟩ := mm_count (sc := (L, xs)) y2 ai (xs (i + 1))
  refine ⟨h2, _, ?_, ⟨x2.tr s2, y3, ai_count ai (xs (i + 1))⟩, s2.2.trans s1.2⟩
  simp only [s_L_law_1292, s_L_law_1293, s_L_law_1294, s_L_law_1295, s_L_law_1296, s_L_law_1297, s_L_law_1298, s_L_law_1301, s_L_law_1302, s_L_law_1303, s_L_law_1304, s_L_law_1305, s_L_law_1306, s_L_law_1307, s_L_law_1310, s_L_law_1313, s_L_law_1314, s_L_law_1314_0, s_L_law_1314_1, x1.rc, y2.rc, lw_v x1, lw_v x2, lw_i hi hL (show 1 < 6 by decide), lw_c hi hL (show 1 < 6 by decide), nI_1, lw2, lw3, lw4, lw5, e1, e2, List.getElem?_cons_zero, List.getElem?_cons_succ, ob1_s, b2_t, b2_f, z1, cI, List.set_cons_zero, List.set_cons_succ, List.length_cons, List.length_nil, Nat.reduceAdd, Nat.reduceLT, Nat.zero_lt_succ, Bool.false_and, Bool.and_false, Bool.true_and, Bool.and_true, Bool.false_eq_true, ck0, ck1, ck2, ck3, ck4, Option.toList_some, Option.toList_none, List.cons_append, List.nil_append, gf_hit, pf_hit, ai_hit, al_hit, ar_hit, ob_hit, if_true, if_false, reduceIte, reduceCtorEq]
theorem sq_status (x : LSt h A) (hi : i + 6 ≤ L) (hL : L ≤ 3072) : ∃ h2 A2, den (L, xs) 11 ML_law 1315 [some (.ref 3000), some (.ref 0), some (.ref 42), some (.int (nI i))] [] h = den (L, xs) 11 ML_law 1338 [some (.ref 3000), some (.ref 0), some (.ref 42), some (.int (nI i))] [] h2 ∧ LSt h2 A2 ∧ h2.2 = h.2 := by
  obtain ⟨x1, y1, ai⟩ := x
  obtain ⟨h1, e1, x2, s1⟩ := cm_status (sc := (L, xs)) x1 (xs (i + 1))
  have y2 := y1.tr s1
  obtain ⟨h2, e2, y3, s2⟩ := mm_status (sc := (L, xs)) y2 (xs (i + 1))
  refine ⟨h2, _, ?_, ⟨x2.tr s2, y3, ai_status ai (xs (i + 1))⟩, s2.2.trans s1.2⟩
  simp only [s_L_law_1315, s_L_law_1316, s_L_law_1317, s_L_law_1318, s_L_law_1319, s_L_law_1320, s_L_law_1321, s_L_law_1324, s_L_law_1325, s_L_law_1326, s_L_law_1327, s_L_law_1328, s_L_law_1329, s_L_law_1330, s_L_law_1333, s_L_law_1336, s_L_law_1337, s_L_law_1337_0, s_L_law_1337_1, x1.rc, y2.rc, lw_v x1, lw_v x2, lw_i hi hL (show 1 < 6 by decide), lw_c hi hL (show 1 < 6 by decide), nI_1, lw2, lw3, lw4, lw5, e1, e2, List.getElem?_cons_zero, List.getElem?_cons_succ, ob1_s, b2_t, b2_f, z1, cI, List.set_cons_zero, List.set_cons_succ, List.length_cons, List.length_nil, Nat.reduceAdd, Nat.reduceLT, Nat.zero_lt_succ, Bool.false_and, Bool.and_false, Bool.true_and, Bool.and_true, Bool.false_eq_true, ck0, ck1, ck2, ck3, ck4, Option.toList_some, Option.toList_none, List.cons_append, List.nil_append, gf_hit, pf_hit, ai_hit, al_hit, ar_hit, ob_hit, if_true, if_false, reduceIte, reduceCtorEq]
theorem sq_any (x : LSt h A) (hi : i + 6 ≤ L) (hL : L ≤ 3072) : ∃ h2 A2, den (L, xs) 11 ML_law 18 [some (.ref 3000), some (.ref 0), some (.ref 42), some (.int (nI i))] [] h = den (L, xs) 11 ML_law 1338 [some (.ref 3000), some (.ref 0), some (.ref 42), some (.int (nI i))] [] h2 ∧ LSt h2 A2 ∧ h2.2 = h.2 := by
  have hgo : ¬ Int32.ofNat L - 6 < nI i := by
    show ¬ nI L - nI 6 < nI i
    rw [pk_sub (by omega)]
    exact nI_nlt (by omega) (by omega)
  have h0 := lw_i (k := 0) hi hL (by decide)
  have c0 := lw_c (k := 0) hi hL (by decide)
  rw [Nat.add_zero] at h0 c0
  obtain ⟨c, hc, ec⟩ := pk_andE (xs i) (m := 63) 6 rfl
  have hh : den (L, xs) 11 ML_law 18 [some (.ref 3000), some (.ref 0), some (.ref 42), some (.int (nI i))] [] h = den (L, xs) 11 ML_law 33 [some (.ref 3000), some (.ref 0), some (.ref 42), some (.int (nI i))] [.int (nI c)] h := by
    rw [s_L_law_18]
    simp only [s_L_law_19, s_L_law_20, s_L_law_21, s_L_law_23, s_L_law_24, s_L_law_27, s_L_law_28, s_L_law_29, s_L_law_30, s_L_law_32, lw_v x.1, le_hit, hgo, h0, c0, ec, List.getElem?_cons_zero, List.getElem?_cons_succ, ob1_s, b2_t, b2_f, z1, cI, List.set_cons_zero, List.set_cons_succ, List.length_cons, List.length_nil, Nat.reduceAdd, Nat.reduceLT, Nat.zero_lt_succ, Bool.false_and, Bool.and_false, Bool.true_and, Bool.and_true, Bool.false_eq_true, ck0, ck1, ck2, ck3, ck4, Option.toList_some, Option.toList_none, List.cons_append, List.nil_append, gf_hit, pf_hit, ai_hit, al_hit, ar_hit, ob_hit, if_true, if_false, reduceIte, reduceCtorEq]
  rw [hh]
  rcases (show c = 0 ∨ c = 1 ∨ c = 2 ∨ c = 3 ∨ c = 4 ∨ c = 5 ∨ c = 6 ∨ c = 7 ∨ c = 8 ∨ c = 9 ∨ c = 10 ∨ c = 11 ∨ c = 12 ∨ c = 13 ∨ c = 14 ∨ c = 15 ∨ c = 16 ∨ c = 17 ∨ c = 18 ∨ c = 19 ∨ c = 20 ∨ c = 21 ∨ c = 22 ∨ c = 23 ∨ c = 24 ∨ c = 25 ∨ c = 26 ∨ c = 27 ∨ c = 28 ∨ c = 29 ∨ c = 30 ∨ c = 31 ∨ c = 32 ∨ c = 33 ∨ c = 34 ∨ c = 35 ∨ c = 36 ∨ 37 ≤ c by omega) with rfl | rfl | rfl | rfl | rfl | rfl | rfl | rfl | rfl | rfl | rfl | rfl | rfl | rfl | rfl | rfl | rfl | rfl | rfl | rfl | rfl | rfl | rfl | rfl | rfl | rfl | rfl | rfl | rfl | rfl | rfl | rfl | rfl | rfl | rfl | rfl | rfl | hge
  · rw [show (nI 0 : Int32) = 0 from rfl, s_L_law_33_0]; exact sq_worth x hi hL
  · rw [show (nI 1 : Int32) = 1 from rfl, s_L_law_33_1]; exact sq_worthOf x hi hL
  · rw [show (nI 2 : Int32) = 2 from rfl, s_L_law_33_2]; exact sq_who x hi hL
  · rw [show (nI 3 : Int32) = 3 from rfl, s_L_law_33_3]; exact sq_person x hi hL
  · rw [show (nI 4 : Int32) = 4 from rfl, s_L_law_33_4]; exact sq_of x hi hL
  · rw [show (nI 5 : Int32) = 5 from rfl, s_L_law_33_5]; exact sq_set x hi hL
  · rw [show (nI 6 : Int32) = 6 from rfl, s_L_law_33_6]; exact sq_turn x hi hL
  · rw [show (nI 7 : Int32) = 7 from rfl, s_L_law_33_7]; exact sq_as x hi hL
  · rw [show (nI 8 : Int32) = 8 from rfl, s_L_law_33_8]; exact sq_give x hi hL
  · rw [show (nI 9 : Int32) = 9 from rfl, s_L_law_33_9]; exact sq_hand x hi hL
  · rw [show (nI 10 : Int32) = 10 from rfl, s_L_law_33_10]; exact sq_border x hi hL
  · rw [show (nI 11 : Int32) = 11 from rfl, s_L_law_33_11]; exact sq_years x hi hL
  · rw [show (nI 12 : Int32) = 12 from rfl, s_L_law_33_12]; exact sq_now x hi hL
  · rw [show (nI 13 : Int32) = 13 from rfl, s_L_law_33_13]; exact sq_on x hi hL
  · rw [show (nI 14 : Int32) = 14 from rfl, s_L_law_33_14]; exact sq_gets x hi hL
  · rw [show (nI 15 : Int32) = 15 from rfl, s_L_law_33_15]; exact sq_loses x hi hL
  · rw [show (nI 16 : Int32) = 16 from rfl, s_L_law_33_16]; exact sq_burns x hi hL
  · rw [show (nI 17 : Int32) = 17 from rfl, s_L_law_33_17]; exact sq_cousin x hi hL
  · rw [show (nI 18 : Int32) = 18 from rfl, s_L_law_33_18]; exact sq_kind x hi hL
  · rw [show (nI 19 : Int32) = 19 from rfl, s_L_law_33_19]; exact sq_keep x hi hL
  · rw [show (nI 20 : Int32) = 20 from rfl, s_L_law_33_20]; exact sq_best x hi hL
  · rw [show (nI 21 : Int32) = 21 from rfl, s_L_law_33_21]; exact sq_richest x hi hL
  · rw [show (nI 22 : Int32) = 22 from rfl, s_L_law_33_22]; exact sq_fewest x hi hL
  · rw [show (nI 23 : Int32) = 23 from rfl, s_L_law_33_23]; exact sq_feed x hi hL
  · rw [show (nI 24 : Int32) = 24 from rfl, s_L_law_33_24]; exact sq_wipe x hi hL
  · rw [show (nI 25 : Int32) = 25 from rfl, s_L_law_33_25]; exact sq_family x hi hL
  · rw [show (nI 26 : Int32) = 26 from rfl, s_L_law_33_26]; exact sq_sheet x hi hL
  · rw [show (nI 27 : Int32) = 27 from rfl, s_L_law_33_27]; exact sq_write x hi hL
  · rw [show (nI 28 : Int32) = 28 from rfl, s_L_law_33_28]; exact sq_copy x hi hL
  · rw [show (nI 29 : Int32) = 29 from rfl, s_L_law_33_29]; exact sq_lays x hi hL
  · rw [show (nI 30 : Int32) = 30 from rfl, s_L_law_33_30]; exact sq_book x hi hL
  · rw [show (nI 31 : Int32) = 31 from rfl, s_L_law_33_31]; exact sq_read x hi hL
  · rw [show (nI 32 : Int32) = 32 from rfl, s_L_law_33_32]; exact sq_image x hi hL
  · rw [show (nI 33 : Int32) = 33 from rfl, s_L_law_33_33]; exact sq_undo x hi hL
  · rw [show (nI 34 : Int32) = 34 from rfl, s_L_law_33_34]; exact sq_tear x hi hL
  · rw [show (nI 35 : Int32) = 35 from rfl, s_L_law_33_35]; exact sq_count x hi hL
  · rw [show (nI 36 : Int32) = 36 from rfl, s_L_law_33_36]; exact sq_status x hi hL
  · have hlt : c < 64 := hc
    rw [s_L_law_33_d (Or.inr (by rw [nI_toInt (by omega)]; omega))]
    exact ⟨h, A, rfl, x, rfl⟩
theorem lp_law (hL : L ≤ 3072) : ∀ (k r : Nat) (h : mx_G) (A : AS), r + k = L / 6 → LSt h A → ∃ h1, den (L, xs) 11 ML_law 18 [some (.ref 3000), some (.ref 0), some (.ref 42), some (.int (nI (6 * r)))] [] h = some (some (.int 1), h1) ∧ h1.2 = h.2
  | 0, r, h, A, hr, x => by
    have hgo : Int32.ofNat L - 6 < nI (6 * r) := by
      show nI L - nI 6 < nI (6 * r)
      rcases Nat.lt_or_ge L 6 with h6 | h6
      · exact Int32.lt_of_lt_of_le (pk_sneg (by decide) h6) (nI_pos' (by omega))
      · rw [pk_sub h6]
        exact nI_lt (by omega) (by omega)
    refine ⟨h, ?_, rfl⟩
    rw [s_L_law_18]
    simp only [s_L_law_19, s_L_law_20, s_L_law_21, s_L_law_23, s_L_law_24, s_L_law_1344, s_L_law_1345, s_L_law_1345_0, s_L_law_1345_1, lw_v x.1, le_hit, hgo, List.getElem?_cons_zero, List.getElem?_cons_succ, ob1_s, b2_t, b2_f, z1, cI, List.set_cons_zero, List.set_cons_succ, List.length_cons, List.length_nil, Nat.reduceAdd, Nat.reduceLT, Nat.zero_lt_succ, Bool.false_and, Bool.and_false, Bool.true_and, Bool.and_true, Bool.false_eq_true, ck0, ck1, ck2, ck3, ck4, Option.toList_some, Option.toList_none, List.cons_append, List.nil_append, gf_hit, pf_hit, ai_hit, al_hit, ar_hit, ob_hit, if_true, if_false, reduceIte, reduceCtorEq]
  | k + 1, r, h, A, hr, x => by
    obtain ⟨h2, A2, e2, x2, s2⟩ := sq_any (xs := xs) (i := 6 * r) x (by omega) hL
    obtain ⟨h3, e3, s3⟩ := lp_law hL k (r + 1) h2 A2 (by omega) x2
    refine ⟨h3, ?_, s3.trans s2⟩
    rw [e2, ← e3]
    simp only [s_L_law_1338, s_L_law_1341, lw6, List.getElem?_cons_zero, List.getElem?_cons_succ, ob1_s, b2_t, b2_f, z1, cI, List.set_cons_zero, List.set_cons_succ, List.length_cons, List.length_nil, Nat.reduceAdd, Nat.reduceLT, Nat.zero_lt_succ, Bool.false_and, Bool.and_false, Bool.true_and, Bool.and_true, Bool.false_eq_true, ck0, ck1, ck2, ck3, ck4, Option.toList_some, Option.toList_none, List.cons_append, List.nil_append, gf_hit, pf_hit, ai_hit, al_hit, ar_hit, ob_hit, if_true, if_false, reduceIte, reduceCtorEq]
    rw [show 6 * r + 6 = 6 * (r + 1) by omega]
theorem mx_law (L : Nat) (xs : Nat → Int32) (hL : L ≤ 3072) : ∃ g' : mx_G, den (L, xs) 11 ML_law 0 [some (.ref 3000), none, none, none] [] (fun _ => none, 0, 0) = some (some (.int 1), g') ∧ g'.2.1 ≤ 600000 ∧ g'.2.2 ≤ 7302250 := by
  have e0 : ((fun _ => none, 0, 0) : mx_G) = LG [] 0 := rfl
  have ex : LSt (LG (cls0 ++ mod0) (0 + 8 + 6 + 66 + 66 + 66 + 128 + 4 + 43 + 43 + 43 + 43 + 7 + 19 + 59 + 7 + 59 + 59 + 120 + 4 + 4 + 160 + 40 + 59 + 59)) A00 := ⟨init_CA, init_MA, AI00⟩
  obtain ⟨h1, e1, s1⟩ := lp_law (xs := xs) hL (L / 6) 0 _ A00 (by omega) ex
  have i1 : call (L, xs) 10 MX10_init [.ref 0] (LG [.inr (10, [.null, .null, .null, .int 0, .null, .null, .null, .null])] (0 + 8)) = some (none, LG cls0 (0 + 8 + 6 + 66 + 66 + 66 + 128 + 4 + 43 + 43 + 43 + 43 + 7)) := sp_X10_init (sc := (L, xs)) (d := 6) (n := 0 + 8)
  have i2 := sp_X11_init (sc := (L, xs)) (d := 10) (l := cls0) (n := 0 + 8 + 6 + 66 + 66 + 66 + 128 + 4 + 43 + 43 + 43 + 43 + 7 + 19) rfl
  have hd : den (L, xs) 11 ML_law 0 [some (.ref 3000), none, none, none] [] (LG [] 0) = den (L, xs) 11 ML_law 18 [some (.ref 3000), some (.ref 0), some (.ref 42), some (.int 0)] [] (LG (cls0 ++ mod0) (0 + 8 + 6 + 66 + 66 + 66 + 128 + 4 + 43 + 43 + 43 + 43 + 7 + 19 + 59 + 7 + 59 + 59 + 120 + 4 + 4 + 160 + 40 + 59 + 59)) := by
    have f1 : den (L, xs) 11 ML_law 0 [some (.ref 3000), none, none, none] [] (LG [] 0) = den (L, xs) 11 ML_law 8 [some (.ref 3000), some (.ref 0), none, none] [] (LG cls0 (0 + 8 + 6 + 66 + 66 + 66 + 128 + 4 + 43 + 43 + 43 + 43 + 7)) := by
      rw [s_L_law_0, if_pos (show (LG [] 0).2.1 < 900 from by decide), L_nw]
      show den (L, xs) 11 ML_law 3 [some (.ref 3000), none, none, none] [.ref 0] (LG [.inr (10, [.null, .null, .null, .int 0, .null, .null, .null, .null])] (0 + 8)) = _
      have g0 : (LG [.inr (10, [.null, .null, .null, .int 0, .null, .null, .null, .null])] (0 + 8)).1 0 = some (.inr (10, [.null, .null, .null, .int 0, .null, .null, .null, .null])) := rfl
      rw [s_L_law_3, s_L_law_4, g0, ob_hit, i1, ck1]
      show den (L, xs) 11 ML_law 7 [some (.ref 3000), none, none, none] [.ref 0] _ = _
      rw [s_L_law_7]
    rw [f1, s_L_law_8, if_pos (show (LG cls0 _).2.1 < 900 from by rw [L_c]; decide), L_nw]
    show den (L, xs) 11 ML_law 11 [some (.ref 3000), some (.ref 0), none, none] [.ref 42] (LG (cls0 ++ [.inr (11, mx_dfl 11)]) (0 + 8 + 6 + 66 + 66 + 66 + 128 + 4 + 43 + 43 + 43 + 43 + 7 + 19)) = _
    have g1 : ∀ n, (LG (cls0 ++ [.inr (11, mx_dfl 11)]) n).1 42 = some (.inr (11, mx_dfl 11)) := fun n => rfl
    rw [s_L_law_11, s_L_law_12, g1, ob_hit, i2, ck1]
    show den (L, xs) 11 ML_law 15 [some (.ref 3000), some (.ref 0), none, none] [.ref 42] _ = _
    rw [s_L_law_15, s_L_law_16, s_L_law_17]
  rw [e0, hd]
  have e1' : den (L, xs) 11 ML_law 18 [some (.ref 3000), some (.ref 0), some (.ref 42), some (.int 0)] [] (LG (cls0 ++ mod0) (0 + 8 + 6 + 66 + 66 + 66 + 128 + 4 + 43 + 43 + 43 + 43 + 7 + 19 + 59 + 7 + 59 + 59 + 120 + 4 + 4 + 160 + 40 + 59 + 59)) = some (some (.int 1), h1) := e1
  refine ⟨h1, e1', ?_, ?_⟩
  · rw [s1]
    show (cls0 ++ mod0).length ≤ 600000
    rw [len54]
    decide
  · rw [s1]
    show (0 + 8 + 6 + 66 + 66 + 66 + 128 + 4 + 43 + 43 + 43 + 43 + 7 + 19 + 59 + 7 + 59 + 59 + 120 + 4 + 4 + 160 + 40 + 59 + 59 : Nat) ≤ 7302250
    decide
end
