/-! THE SPECIFICATIONS, leaves first -/
section Red
variable {α : Type}
def ob1 (o : Option Value) (K : Value → Option α) : Option α := match o with
  | some v => K v
  | none => none
theorem ob1_s {v : Value} {K : Value → Option α} : ob1 (some v) K = K v := rfl
theorem gf_hit {ci k : Nat} {fs : List Value} {K : Value → Option α} : mx_gf (some (.inr (ci, fs))) ci k K = ob1 fs[k]? K := by
  unfold mx_gf ob1
  simp only [if_true]
  cases fs[k]? <;> rfl
theorem pf_hit {ci k : Nat} {fs : List Value} {K : List Value → Option α} : mx_pf (some (.inr (ci, fs))) ci k K = if k < fs.length then K fs else none := by unfold mx_pf; simp
theorem ai_hit {n : Nat} {f : Nat → Int32} {i : Int32} {K : Nat → (Nat → Int32) → Option α} : mx_ai (some (.inl (.int, n, .inl f))) i K = if mx_in i n = true then K n f else none := rfl
theorem al_hit {n : Nat} {f : Nat → Int64} {i : Int32} {K : Nat → (Nat → Int64) → Option α} : mx_al (some (.inl (.long, n, .inr (.inl f)))) i K = if mx_in i n = true then K n f else none := rfl
theorem ar_hit {n : Nat} {C : String} {f : Nat → Option Nat} {i : Int32} {K : String → Nat → (Nat → Option Nat) → Option α} : mx_ar (some (.inl (.object C, n, .inr (.inr (.inr (.inr f)))))) i K = if mx_in i n = true then K C n f else none := rfl
theorem ob_hit {ci : Nat} {fs : List Value} {K : Nat → Option α} : mx_ob (some (.inr (ci, fs))) K = K ci := rfl
theorem av_hit {sc : mx_X} {g : mx_G} {a : Nat} {c : mx_C} (h : g.1 a = some c) : mx_av sc g a = some c := by unfold mx_av; rw [h]
theorem rc_hit {g : mx_G} {a ci : Nat} {fs : List Value} (h : g.1 a = some (.inr (ci, fs))) : mx_rc g a = some ci := by unfold mx_rc; rw [h]
end Red
/-- true and false as the machine has them -/
def b2 (b : Bool) : Int32 := if b then 1 else 0
theorem b2_t : b2 true = 1 := rfl
theorem b2_f : b2 false = 0 := rfl
theorem b2_eq0 (b : Bool) : (b2 b = 0) = (b = false) := by cases b <;> simp [b2]
theorem b2_nar (b : Bool) : narrow .boolean (.int (b2 b)) = .int (b2 b) := by cases b <;> rfl
/-- v between least and most -/
def wi (v lo hi : Int32) : Bool := decide (lo ≤ v) && decide (v ≤ hi)
section
variable {sc : mx_X} {d : Nat} {g : mx_G}
theorem sp_isWithin {v lo hi : Int32} : call sc d MX10_isWithin [.int v, .int lo, .int hi] g = some (some (.int (b2 (wi v lo hi))), g) := by
  by_cases h1 : lo ≤ v <;> by_cases h2 : v ≤ hi <;> simp [c_X10_isWithin, wi, b2, h1, h2, s_X10_isWithin_0, s_X10_isWithin_1, s_X10_isWithin_2, s_X10_isWithin_5, s_X10_isWithin_6, s_X10_isWithin_7, s_X10_isWithin_10, s_X10_isWithin_11, s_X10_isWithin_14, s_X10_isWithin_15, s_X10_isWithin_15_0, s_X10_isWithin_15_1, Int32.not_le.symm, Int32.not_lt]
theorem sp_isThing {t : Int32} : call sc (d + 1) MX10_isThing [.int t] g = some (some (.int (b2 (wi t 0 15))), g) := by
  simp only [c_X10_isThing, s_X10_isThing_0, s_X10_isThing_1, s_X10_isThing_2, s_X10_isThing_4, s_X10_isThing_7, s_X10_isThing_7_0, s_X10_isThing_7_1, sp_isWithin, b2_nar, ck0, ck1, ck2, ck3, ck4, Option.toList_some, Option.toList_none, List.cons_append, List.nil_append, gf_hit, pf_hit, ai_hit, al_hit, ar_hit, ob_hit, if_true, if_false, reduceIte, reduceCtorEq]
theorem sp_isWorth {t : Int32} : call sc (d + 1) MX10_isWorth [.int t] g = some (some (.int (b2 (wi t 0 99))), g) := by
  simp only [c_X10_isWorth, s_X10_isWorth_0, s_X10_isWorth_1, s_X10_isWorth_2, s_X10_isWorth_4, s_X10_isWorth_7, s_X10_isWorth_7_0, s_X10_isWorth_7_1, sp_isWithin, b2_nar, ck0, ck1, ck2, ck3, ck4, Option.toList_some, Option.toList_none, List.cons_append, List.nil_append, gf_hit, pf_hit, ai_hit, al_hit, ar_hit, ob_hit, if_true, if_false, reduceIte, reduceCtorEq]
theorem sp_isKind {t : Int32} : call sc (d + 1) MX10_isKind [.int t] g = some (some (.int (b2 (wi t 0 5))), g) := by
  simp only [c_X10_isKind, s_X10_isKind_0, s_X10_isKind_1, s_X10_isKind_2, s_X10_isKind_3, s_X10_isKind_6, s_X10_isKind_6_0, s_X10_isKind_6_1, sp_isWithin, b2_nar, ck0, ck1, ck2, ck3, ck4, Option.toList_some, Option.toList_none, List.cons_append, List.nil_append, gf_hit, pf_hit, ai_hit, al_hit, ar_hit, ob_hit, if_true, if_false, reduceIte, reduceCtorEq]
theorem sp_isSheet {t : Int32} : call sc (d + 1) MX10_isSheet [.int t] g = some (some (.int (b2 (wi t 0 3))), g) := by
  simp only [c_X10_isSheet, s_X10_isSheet_0, s_X10_isSheet_1, s_X10_isSheet_2, s_X10_isSheet_3, s_X10_isSheet_6, s_X10_isSheet_6_0, s_X10_isSheet_6_1, sp_isWithin, b2_nar, ck0, ck1, ck2, ck3, ck4, Option.toList_some, Option.toList_none, List.cons_append, List.nil_append, gf_hit, pf_hit, ai_hit, al_hit, ar_hit, ob_hit, if_true, if_false, reduceIte, reduceCtorEq]
end
