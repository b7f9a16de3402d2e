/-! THE FIRST STATE; WHAT HOLDS OF EVERY STATE IS KEPT -/
def A00 : AS := (F00, F00, false, fun _ => 0, fun _ => 0, 0, fun _ => 0, fun _ => 0, fun _ _ => 0)
theorem al0 {n k : Nat} (hk : 0 < k) : AL n (nlt k) (fun _ => 0) := ⟨fun _ _ => ⟨0, hk, rfl⟩, fun _ _ => rfl⟩
theorem FI00 : FI F00 := by
  refine ⟨⟨0, by decide, rfl⟩, ⟨fun i hi => ⟨i, by omega, if_pos hi⟩, fun i hi => if_neg (by omega)⟩, al0 (by decide), al0 (by decide), al0 (by decide), ⟨fun _ _ => Or.inr ⟨0, by decide, rfl⟩, fun _ _ => rfl⟩, al0 (by decide)⟩
theorem AI00 : AI A00 := ⟨FI00, FI00, by decide, fun i _ => ⟨0, by decide, rfl⟩, fun i _ => ⟨Or.inl rfl, 0, by decide, rfl⟩⟩
theorem len54 : (cls0 ++ mod0).length = 54 := rfl
theorem init_far {n j : Nat} (hj : 1000 ≤ j) : (LG (cls0 ++ mod0) n).1 j = none := List.getElem?_eq_none (by rw [len54]; omega)
theorem init_CA {n : Nat} : CA (LG (cls0 ++ mod0) n) A00 := by
  refine ⟨⟨F00, FI00, fun j h1 h2 => ?_⟩, fun j h1 h2 => ?_, fun j h1 h2 => ?_, rfl, ⟨rfl, rfl, rfl, rfl, rfl, rfl, rfl⟩, rfl, rfl, ⟨0, 0, 0, 0, rfl⟩, rfl, fun i hi => ?_, rfl, fun j hj => init_far hj⟩
  · rcases (show j = 15 ∨ j = 16 ∨ j = 17 ∨ j = 18 ∨ j = 19 ∨ j = 20 ∨ j = 21 by omega) with rfl | rfl | rfl | rfl | rfl | rfl | rfl <;> rfl
  · rcases (show j = 8 ∨ j = 9 ∨ j = 10 ∨ j = 11 ∨ j = 12 ∨ j = 13 ∨ j = 14 by omega) with rfl | rfl | rfl | rfl | rfl | rfl | rfl <;> rfl
  · rcases (show j = 22 ∨ j = 23 ∨ j = 24 ∨ j = 25 ∨ j = 26 ∨ j = 27 ∨ j = 28 by omega) with rfl | rfl | rfl | rfl | rfl | rfl | rfl <;> rfl
  · rcases (show i = 0 ∨ i = 1 ∨ i = 2 ∨ i = 3 by omega) with rfl | rfl | rfl | rfl <;> exact ⟨rfl, rfl⟩
theorem shAll0 : shAll (fun _ _ => 0) = fun _ => 0 := funext fun j => by unfold shAll; split <;> rfl
theorem init_MA {n : Nat} : MA (LG (cls0 ++ mod0) n) A00 := by
  refine ⟨⟨0, 0, 0, 0, 0, 0, rfl⟩, rfl, rfl, ⟨fun _ => 0, rfl, fun _ _ => rfl⟩, ⟨fun _ => 0, rfl, fun _ _ => rfl⟩, rfl, rfl, rfl, ?_, ⟨fun _ => 0, rfl⟩, ⟨⟨fun _ => 0, rfl, fun _ _ => rfl⟩, fun e => absurd e (by decide)⟩, ⟨fun _ => 0, rfl, fun _ _ => rfl⟩⟩
  show (LG (cls0 ++ mod0) n).1 50 = some (cL 160 (shAll (fun _ _ => 0)))
  rw [shAll0]
  rfl
section
variable {A : AS} {G : Fam}
theorem AI.fm (h : AI A) (hG : FI G) : AI (sF A G) := ⟨hG, h.2⟩
theorem ai_worth (h : AI A) (t v : Int32) : AI (o_worth A t v).2 := by
  unfold o_worth
  split
  · rename_i e
    rw [Bool.and_eq_true] at e
    rcases wi16 t with e1 | ⟨_, j, hj, rfl⟩
    · rw [e1] at e; exact absurd e.1 (by decide)
    · rcases wi100 v with e2 | ⟨_, w, hw, rfl⟩
      · rw [e2] at e; exact absurd e.2 (by decide)
      · rw [cl16 hj]; exact h.fm (h.1.ww (h.1.w.upd hj ⟨w, hw, rfl⟩))
  · exact h
theorem ai_worthOf (h : AI A) (t : Int32) : AI (o_worthOf A t).2 := by unfold o_worthOf; split <;> exact h
theorem ai_who (h : AI A) (t : Int32) : AI (o_who A t).2 := by unfold o_who; split <;> exact h
theorem ai_person (h : AI A) (k : Int32) : AI (o_person A k).2 := by
  unfold o_person
  split
  · rename_i e
    rcases wi6 k with e1 | ⟨_, j, hj, rfl⟩
    · rw [e1] at e; exact absurd e (by decide)
    · split
      · rename_i h8
        obtain ⟨n, hn, hg⟩ := h.1.n
        have hn8 : n < 8 := by rw [hg] at h8; exact (nI_ltI (by omega) (show 8 < 2 ^ 31 by decide)).mp h8
        have hG : FI (addF (aF A) n (nI j) 0 0 (-1)) := add_ok h.1 hn8 hj (a := 0) (by decide) (p := 0) (by decide) (Or.inl rfl)
        have ec : (gn (aF A)).toNatClampNeg = n := by rw [hg]; exact nI_clamp (by omega)
        rw [ec]
        exact h.fm hG
      · exact h
  · exact h
theorem ai_of (h : AI A) (p w : Int32) : AI (o_of A p w).2 := by unfold o_of; split <;> exact h
theorem ai_set (h : AI A) (p w v : Int32) : AI (o_set A p w v).2 := by
  unfold o_set
  split
  · rename_i e
    rcases wiP h.1 p with e1 | ⟨_, n, j, hn, hg, hj, hj8, rfl⟩
    · rw [e1] at e; exact absurd e (by decide)
    · rw [cl8 hj8]
      split
      · split
        · rename_i e2
          rcases wi71 v with e3 | ⟨_, x, hx, rfl⟩
          · rw [e3] at e2; exact absurd e2 (by decide)
          · exact h.fm (h.1.wa (h.1.a.upd hj8 ⟨x, hx, rfl⟩))
        · exact h
      · split
        · split
          · rename_i e2
            rcases wi65 v with e3 | ⟨_, x, hx, rfl⟩
            · rw [e3] at e2; exact absurd e2 (by decide)
            · exact h.fm (h.1.wp (h.1.p.upd hj8 ⟨x, hx, rfl⟩))
          · exact h
        · split
          · split
            · rename_i e2
              refine h.fm (h.1.wc (h.1.c.upd hj8 ?_))
              rw [wi3 h.1, Bool.or_eq_true] at e2
              rcases e2 with e2 | e2
              · exact Or.inl (of_decide_eq_true e2)
              · rcases wiP h.1 v with e3 | ⟨_, n2, x, hn2, hg2, hx, hx8, rfl⟩
                · rw [e3] at e2; exact absurd e2 (by decide)
                · exact Or.inr ⟨x, hx8, rfl⟩
            · exact h
          · split
            · split
              · rename_i e2
                rcases wi999 v with e3 | ⟨_, x, hx, rfl⟩
                · rw [e3] at e2; exact absurd e2 (by decide)
                · exact h.fm (h.1.wl (h.1.l.upd hj8 ⟨x, hx, rfl⟩))
              · exact h
            · exact h
  · exact h
theorem ai_turn (h : AI A) (p k : Int32) : AI (o_turn A p k).2 := by
  unfold o_turn
  split
  · rename_i e
    rw [Bool.and_eq_true] at e
    rcases wiP h.1 p with e1 | ⟨_, n, j, hn, hg, hj, hj8, rfl⟩
    · rw [e1] at e; exact absurd e.1 (by decide)
    · rcases wi6 k with e2 | ⟨_, x, hx, rfl⟩
      · rw [e2] at e; exact absurd e.2 (by decide)
      · rw [cl8 hj8]; exact h.fm (h.1.wk (h.1.k.upd hj8 ⟨x, hx, rfl⟩))
  · exact h
theorem ai_as (h : AI A) (p k : Int32) : AI (o_as A p k).2 := by
  unfold o_as
  split
  · split <;> exact h
  · exact h
theorem ai_give (h : AI A) (p t : Int32) : AI (o_give A p t).2 := by
  unfold o_give
  split
  · rename_i e
    rw [Bool.and_eq_true] at e
    rcases wiP h.1 p with e1 | ⟨_, n, j, hn, hg, hj, hj8, rfl⟩
    · rw [e1] at e; exact absurd e.1 (by decide)
    · rcases wi16 t with e2 | ⟨_, x, hx, rfl⟩
      · rw [e2] at e; exact absurd e.2 (by decide)
      · split
        · exact h
        · rw [cl8 hj8]; exact h.fm (h.1.wp (h.1.p.upd hj8 (nlt_or (h.1.p.1 j hj8) (nlt_so (Or.inr ⟨x, hx, rfl⟩)))))
  · exact h
theorem ai_hand (h : AI A) (p q t : Int32) : AI (o_hand A p q t).2 := by
  unfold o_hand
  split
  · rename_i e
    rw [Bool.and_eq_true, Bool.and_eq_true, Bool.and_eq_true] at e
    rcases wiP h.1 p with e1 | ⟨_, n, j, hn, hg, hj, hj8, rfl⟩
    · rw [e1] at e; exact absurd e.1.1.1 (by decide)
    · rcases wiP h.1 q with e3 | ⟨_, n3, k, hn3, hg3, hk, hk8, rfl⟩
      · rw [e3] at e; exact absurd e.1.1.2 (by decide)
      · rcases wi16 t with e2 | ⟨_, x, hx, rfl⟩
        · rw [e2] at e; exact absurd e.2 (by decide)
        · split
          · rw [cl8 hj8, cl8 hk8]
            have h1 : AL 8 (nlt 65536) (upd (gp (aF A)) j (rm (gp (aF A) j) (nI x))) := h.1.p.upd hj8 (nlt_rm (h.1.p.1 j hj8))
            exact h.fm (h.1.wp (h1.upd hk8 (nlt_or (h1.1 k hk8) (nlt_so (Or.inr ⟨x, hx, rfl⟩)))))
          · exact h
  · exact h
theorem ai_border (h : AI A) (p : Int32) : AI (o_border A p).2 := by
  unfold o_border
  split
  · rename_i e
    rcases wiP h.1 p with e1 | ⟨_, n, j, hn, hg, hj, hj8, rfl⟩
    · rw [e1] at e; exact absurd e (by decide)
    · rw [cl8 hj8]; exact h.fm (brd_ok h.1 hj8)
  · exact h
theorem ai_years (h : AI A) (n : Int32) : AI (o_years A n).2 := by
  unfold o_years
  split
  · split
    · exact h.fm (years_ok _ h.1)
    · exact h
  · exact h
theorem ai_now (h : AI A) (w : Int32) : AI (o_now A w).2 := by
  unfold o_now
  (repeat' split) <;> exact h
theorem ai_on (h : AI A) (p n w : Int32) : AI (o_on A p n w).2 := by unfold o_on; split <;> exact h
theorem ai_fo (h : AI A) (o : Option Nat) : AI (fo A o).2 := by cases o <;> exact h
theorem ai_nq (h : AI A) (v : Int32) : AI (noneQ A v).2 := by unfold noneQ; split <;> exact h
theorem ai_gets (h : AI A) (p t : Int32) : AI (o_gets A p t).2 := by
  unfold o_gets
  split
  · exact ai_fo h _
  · exact h
theorem ai_loses (h : AI A) (p t : Int32) : AI (o_loses A p t).2 := by
  unfold o_loses
  split
  · exact ai_fo h _
  · exact h
theorem ai_burns (h : AI A) (t : Int32) : AI (o_burns A t).2 := by
  unfold o_burns
  split
  · exact ai_fo h _
  · exact h
theorem ai_cousin (h : AI A) (p n : Int32) : AI (o_cousin A p n).2 := by unfold o_cousin; split <;> exact h
theorem ai_kind (h : AI A) (p n : Int32) : AI (o_kind A p n).2 := by unfold o_kind; split <;> exact h
theorem ai_keep (h : AI A) (p t n : Int32) : AI (o_keep A p t n).2 := by
  unfold o_keep
  split
  · exact ai_fo h _
  · exact h
theorem ai_best (h : AI A) (p n : Int32) : AI (o_best A p n).2 := by
  unfold o_best
  split
  · exact ai_nq h _
  · exact h
theorem ai_richest (h : AI A) (n : Int32) : AI (o_richest A n).2 := by
  unfold o_richest
  split
  · exact ai_nq h _
  · exact h
theorem ai_fewR (h : AI A) (m : Nat) (o : Option Nat) : AI (fewR A m o).2 := by cases o <;> exact h
theorem ai_fewest (h : AI A) (p t n : Int32) : AI (o_fewest A p t n).2 := by
  unfold o_fewest
  split
  · split
    · split
      · exact ai_fewR h _ _
      · exact h
    · exact h
  · exact h
theorem feL_ok {b : Int32} : ∀ (k : Nat) (t : Nat → Int32) (l : Nat), (∀ i, i < 120 → nlt 256 (t i)) → ∀ i, i < 120 → nlt 256 (feL b k t l i)
  | 0, _, _, h => h
  | k + 1, t, l, h => by
    refine feL_ok k _ (l + 1) (fun i hi => ?_)
    by_cases e : i = l
    · subst e
      rw [pk_us]
      obtain ⟨j, hj, ej⟩ := pk_andE (b >>> (8 * nI k &&& 31)) (m := 255) 8 rfl
      exact ⟨j, hj, ej⟩
    · rw [pk_un e]; exact h i hi
theorem ai_feed (h : AI A) (b n : Int32) : AI (o_feed A b n).2 := by
  unfold o_feed
  split
  · rename_i e
    rcases wi14 n with e1 | ⟨_, j, h0, h4, rfl⟩
    · rw [e1] at e; exact absurd e (by decide)
    · split
      · rename_i h9
        have hl := h.2.2.1
        have h9' : aL A + j ≤ 120 := by
          rw [nI_add] at h9
          exact (nI_leI (b := 120) (by omega) (by decide)).mp h9
        rw [nI_clamp (show j < 2 ^ 31 by omega)]
        exact ⟨h.1, h.2.1, h9', feL_ok _ _ _ h.2.2.2.1, h.2.2.2.2⟩
      · exact h
  · exact h
theorem ai_t0 (h : AI A) : AI (sT A (aT A) 0) := ⟨h.1, h.2.1, Nat.zero_le _, h.2.2.2⟩
theorem ai_wipe (h : AI A) : AI (o_wipe A).2 := ai_t0 h
theorem ai_family (h : AI A) : AI (o_family A).2 := by
  unfold o_family
  cases e : txL (aT A) (aL A) 120 1 0 (aF A) with
  | mk v o =>
    cases o with
    | none => exact ai_t0 h
    | some G => exact ai_t0 (h.fm (txL_ok 120 1 0 (aF A) G v h.1 e))
theorem okB_c {b : Int32} (h : okB b = true) : b = 0 ∨ b = 8 ∨ b = 16 ∨ b = 64 := by
  unfold okB at h
  simp only [Bool.or_eq_true, decide_eq_true_eq] at h
  rcases h with ((h | h) | h) | h
  · exact Or.inl h
  · exact Or.inr (Or.inl h)
  · exact Or.inr (Or.inr (Or.inl h))
  · exact Or.inr (Or.inr (Or.inr h))
theorem ai_sheet (h : AI A) (s b n : Int32) : AI (o_sheet A s b n).2 := by
  unfold o_sheet
  split
  · rename_i e
    rw [Bool.and_eq_true] at e
    split
    · exact h
    · rename_i h1
      split
      · rename_i h2
        refine ⟨h.1, h.2.1, h.2.2.1, h.2.2.2.1, fun i hi => ?_⟩
        have hs := h.2.2.2.2 i hi
        obtain ⟨k, hk, rfl⟩ := nI_of h1
        have hk40 : k ≤ 40 := (nI_leI (b := 40) hk (by decide)).mp h2
        refine ⟨?_, ?_⟩
        · show upd (aS A) _ b i = 0 ∨ upd (aS A) _ b i = 8 ∨ upd (aS A) _ b i = 16 ∨ upd (aS A) _ b i = 64
          unfold upd
          split
          · exact okB_c e.2
          · exact hs.1
        · show nlt 41 (upd (aZ A) _ (szB b (nI k)) i)
          unfold upd
          split
          · unfold szB
            split
            · exact ⟨0, by decide, rfl⟩
            · exact ⟨k, by omega, rfl⟩
          · exact hs.2
      · exact h
  · exact h
theorem ai_write (h : AI A) (s i : Int32) (v : Int64) : AI (o_write A s i v).2 := by
  unfold o_write
  split
  · split
    · exact h
    · split
      · exact h
      · exact h
  · exact h
theorem ai_copy (h : AI A) (s f t g n : Int32) : AI (o_copy A s f t g n).2 := by
  unfold o_copy
  split
  · split
    · exact h
    · split
      · split
        · exact h
        · exact h
      · exact h
  · exact h
theorem laL_ok {f : Nat → Int64} : ∀ (k j : Nat) (w : Nat → Int32) (c : Int32), j + k ≤ 16 → AL 16 (nlt 100) w → AL 16 (nlt 100) (laL f k j w c).1
  | 0, _, _, _, _, h => h
  | k + 1, j, w, c, hj, h => by
    unfold laL
    split
    · rename_i hv
      refine laL_ok k (j + 1) _ _ (by omega) (h.upd (by omega) ?_)
      obtain ⟨x, hx, ex⟩ := pk_lOf (Int64.not_lt.mpr hv.1)
      have h2 := hv.2
      rw [ex] at h2 ⊢
      have h3 : x ≤ 99 := (pk_lLE (b := 99) hx (by decide)).mp h2
      exact ⟨x, by omega, lN_i x⟩
    · exact laL_ok k (j + 1) w c (by omega) h
theorem ai_lays (h : AI A) (s : Int32) : AI (o_lays A s).2 := by
  unfold o_lays
  split
  · split
    · exact h
    · exact h.fm (h.1.ww (laL_ok _ 0 _ _ (by omega) h.1.w))
  · exact h
theorem ai_book (h : AI A) (s p : Int32) : AI (o_book A s p).2 := by
  unfold o_book shQ
  split
  · split
    · exact h
    · split <;> exact h
  · exact h
theorem ai_read (h : AI A) (s p : Int32) : AI (o_read A s p).2 := by
  unfold o_read shQ
  split
  · split
    · exact h
    · split <;> exact h
  · exact h
theorem ai_image (h : AI A) : AI (o_image A).2 := ⟨h.1, h.1, h.2.2⟩
theorem ai_undo (h : AI A) : AI (o_undo A).2 := by
  unfold o_undo
  split
  · exact ⟨h.2.1, h.2⟩
  · exact h
theorem ai_tear (h : AI A) : AI (o_tear A).2 := h
theorem ai_count (h : AI A) (w : Int32) : AI (o_count A w).2 := by
  unfold o_count
  (repeat' split) <;> exact h
theorem ai_status (h : AI A) (w : Int32) : AI (o_status A w).2 := by unfold o_status; split <;> exact h
end
