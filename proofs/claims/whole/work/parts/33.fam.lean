/-! A FAMILY AS A VALUE: worths, kinds, ages, pockets, cousins, losts; people, burned, year -/
abbrev Fam : Type := (Nat → Int32) × (Nat → Int32) × (Nat → Int32) × (Nat → Int32) × (Nat → Int32) × (Nat → Int32) × Int32 × Int32 × Int32
def gw (F : Fam) : Nat → Int32 := F.1
def ww (F : Fam) (v : Nat → Int32) : Fam := (v, F.2.1, F.2.2.1, F.2.2.2.1, F.2.2.2.2.1, F.2.2.2.2.2.1, F.2.2.2.2.2.2.1, F.2.2.2.2.2.2.2.1, F.2.2.2.2.2.2.2.2)
def gk (F : Fam) : Nat → Int32 := F.2.1
def wk (F : Fam) (v : Nat → Int32) : Fam := (F.1, v, F.2.2.1, F.2.2.2.1, F.2.2.2.2.1, F.2.2.2.2.2.1, F.2.2.2.2.2.2.1, F.2.2.2.2.2.2.2.1, F.2.2.2.2.2.2.2.2)
def ga (F : Fam) : Nat → Int32 := F.2.2.1
def wa (F : Fam) (v : Nat → Int32) : Fam := (F.1, F.2.1, v, F.2.2.2.1, F.2.2.2.2.1, F.2.2.2.2.2.1, F.2.2.2.2.2.2.1, F.2.2.2.2.2.2.2.1, F.2.2.2.2.2.2.2.2)
def gp (F : Fam) : Nat → Int32 := F.2.2.2.1
def wp (F : Fam) (v : Nat → Int32) : Fam := (F.1, F.2.1, F.2.2.1, v, F.2.2.2.2.1, F.2.2.2.2.2.1, F.2.2.2.2.2.2.1, F.2.2.2.2.2.2.2.1, F.2.2.2.2.2.2.2.2)
def gc (F : Fam) : Nat → Int32 := F.2.2.2.2.1
def wc (F : Fam) (v : Nat → Int32) : Fam := (F.1, F.2.1, F.2.2.1, F.2.2.2.1, v, F.2.2.2.2.2.1, F.2.2.2.2.2.2.1, F.2.2.2.2.2.2.2.1, F.2.2.2.2.2.2.2.2)
def gl (F : Fam) : Nat → Int32 := F.2.2.2.2.2.1
def wl (F : Fam) (v : Nat → Int32) : Fam := (F.1, F.2.1, F.2.2.1, F.2.2.2.1, F.2.2.2.2.1, v, F.2.2.2.2.2.2.1, F.2.2.2.2.2.2.2.1, F.2.2.2.2.2.2.2.2)
def gn (F : Fam) : Int32 := F.2.2.2.2.2.2.1
def wn (F : Fam) (v : Int32) : Fam := (F.1, F.2.1, F.2.2.1, F.2.2.2.1, F.2.2.2.2.1, F.2.2.2.2.2.1, v, F.2.2.2.2.2.2.2.1, F.2.2.2.2.2.2.2.2)
def gb (F : Fam) : Int32 := F.2.2.2.2.2.2.2.1
def wb (F : Fam) (v : Int32) : Fam := (F.1, F.2.1, F.2.2.1, F.2.2.2.1, F.2.2.2.2.1, F.2.2.2.2.2.1, F.2.2.2.2.2.2.1, v, F.2.2.2.2.2.2.2.2)
def gy (F : Fam) : Int32 := F.2.2.2.2.2.2.2.2
def wy (F : Fam) (v : Int32) : Fam := (F.1, F.2.1, F.2.2.1, F.2.2.2.1, F.2.2.2.2.1, F.2.2.2.2.2.1, F.2.2.2.2.2.2.1, F.2.2.2.2.2.2.2.1, v)
theorem gw_ww (F : Fam) (v : Nat → Int32) : gw (ww F v) = v := rfl
theorem gw_wk (F : Fam) (v : Nat → Int32) : gw (wk F v) = gw F := rfl
theorem gw_wa (F : Fam) (v : Nat → Int32) : gw (wa F v) = gw F := rfl
theorem gw_wp (F : Fam) (v : Nat → Int32) : gw (wp F v) = gw F := rfl
theorem gw_wc (F : Fam) (v : Nat → Int32) : gw (wc F v) = gw F := rfl
theorem gw_wl (F : Fam) (v : Nat → Int32) : gw (wl F v) = gw F := rfl
theorem gw_wn (F : Fam) (v : Int32) : gw (wn F v) = gw F := rfl
theorem gw_wb (F : Fam) (v : Int32) : gw (wb F v) = gw F := rfl
theorem gw_wy (F : Fam) (v : Int32) : gw (wy F v) = gw F := rfl
theorem ww_ww (F : Fam) (u v : Nat → Int32) : ww (ww F u) v = ww F v := rfl
theorem ww_gw (F : Fam) : ww F (gw F) = F := rfl
theorem gk_ww (F : Fam) (v : Nat → Int32) : gk (ww F v) = gk F := rfl
theorem gk_wk (F : Fam) (v : Nat → Int32) : gk (wk F v) = v := rfl
theorem gk_wa (F : Fam) (v : Nat → Int32) : gk (wa F v) = gk F := rfl
theorem gk_wp (F : Fam) (v : Nat → Int32) : gk (wp F v) = gk F := rfl
theorem gk_wc (F : Fam) (v : Nat → Int32) : gk (wc F v) = gk F := rfl
theorem gk_wl (F : Fam) (v : Nat → Int32) : gk (wl F v) = gk F := rfl
theorem gk_wn (F : Fam) (v : Int32) : gk (wn F v) = gk F := rfl
theorem gk_wb (F : Fam) (v : Int32) : gk (wb F v) = gk F := rfl
theorem gk_wy (F : Fam) (v : Int32) : gk (wy F v) = gk F := rfl
theorem wk_wk (F : Fam) (u v : Nat → Int32) : wk (wk F u) v = wk F v := rfl
theorem wk_gk (F : Fam) : wk F (gk F) = F := rfl
theorem ga_ww (F : Fam) (v : Nat → Int32) : ga (ww F v) = ga F := rfl
theorem ga_wk (F : Fam) (v : Nat → Int32) : ga (wk F v) = ga F := rfl
theorem ga_wa (F : Fam) (v : Nat → Int32) : ga (wa F v) = v := rfl
theorem ga_wp (F : Fam) (v : Nat → Int32) : ga (wp F v) = ga F := rfl
theorem ga_wc (F : Fam) (v : Nat → Int32) : ga (wc F v) = ga F := rfl
theorem ga_wl (F : Fam) (v : Nat → Int32) : ga (wl F v) = ga F := rfl
theorem ga_wn (F : Fam) (v : Int32) : ga (wn F v) = ga F := rfl
theorem ga_wb (F : Fam) (v : Int32) : ga (wb F v) = ga F := rfl
theorem ga_wy (F : Fam) (v : Int32) : ga (wy F v) = ga F := rfl
theorem wa_wa (F : Fam) (u v : Nat → Int32) : wa (wa F u) v = wa F v := rfl
theorem wa_ga (F : Fam) : wa F (ga F) = F := rfl
theorem gp_ww (F : Fam) (v : Nat → Int32) : gp (ww F v) = gp F := rfl
theorem gp_wk (F : Fam) (v : Nat → Int32) : gp (wk F v) = gp F := rfl
theorem gp_wa (F : Fam) (v : Nat → Int32) : gp (wa F v) = gp F := rfl
theorem gp_wp (F : Fam) (v : Nat → Int32) : gp (wp F v) = v := rfl
theorem gp_wc (F : Fam) (v : Nat → Int32) : gp (wc F v) = gp F := rfl
theorem gp_wl (F : Fam) (v : Nat → Int32) : gp (wl F v) = gp F := rfl
theorem gp_wn (F : Fam) (v : Int32) : gp (wn F v) = gp F := rfl
theorem gp_wb (F : Fam) (v : Int32) : gp (wb F v) = gp F := rfl
theorem gp_wy (F : Fam) (v : Int32) : gp (wy F v) = gp F := rfl
theorem wp_wp (F : Fam) (u v : Nat → Int32) : wp (wp F u) v = wp F v := rfl
theorem wp_gp (F : Fam) : wp F (gp F) = F := rfl
theorem gc_ww (F : Fam) (v : Nat → Int32) : gc (ww F v) = gc F := rfl
theorem gc_wk (F : Fam) (v : Nat → Int32) : gc (wk F v) = gc F := rfl
theorem gc_wa (F : Fam) (v : Nat → Int32) : gc (wa F v) = gc F := rfl
theorem gc_wp (F : Fam) (v : Nat → Int32) : gc (wp F v) = gc F := rfl
theorem gc_wc (F : Fam) (v : Nat → Int32) : gc (wc F v) = v := rfl
theorem gc_wl (F : Fam) (v : Nat → Int32) : gc (wl F v) = gc F := rfl
theorem gc_wn (F : Fam) (v : Int32) : gc (wn F v) = gc F := rfl
theorem gc_wb (F : Fam) (v : Int32) : gc (wb F v) = gc F := rfl
theorem gc_wy (F : Fam) (v : Int32) : gc (wy F v) = gc F := rfl
theorem wc_wc (F : Fam) (u v : Nat → Int32) : wc (wc F u) v = wc F v := rfl
theorem wc_gc (F : Fam) : wc F (gc F) = F := rfl
theorem gl_ww (F : Fam) (v : Nat → Int32) : gl (ww F v) = gl F := rfl
theorem gl_wk (F : Fam) (v : Nat → Int32) : gl (wk F v) = gl F := rfl
theorem gl_wa (F : Fam) (v : Nat → Int32) : gl (wa F v) = gl F := rfl
theorem gl_wp (F : Fam) (v : Nat → Int32) : gl (wp F v) = gl F := rfl
theorem gl_wc (F : Fam) (v : Nat → Int32) : gl (wc F v) = gl F := rfl
theorem gl_wl (F : Fam) (v : Nat → Int32) : gl (wl F v) = v := rfl
theorem gl_wn (F : Fam) (v : Int32) : gl (wn F v) = gl F := rfl
theorem gl_wb (F : Fam) (v : Int32) : gl (wb F v) = gl F := rfl
theorem gl_wy (F : Fam) (v : Int32) : gl (wy F v) = gl F := rfl
theorem wl_wl (F : Fam) (u v : Nat → Int32) : wl (wl F u) v = wl F v := rfl
theorem wl_gl (F : Fam) : wl F (gl F) = F := rfl
theorem gn_ww (F : Fam) (v : Nat → Int32) : gn (ww F v) = gn F := rfl
theorem gn_wk (F : Fam) (v : Nat → Int32) : gn (wk F v) = gn F := rfl
theorem gn_wa (F : Fam) (v : Nat → Int32) : gn (wa F v) = gn F := rfl
theorem gn_wp (F : Fam) (v : Nat → Int32) : gn (wp F v) = gn F := rfl
theorem gn_wc (F : Fam) (v : Nat → Int32) : gn (wc F v) = gn F := rfl
theorem gn_wl (F : Fam) (v : Nat → Int32) : gn (wl F v) = gn F := rfl
theorem gn_wn (F : Fam) (v : Int32) : gn (wn F v) = v := rfl
theorem gn_wb (F : Fam) (v : Int32) : gn (wb F v) = gn F := rfl
theorem gn_wy (F : Fam) (v : Int32) : gn (wy F v) = gn F := rfl
theorem wn_wn (F : Fam) (u v : Int32) : wn (wn F u) v = wn F v := rfl
theorem wn_gn (F : Fam) : wn F (gn F) = F := rfl
theorem gb_ww (F : Fam) (v : Nat → Int32) : gb (ww F v) = gb F := rfl
theorem gb_wk (F : Fam) (v : Nat → Int32) : gb (wk F v) = gb F := rfl
theorem gb_wa (F : Fam) (v : Nat → Int32) : gb (wa F v) = gb F := rfl
theorem gb_wp (F : Fam) (v : Nat → Int32) : gb (wp F v) = gb F := rfl
theorem gb_wc (F : Fam) (v : Nat → Int32) : gb (wc F v) = gb F := rfl
theorem gb_wl (F : Fam) (v : Nat → Int32) : gb (wl F v) = gb F := rfl
theorem gb_wn (F : Fam) (v : Int32) : gb (wn F v) = gb F := rfl
theorem gb_wb (F : Fam) (v : Int32) : gb (wb F v) = v := rfl
theorem gb_wy (F : Fam) (v : Int32) : gb (wy F v) = gb F := rfl
theorem wb_wb (F : Fam) (u v : Int32) : wb (wb F u) v = wb F v := rfl
theorem wb_gb (F : Fam) : wb F (gb F) = F := rfl
theorem gy_ww (F : Fam) (v : Nat → Int32) : gy (ww F v) = gy F := rfl
theorem gy_wk (F : Fam) (v : Nat → Int32) : gy (wk F v) = gy F := rfl
theorem gy_wa (F : Fam) (v : Nat → Int32) : gy (wa F v) = gy F := rfl
theorem gy_wp (F : Fam) (v : Nat → Int32) : gy (wp F v) = gy F := rfl
theorem gy_wc (F : Fam) (v : Nat → Int32) : gy (wc F v) = gy F := rfl
theorem gy_wl (F : Fam) (v : Nat → Int32) : gy (wl F v) = gy F := rfl
theorem gy_wn (F : Fam) (v : Int32) : gy (wn F v) = gy F := rfl
theorem gy_wb (F : Fam) (v : Int32) : gy (wb F v) = gy F := rfl
theorem gy_wy (F : Fam) (v : Int32) : gy (wy F v) = v := rfl
theorem wy_wy (F : Fam) (u v : Int32) : wy (wy F u) v = wy F v := rfl
theorem wy_gy (F : Fam) : wy F (gy F) = F := rfl
/-- the model's row of a family -/
def rowO (F : Fam) (j : Nat) : Int32 := if j = 0 then gy F else if j = 1 then gb F else if j = 2 then gn F else if j < 19 then gw F (j - 3) else if 59 ≤ j then 0 else if (j - 19) % 5 = 0 then gk F ((j - 19) / 5) else if (j - 19) % 5 = 1 then ga F ((j - 19) / 5) else if (j - 19) % 5 = 2 then gp F ((j - 19) / 5) else if (j - 19) % 5 = 3 then gc F ((j - 19) / 5) else gl F ((j - 19) / 5)
theorem ro_y (F : Fam) : rowO F 0 = gy F := rfl
theorem ro_b (F : Fam) : rowO F 1 = gb F := rfl
theorem ro_n (F : Fam) : rowO F 2 = gn F := rfl
theorem ro_w (F : Fam) {t : Nat} (h : t < 16) : rowO F (3 + t) = gw F t := by
  unfold rowO
  rw [if_neg (by omega), if_neg (by omega), if_neg (by omega), if_pos (by omega), Nat.add_sub_cancel_left]
theorem ro_k (F : Fam) {i : Nat} (h : i < 8) : rowO F (19 + 5 * i + 0) = gk F i := by
  have e : (19 + 5 * i + 0 - 19) / 5 = i := by omega
  unfold rowO
  rw [if_neg (by omega), if_neg (by omega), if_neg (by omega), if_neg (by omega), if_neg (by omega), if_pos (by omega), e]
theorem ro_a (F : Fam) {i : Nat} (h : i < 8) : rowO F (19 + 5 * i + 1) = ga F i := by
  have e : (19 + 5 * i + 1 - 19) / 5 = i := by omega
  unfold rowO
  rw [if_neg (by omega), if_neg (by omega), if_neg (by omega), if_neg (by omega), if_neg (by omega), if_neg (by omega), if_pos (by omega), e]
theorem ro_p (F : Fam) {i : Nat} (h : i < 8) : rowO F (19 + 5 * i + 2) = gp F i := by
  have e : (19 + 5 * i + 2 - 19) / 5 = i := by omega
  unfold rowO
  rw [if_neg (by omega), if_neg (by omega), if_neg (by omega), if_neg (by omega), if_neg (by omega), if_neg (by omega), if_neg (by omega), if_pos (by omega), e]
theorem ro_c (F : Fam) {i : Nat} (h : i < 8) : rowO F (19 + 5 * i + 3) = gc F i := by
  have e : (19 + 5 * i + 3 - 19) / 5 = i := by omega
  unfold rowO
  rw [if_neg (by omega), if_neg (by omega), if_neg (by omega), if_neg (by omega), if_neg (by omega), if_neg (by omega), if_neg (by omega), if_neg (by omega), if_pos (by omega), e]
theorem ro_l (F : Fam) {i : Nat} (h : i < 8) : rowO F (19 + 5 * i + 4) = gl F i := by
  have e : (19 + 5 * i + 4 - 19) / 5 = i := by omega
  unfold rowO
  rw [if_neg (by omega), if_neg (by omega), if_neg (by omega), if_neg (by omega), if_neg (by omega), if_neg (by omega), if_neg (by omega), if_neg (by omega), if_neg (by omega), e]
theorem ro_up {F G : Fam} {k : Nat} {v : Int32} (hk : rowO G k = v) (h : ∀ j, j ≠ k → rowO G j = rowO F j) : upd (rowO F) k v = rowO G := by
  funext j
  unfold upd
  split
  · rename_i hj; rw [hj, hk]
  · rename_i hj; exact (h j hj).symm
theorem ru_y (F : Fam) (v : Int32) : upd (rowO F) 0 v = rowO (wy F v) := ro_up rfl (fun j hj => by simp only [rowO, gw_wy, gk_wy, ga_wy, gp_wy, gc_wy, gl_wy, gn_wy, gb_wy, gy_wy, hj, if_false])
theorem ru_b (F : Fam) (v : Int32) : upd (rowO F) 1 v = rowO (wb F v) := ro_up rfl (fun j hj => by simp only [rowO, gw_wb, gk_wb, ga_wb, gp_wb, gc_wb, gl_wb, gn_wb, gb_wb, gy_wb, hj, if_false])
theorem ru_n (F : Fam) (v : Int32) : upd (rowO F) 2 v = rowO (wn F v) := ro_up rfl (fun j hj => by simp only [rowO, gw_wn, gk_wn, ga_wn, gp_wn, gc_wn, gl_wn, gn_wn, gb_wn, gy_wn, hj, if_false])
theorem ru_w (F : Fam) {t : Nat} (h : t < 16) (v : Int32) : upd (rowO F) (3 + t) v = rowO (ww F (upd (gw F) t v)) := by
  refine ro_up ?_ (fun j hj => ?_)
  · rw [ro_w _ h, gw_ww]; unfold upd; rw [if_pos rfl]
  · have e : 3 ≤ j → upd (gw F) t v (j - 3) = gw F (j - 3) := fun h3 => by unfold upd; rw [if_neg (by omega)]
    simp only [rowO, gw_ww, gk_ww, ga_ww, gp_ww, gc_ww, gl_ww, gn_ww, gb_ww, gy_ww]
    split; rfl
    split; rfl
    split; rfl
    split
    · rw [e (by omega)]
    · rfl
theorem ru_k (F : Fam) {i : Nat} (h : i < 8) (v : Int32) : upd (rowO F) (19 + 5 * i + 0) v = rowO (wk F (upd (gk F) i v)) := by
  refine ro_up ?_ (fun j hj => ?_)
  · rw [ro_k _ h, gk_wk]; unfold upd; rw [if_pos rfl]
  · have e : 19 ≤ j → (j - 19) % 5 = 0 → upd (gk F) i v ((j - 19) / 5) = gk F ((j - 19) / 5) := fun h3 h4 => by unfold upd; rw [if_neg (by omega)]
    simp only [rowO, gw_wk, gk_wk, ga_wk, gp_wk, gc_wk, gl_wk, gn_wk, gb_wk, gy_wk]
    split; rfl
    split; rfl
    split; rfl
    split; rfl
    split; rfl
    split
    · rw [e (by omega) (by omega)]
    · rfl
theorem ru_a (F : Fam) {i : Nat} (h : i < 8) (v : Int32) : upd (rowO F) (19 + 5 * i + 1) v = rowO (wa F (upd (ga F) i v)) := by
  refine ro_up ?_ (fun j hj => ?_)
  · rw [ro_a _ h, ga_wa]; unfold upd; rw [if_pos rfl]
  · have e : 19 ≤ j → (j - 19) % 5 = 1 → upd (ga F) i v ((j - 19) / 5) = ga F ((j - 19) / 5) := fun h3 h4 => by unfold upd; rw [if_neg (by omega)]
    simp only [rowO, gw_wa, gk_wa, ga_wa, gp_wa, gc_wa, gl_wa, gn_wa, gb_wa, gy_wa]
    split; rfl
    split; rfl
    split; rfl
    split; rfl
    split; rfl
    split; rfl
    split
    · rw [e (by omega) (by omega)]
    · rfl
theorem ru_p (F : Fam) {i : Nat} (h : i < 8) (v : Int32) : upd (rowO F) (19 + 5 * i + 2) v = rowO (wp F (upd (gp F) i v)) := by
  refine ro_up ?_ (fun j hj => ?_)
  · rw [ro_p _ h, gp_wp]; unfold upd; rw [if_pos rfl]
  · have e : 19 ≤ j → (j - 19) % 5 = 2 → upd (gp F) i v ((j - 19) / 5) = gp F ((j - 19) / 5) := fun h3 h4 => by unfold upd; rw [if_neg (by omega)]
    simp only [rowO, gw_wp, gk_wp, ga_wp, gp_wp, gc_wp, gl_wp, gn_wp, gb_wp, gy_wp]
    split; rfl
    split; rfl
    split; rfl
    split; rfl
    split; rfl
    split; rfl
    split; rfl
    split
    · rw [e (by omega) (by omega)]
    · rfl
theorem ru_c (F : Fam) {i : Nat} (h : i < 8) (v : Int32) : upd (rowO F) (19 + 5 * i + 3) v = rowO (wc F (upd (gc F) i v)) := by
  refine ro_up ?_ (fun j hj => ?_)
  · rw [ro_c _ h, gc_wc]; unfold upd; rw [if_pos rfl]
  · have e : 19 ≤ j → (j - 19) % 5 = 3 → upd (gc F) i v ((j - 19) / 5) = gc F ((j - 19) / 5) := fun h3 h4 => by unfold upd; rw [if_neg (by omega)]
    simp only [rowO, gw_wc, gk_wc, ga_wc, gp_wc, gc_wc, gl_wc, gn_wc, gb_wc, gy_wc]
    split; rfl
    split; rfl
    split; rfl
    split; rfl
    split; rfl
    split; rfl
    split; rfl
    split; rfl
    split
    · rw [e (by omega) (by omega)]
    · rfl
theorem ru_l (F : Fam) {i : Nat} (h : i < 8) (v : Int32) : upd (rowO F) (19 + 5 * i + 4) v = rowO (wl F (upd (gl F) i v)) := by
  refine ro_up ?_ (fun j hj => ?_)
  · rw [ro_l _ h, gl_wl]; unfold upd; rw [if_pos rfl]
  · have e : 19 ≤ j → (j - 19) % 5 = 4 → upd (gl F) i v ((j - 19) / 5) = gl F ((j - 19) / 5) := fun h3 h4 => by unfold upd; rw [if_neg (by omega)]
    simp only [rowO, gw_wl, gk_wl, ga_wl, gp_wl, gc_wl, gl_wl, gn_wl, gb_wl, gy_wl]
    split; rfl
    split; rfl
    split; rfl
    split; rfl
    split; rfl
    split; rfl
    split; rfl
    split; rfl
    split; rfl
    rw [e (by omega) (by omega)]
/-- the class's cells of a family, at o -/
def cF (o : Nat) (F : Fam) : mx_C := .inr (1, [.ref 1, .ref (o + 1), .ref (o + 2), .ref (o + 3), .ref (o + 4), .ref (o + 5), .ref (o + 6), .int (gn F), .int (gb F), .int (gy F)])
def putF (g : mx_G) (o : Nat) (F : Fam) : mx_G := (fun j => if j = o then some (cF o F) else if j = o + 1 then some (cI 16 (gw F)) else if j = o + 2 then some (cI 8 (gk F)) else if j = o + 3 then some (cI 8 (ga F)) else if j = o + 4 then some (cI 8 (gp F)) else if j = o + 5 then some (cI 8 (gc F)) else if j = o + 6 then some (cI 8 (gl F)) else g.1 j, g.2)
section
variable {g : mx_G} {o : Nat} {F : Fam}
theorem pF_0 : (putF g o F).1 o = some (cF o F) := by simp [putF]
theorem pF_w : (putF g o F).1 (o + 1) = some (cI 16 (gw F)) := by simp [putF]
theorem pF_k : (putF g o F).1 (o + 2) = some (cI 8 (gk F)) := by simp [putF]
theorem pF_a : (putF g o F).1 (o + 3) = some (cI 8 (ga F)) := by simp [putF]
theorem pF_p : (putF g o F).1 (o + 4) = some (cI 8 (gp F)) := by simp [putF]
theorem pF_c : (putF g o F).1 (o + 5) = some (cI 8 (gc F)) := by simp [putF]
theorem pF_l : (putF g o F).1 (o + 6) = some (cI 8 (gl F)) := by simp [putF]
theorem pF_o {j : Nat} (h : j < o ∨ o + 6 < j) : (putF g o F).1 j = g.1 j := by
  show (if j = o then _ else _) = _
  rw [if_neg (by omega), if_neg (by omega), if_neg (by omega), if_neg (by omega), if_neg (by omega), if_neg (by omega), if_neg (by omega)]
theorem pF_2 : (putF g o F).2 = g.2 := rfl
theorem pF_pF {G : Fam} : putF (putF g o F) o G = putF g o G := by
  unfold putF
  congr 1
  funext j
  dsimp only
  by_cases h0 : j = o; · simp only [h0, if_true]
  by_cases h1 : j = o + 1; · simp only [h1, if_true]
  by_cases h2 : j = o + 2; · simp only [h2, if_true]
  by_cases h3 : j = o + 3; · simp only [h3, if_true]
  by_cases h4 : j = o + 4; · simp only [h4, if_true]
  by_cases h5 : j = o + 5; · simp only [h5, if_true]
  by_cases h6 : j = o + 6; · simp only [h6, if_true]
  simp only [h0, h1, h2, h3, h4, h5, h6, if_false]
theorem uF_w {v : Nat → Int32} : mx_up (putF g o F) (o + 1) (cI 16 v) = putF g o (ww F v) := by
  refine Prod.ext (funext fun j => ?_) rfl
  by_cases h0 : j = o
  · subst h0; simp [mx_up, va_up, putF, cF, gw_ww, gw_wk, gw_wa, gw_wp, gw_wc, gw_wl, gw_wn, gw_wb, gw_wy, gk_ww, gk_wk, gk_wa, gk_wp, gk_wc, gk_wl, gk_wn, gk_wb, gk_wy, ga_ww, ga_wk, ga_wa, ga_wp, ga_wc, ga_wl, ga_wn, ga_wb, ga_wy, gp_ww, gp_wk, gp_wa, gp_wp, gp_wc, gp_wl, gp_wn, gp_wb, gp_wy, gc_ww, gc_wk, gc_wa, gc_wp, gc_wc, gc_wl, gc_wn, gc_wb, gc_wy, gl_ww, gl_wk, gl_wa, gl_wp, gl_wc, gl_wl, gl_wn, gl_wb, gl_wy, gn_ww, gn_wk, gn_wa, gn_wp, gn_wc, gn_wl, gn_wn, gn_wb, gn_wy, gb_ww, gb_wk, gb_wa, gb_wp, gb_wc, gb_wl, gb_wn, gb_wb, gb_wy, gy_ww, gy_wk, gy_wa, gy_wp, gy_wc, gy_wl, gy_wn, gy_wb, gy_wy]
  by_cases h1 : j = o + 1
  · subst h1; simp [mx_up, va_up, putF, cF, gw_ww, gw_wk, gw_wa, gw_wp, gw_wc, gw_wl, gw_wn, gw_wb, gw_wy, gk_ww, gk_wk, gk_wa, gk_wp, gk_wc, gk_wl, gk_wn, gk_wb, gk_wy, ga_ww, ga_wk, ga_wa, ga_wp, ga_wc, ga_wl, ga_wn, ga_wb, ga_wy, gp_ww, gp_wk, gp_wa, gp_wp, gp_wc, gp_wl, gp_wn, gp_wb, gp_wy, gc_ww, gc_wk, gc_wa, gc_wp, gc_wc, gc_wl, gc_wn, gc_wb, gc_wy, gl_ww, gl_wk, gl_wa, gl_wp, gl_wc, gl_wl, gl_wn, gl_wb, gl_wy, gn_ww, gn_wk, gn_wa, gn_wp, gn_wc, gn_wl, gn_wn, gn_wb, gn_wy, gb_ww, gb_wk, gb_wa, gb_wp, gb_wc, gb_wl, gb_wn, gb_wb, gb_wy, gy_ww, gy_wk, gy_wa, gy_wp, gy_wc, gy_wl, gy_wn, gy_wb, gy_wy]
  by_cases h2 : j = o + 2
  · subst h2; simp [mx_up, va_up, putF, cF, gw_ww, gw_wk, gw_wa, gw_wp, gw_wc, gw_wl, gw_wn, gw_wb, gw_wy, gk_ww, gk_wk, gk_wa, gk_wp, gk_wc, gk_wl, gk_wn, gk_wb, gk_wy, ga_ww, ga_wk, ga_wa, ga_wp, ga_wc, ga_wl, ga_wn, ga_wb, ga_wy, gp_ww, gp_wk, gp_wa, gp_wp, gp_wc, gp_wl, gp_wn, gp_wb, gp_wy, gc_ww, gc_wk, gc_wa, gc_wp, gc_wc, gc_wl, gc_wn, gc_wb, gc_wy, gl_ww, gl_wk, gl_wa, gl_wp, gl_wc, gl_wl, gl_wn, gl_wb, gl_wy, gn_ww, gn_wk, gn_wa, gn_wp, gn_wc, gn_wl, gn_wn, gn_wb, gn_wy, gb_ww, gb_wk, gb_wa, gb_wp, gb_wc, gb_wl, gb_wn, gb_wb, gb_wy, gy_ww, gy_wk, gy_wa, gy_wp, gy_wc, gy_wl, gy_wn, gy_wb, gy_wy]
  by_cases h3 : j = o + 3
  · subst h3; simp [mx_up, va_up, putF, cF, gw_ww, gw_wk, gw_wa, gw_wp, gw_wc, gw_wl, gw_wn, gw_wb, gw_wy, gk_ww, gk_wk, gk_wa, gk_wp, gk_wc, gk_wl, gk_wn, gk_wb, gk_wy, ga_ww, ga_wk, ga_wa, ga_wp, ga_wc, ga_wl, ga_wn, ga_wb, ga_wy, gp_ww, gp_wk, gp_wa, gp_wp, gp_wc, gp_wl, gp_wn, gp_wb, gp_wy, gc_ww, gc_wk, gc_wa, gc_wp, gc_wc, gc_wl, gc_wn, gc_wb, gc_wy, gl_ww, gl_wk, gl_wa, gl_wp, gl_wc, gl_wl, gl_wn, gl_wb, gl_wy, gn_ww, gn_wk, gn_wa, gn_wp, gn_wc, gn_wl, gn_wn, gn_wb, gn_wy, gb_ww, gb_wk, gb_wa, gb_wp, gb_wc, gb_wl, gb_wn, gb_wb, gb_wy, gy_ww, gy_wk, gy_wa, gy_wp, gy_wc, gy_wl, gy_wn, gy_wb, gy_wy]
  by_cases h4 : j = o + 4
  · subst h4; simp [mx_up, va_up, putF, cF, gw_ww, gw_wk, gw_wa, gw_wp, gw_wc, gw_wl, gw_wn, gw_wb, gw_wy, gk_ww, gk_wk, gk_wa, gk_wp, gk_wc, gk_wl, gk_wn, gk_wb, gk_wy, ga_ww, ga_wk, ga_wa, ga_wp, ga_wc, ga_wl, ga_wn, ga_wb, ga_wy, gp_ww, gp_wk, gp_wa, gp_wp, gp_wc, gp_wl, gp_wn, gp_wb, gp_wy, gc_ww, gc_wk, gc_wa, gc_wp, gc_wc, gc_wl, gc_wn, gc_wb, gc_wy, gl_ww, gl_wk, gl_wa, gl_wp, gl_wc, gl_wl, gl_wn, gl_wb, gl_wy, gn_ww, gn_wk, gn_wa, gn_wp, gn_wc, gn_wl, gn_wn, gn_wb, gn_wy, gb_ww, gb_wk, gb_wa, gb_wp, gb_wc, gb_wl, gb_wn, gb_wb, gb_wy, gy_ww, gy_wk, gy_wa, gy_wp, gy_wc, gy_wl, gy_wn, gy_wb, gy_wy]
  by_cases h5 : j = o + 5
  · subst h5; simp [mx_up, va_up, putF, cF, gw_ww, gw_wk, gw_wa, gw_wp, gw_wc, gw_wl, gw_wn, gw_wb, gw_wy, gk_ww, gk_wk, gk_wa, gk_wp, gk_wc, gk_wl, gk_wn, gk_wb, gk_wy, ga_ww, ga_wk, ga_wa, ga_wp, ga_wc, ga_wl, ga_wn, ga_wb, ga_wy, gp_ww, gp_wk, gp_wa, gp_wp, gp_wc, gp_wl, gp_wn, gp_wb, gp_wy, gc_ww, gc_wk, gc_wa, gc_wp, gc_wc, gc_wl, gc_wn, gc_wb, gc_wy, gl_ww, gl_wk, gl_wa, gl_wp, gl_wc, gl_wl, gl_wn, gl_wb, gl_wy, gn_ww, gn_wk, gn_wa, gn_wp, gn_wc, gn_wl, gn_wn, gn_wb, gn_wy, gb_ww, gb_wk, gb_wa, gb_wp, gb_wc, gb_wl, gb_wn, gb_wb, gb_wy, gy_ww, gy_wk, gy_wa, gy_wp, gy_wc, gy_wl, gy_wn, gy_wb, gy_wy]
  by_cases h6 : j = o + 6
  · subst h6; simp [mx_up, va_up, putF, cF, gw_ww, gw_wk, gw_wa, gw_wp, gw_wc, gw_wl, gw_wn, gw_wb, gw_wy, gk_ww, gk_wk, gk_wa, gk_wp, gk_wc, gk_wl, gk_wn, gk_wb, gk_wy, ga_ww, ga_wk, ga_wa, ga_wp, ga_wc, ga_wl, ga_wn, ga_wb, ga_wy, gp_ww, gp_wk, gp_wa, gp_wp, gp_wc, gp_wl, gp_wn, gp_wb, gp_wy, gc_ww, gc_wk, gc_wa, gc_wp, gc_wc, gc_wl, gc_wn, gc_wb, gc_wy, gl_ww, gl_wk, gl_wa, gl_wp, gl_wc, gl_wl, gl_wn, gl_wb, gl_wy, gn_ww, gn_wk, gn_wa, gn_wp, gn_wc, gn_wl, gn_wn, gn_wb, gn_wy, gb_ww, gb_wk, gb_wa, gb_wp, gb_wc, gb_wl, gb_wn, gb_wb, gb_wy, gy_ww, gy_wk, gy_wa, gy_wp, gy_wc, gy_wl, gy_wn, gy_wb, gy_wy]
  simp only [mx_up, va_up, putF, h0, h1, h2, h3, h4, h5, h6, if_false]
theorem uF_k {v : Nat → Int32} : mx_up (putF g o F) (o + 2) (cI 8 v) = putF g o (wk F v) := by
  refine Prod.ext (funext fun j => ?_) rfl
  by_cases h0 : j = o
  · subst h0; simp [mx_up, va_up, putF, cF, gw_ww, gw_wk, gw_wa, gw_wp, gw_wc, gw_wl, gw_wn, gw_wb, gw_wy, gk_ww, gk_wk, gk_wa, gk_wp, gk_wc, gk_wl, gk_wn, gk_wb, gk_wy, ga_ww, ga_wk, ga_wa, ga_wp, ga_wc, ga_wl, ga_wn, ga_wb, ga_wy, gp_ww, gp_wk, gp_wa, gp_wp, gp_wc, gp_wl, gp_wn, gp_wb, gp_wy, gc_ww, gc_wk, gc_wa, gc_wp, gc_wc, gc_wl, gc_wn, gc_wb, gc_wy, gl_ww, gl_wk, gl_wa, gl_wp, gl_wc, gl_wl, gl_wn, gl_wb, gl_wy, gn_ww, gn_wk, gn_wa, gn_wp, gn_wc, gn_wl, gn_wn, gn_wb, gn_wy, gb_ww, gb_wk, gb_wa, gb_wp, gb_wc, gb_wl, gb_wn, gb_wb, gb_wy, gy_ww, gy_wk, gy_wa, gy_wp, gy_wc, gy_wl, gy_wn, gy_wb, gy_wy]
  by_cases h1 : j = o + 1
  · subst h1; simp [mx_up, va_up, putF, cF, gw_ww, gw_wk, gw_wa, gw_wp, gw_wc, gw_wl, gw_wn, gw_wb, gw_wy, gk_ww, gk_wk, gk_wa, gk_wp, gk_wc, gk_wl, gk_wn, gk_wb, gk_wy, ga_ww, ga_wk, ga_wa, ga_wp, ga_wc, ga_wl, ga_wn, ga_wb, ga_wy, gp_ww, gp_wk, gp_wa, gp_wp, gp_wc, gp_wl, gp_wn, gp_wb, gp_wy, gc_ww, gc_wk, gc_wa, gc_wp, gc_wc, gc_wl, gc_wn, gc_wb, gc_wy, gl_ww, gl_wk, gl_wa, gl_wp, gl_wc, gl_wl, gl_wn, gl_wb, gl_wy, gn_ww, gn_wk, gn_wa, gn_wp, gn_wc, gn_wl, gn_wn, gn_wb, gn_wy, gb_ww, gb_wk, gb_wa, gb_wp, gb_wc, gb_wl, gb_wn, gb_wb, gb_wy, gy_ww, gy_wk, gy_wa, gy_wp, gy_wc, gy_wl, gy_wn, gy_wb, gy_wy]
  by_cases h2 : j = o + 2
  · subst h2; simp [mx_up, va_up, putF, cF, gw_ww, gw_wk, gw_wa, gw_wp, gw_wc, gw_wl, gw_wn, gw_wb, gw_wy, gk_ww, gk_wk, gk_wa, gk_wp, gk_wc, gk_wl, gk_wn, gk_wb, gk_wy, ga_ww, ga_wk, ga_wa, ga_wp, ga_wc, ga_wl, ga_wn, ga_wb, ga_wy, gp_ww, gp_wk, gp_wa, gp_wp, gp_wc, gp_wl, gp_wn, gp_wb, gp_wy, gc_ww, gc_wk, gc_wa, gc_wp, gc_wc, gc_wl, gc_wn, gc_wb, gc_wy, gl_ww, gl_wk, gl_wa, gl_wp, gl_wc, gl_wl, gl_wn, gl_wb, gl_wy, gn_ww, gn_wk, gn_wa, gn_wp, gn_wc, gn_wl, gn_wn, gn_wb, gn_wy, gb_ww, gb_wk, gb_wa, gb_wp, gb_wc, gb_wl, gb_wn, gb_wb, gb_wy, gy_ww, gy_wk, gy_wa, gy_wp, gy_wc, gy_wl, gy_wn, gy_wb, gy_wy]
  by_cases h3 : j = o + 3
  · subst h3; simp [mx_up, va_up, putF, cF, gw_ww, gw_wk, gw_wa, gw_wp, gw_wc, gw_wl, gw_wn, gw_wb, gw_wy, gk_ww, gk_wk, gk_wa, gk_wp, gk_wc, gk_wl, gk_wn, gk_wb, gk_wy, ga_ww, ga_wk, ga_wa, ga_wp, ga_wc, ga_wl, ga_wn, ga_wb, ga_wy, gp_ww, gp_wk, gp_wa, gp_wp, gp_wc, gp_wl, gp_wn, gp_wb, gp_wy, gc_ww, gc_wk, gc_wa, gc_wp, gc_wc, gc_wl, gc_wn, gc_wb, gc_wy, gl_ww, gl_wk, gl_wa, gl_wp, gl_wc, gl_wl, gl_wn, gl_wb, gl_wy, gn_ww, gn_wk, gn_wa, gn_wp, gn_wc, gn_wl, gn_wn, gn_wb, gn_wy, gb_ww, gb_wk, gb_wa, gb_wp, gb_wc, gb_wl, gb_wn, gb_wb, gb_wy, gy_ww, gy_wk, gy_wa, gy_wp, gy_wc, gy_wl, gy_wn, gy_wb, gy_wy]
  by_cases h4 : j = o + 4
  · subst h4; simp [mx_up, va_up, putF, cF, gw_ww, gw_wk, gw_wa, gw_wp, gw_wc, gw_wl, gw_wn, gw_wb, gw_wy, gk_ww, gk_wk, gk_wa, gk_wp, gk_wc, gk_wl, gk_wn, gk_wb, gk_wy, ga_ww, ga_wk, ga_wa, ga_wp, ga_wc, ga_wl, ga_wn, ga_wb, ga_wy, gp_ww, gp_wk, gp_wa, gp_wp, gp_wc, gp_wl, gp_wn, gp_wb, gp_wy, gc_ww, gc_wk, gc_wa, gc_wp, gc_wc, gc_wl, gc_wn, gc_wb, gc_wy, gl_ww, gl_wk, gl_wa, gl_wp, gl_wc, gl_wl, gl_wn, gl_wb, gl_wy, gn_ww, gn_wk, gn_wa, gn_wp, gn_wc, gn_wl, gn_wn, gn_wb, gn_wy, gb_ww, gb_wk, gb_wa, gb_wp, gb_wc, gb_wl, gb_wn, gb_wb, gb_wy, gy_ww, gy_wk, gy_wa, gy_wp, gy_wc, gy_wl, gy_wn, gy_wb, gy_wy]
  by_cases h5 : j = o + 5
  · subst h5; simp [mx_up, va_up, putF, cF, gw_ww, gw_wk, gw_wa, gw_wp, gw_wc, gw_wl, gw_wn, gw_wb, gw_wy, gk_ww, gk_wk, gk_wa, gk_wp, gk_wc, gk_wl, gk_wn, gk_wb, gk_wy, ga_ww, ga_wk, ga_wa, ga_wp, ga_wc, ga_wl, ga_wn, ga_wb, ga_wy, gp_ww, gp_wk, gp_wa, gp_wp, gp_wc, gp_wl, gp_wn, gp_wb, gp_wy, gc_ww, gc_wk, gc_wa, gc_wp, gc_wc, gc_wl, gc_wn, gc_wb, gc_wy, gl_ww, gl_wk, gl_wa, gl_wp, gl_wc, gl_wl, gl_wn, gl_wb, gl_wy, gn_ww, gn_wk, gn_wa, gn_wp, gn_wc, gn_wl, gn_wn, gn_wb, gn_wy, gb_ww, gb_wk, gb_wa, gb_wp, gb_wc, gb_wl, gb_wn, gb_wb, gb_wy, gy_ww, gy_wk, gy_wa, gy_wp, gy_wc, gy_wl, gy_wn, gy_wb, gy_wy]
  by_cases h6 : j = o + 6
  · subst h6; simp [mx_up, va_up, putF, cF, gw_ww, gw_wk, gw_wa, gw_wp, gw_wc, gw_wl, gw_wn, gw_wb, gw_wy, gk_ww, gk_wk, gk_wa, gk_wp, gk_wc, gk_wl, gk_wn, gk_wb, gk_wy, ga_ww, ga_wk, ga_wa, ga_wp, ga_wc, ga_wl, ga_wn, ga_wb, ga_wy, gp_ww, gp_wk, gp_wa, gp_wp, gp_wc, gp_wl, gp_wn, gp_wb, gp_wy, gc_ww, gc_wk, gc_wa, gc_wp, gc_wc, gc_wl, gc_wn, gc_wb, gc_wy, gl_ww, gl_wk, gl_wa, gl_wp, gl_wc, gl_wl, gl_wn, gl_wb, gl_wy, gn_ww, gn_wk, gn_wa, gn_wp, gn_wc, gn_wl, gn_wn, gn_wb, gn_wy, gb_ww, gb_wk, gb_wa, gb_wp, gb_wc, gb_wl, gb_wn, gb_wb, gb_wy, gy_ww, gy_wk, gy_wa, gy_wp, gy_wc, gy_wl, gy_wn, gy_wb, gy_wy]
  simp only [mx_up, va_up, putF, h0, h1, h2, h3, h4, h5, h6, if_false]
theorem uF_a {v : Nat → Int32} : mx_up (putF g o F) (o + 3) (cI 8 v) = putF g o (wa F v) := by
  refine Prod.ext (funext fun j => ?_) rfl
  by_cases h0 : j = o
  · subst h0; simp [mx_up, va_up, putF, cF, gw_ww, gw_wk, gw_wa, gw_wp, gw_wc, gw_wl, gw_wn, gw_wb, gw_wy, gk_ww, gk_wk, gk_wa, gk_wp, gk_wc, gk_wl, gk_wn, gk_wb, gk_wy, ga_ww, ga_wk, ga_wa, ga_wp, ga_wc, ga_wl, ga_wn, ga_wb, ga_wy, gp_ww, gp_wk, gp_wa, gp_wp, gp_wc, gp_wl, gp_wn, gp_wb, gp_wy, gc_ww, gc_wk, gc_wa, gc_wp, gc_wc, gc_wl, gc_wn, gc_wb, gc_wy, gl_ww, gl_wk, gl_wa, gl_wp, gl_wc, gl_wl, gl_wn, gl_wb, gl_wy, gn_ww, gn_wk, gn_wa, gn_wp, gn_wc, gn_wl, gn_wn, gn_wb, gn_wy, gb_ww, gb_wk, gb_wa, gb_wp, gb_wc, gb_wl, gb_wn, gb_wb, gb_wy, gy_ww, gy_wk, gy_wa, gy_wp, gy_wc, gy_wl, gy_wn, gy_wb, gy_wy]
  by_cases h1 : j = o + 1
  · subst h1; simp [mx_up, va_up, putF, cF, gw_ww, gw_wk, gw_wa, gw_wp, gw_wc, gw_wl, gw_wn, gw_wb, gw_wy, gk_ww, gk_wk, gk_wa, gk_wp, gk_wc, gk_wl, gk_wn, gk_wb, gk_wy, ga_ww, ga_wk, ga_wa, ga_wp, ga_wc, ga_wl, ga_wn, ga_wb, ga_wy, gp_ww, gp_wk, gp_wa, gp_wp, gp_wc, gp_wl, gp_wn, gp_wb, gp_wy, gc_ww, gc_wk, gc_wa, gc_wp, gc_wc, gc_wl, gc_wn, gc_wb, gc_wy, gl_ww, gl_wk, gl_wa, gl_wp, gl_wc, gl_wl, gl_wn, gl_wb, gl_wy, gn_ww, gn_wk, gn_wa, gn_wp, gn_wc, gn_wl, gn_wn, gn_wb, gn_wy, gb_ww, gb_wk, gb_wa, gb_wp, gb_wc, gb_wl, gb_wn, gb_wb, gb_wy, gy_ww, gy_wk, gy_wa, gy_wp, gy_wc, gy_wl, gy_wn, gy_wb, gy_wy]
  by_cases h2 : j = o + 2
  · subst h2; simp [mx_up, va_up, putF, cF, gw_ww, gw_wk, gw_wa, gw_wp, gw_wc, gw_wl, gw_wn, gw_wb, gw_wy, gk_ww, gk_wk, gk_wa, gk_wp, gk_wc, gk_wl, gk_wn, gk_wb, gk_wy, ga_ww, ga_wk, ga_wa, ga_wp, ga_wc, ga_wl, ga_wn, ga_wb, ga_wy, gp_ww, gp_wk, gp_wa, gp_wp, gp_wc, gp_wl, gp_wn, gp_wb, gp_wy, gc_ww, gc_wk, gc_wa, gc_wp, gc_wc, gc_wl, gc_wn, gc_wb, gc_wy, gl_ww, gl_wk, gl_wa, gl_wp, gl_wc, gl_wl, gl_wn, gl_wb, gl_wy, gn_ww, gn_wk, gn_wa, gn_wp, gn_wc, gn_wl, gn_wn, gn_wb, gn_wy, gb_ww, gb_wk, gb_wa, gb_wp, gb_wc, gb_wl, gb_wn, gb_wb, gb_wy, gy_ww, gy_wk, gy_wa, gy_wp, gy_wc, gy_wl, gy_wn, gy_wb, gy_wy]
  by_cases h3 : j = o + 3
  · subst h3; simp [mx_up, va_up, putF, cF, gw_ww, gw_wk, gw_wa, gw_wp, gw_wc, gw_wl, gw_wn, gw_wb, gw_wy, gk_ww, gk_wk, gk_wa, gk_wp, gk_wc, gk_wl, gk_wn, gk_wb, gk_wy, ga_ww, ga_wk, ga_wa, ga_wp, ga_wc, ga_wl, ga_wn, ga_wb, ga_wy, gp_ww, gp_wk, gp_wa, gp_wp, gp_wc, gp_wl, gp_wn, gp_wb, gp_wy, gc_ww, gc_wk, gc_wa, gc_wp, gc_wc, gc_wl, gc_wn, gc_wb, gc_wy, gl_ww, gl_wk, gl_wa, gl_wp, gl_wc, gl_wl, gl_wn, gl_wb, gl_wy, gn_ww, gn_wk, gn_wa, gn_wp, gn_wc, gn_wl, gn_wn, gn_wb, gn_wy, gb_ww, gb_wk, gb_wa, gb_wp, gb_wc, gb_wl, gb_wn, gb_wb, gb_wy, gy_ww, gy_wk, gy_wa, gy_wp, gy_wc, gy_wl, gy_wn, gy_wb, gy_wy]
  by_cases h4 : j = o + 4
  · subst h4; simp [mx_up, va_up, putF, cF, gw_ww, gw_wk, gw_wa, gw_wp, gw_wc, gw_wl, gw_wn, gw_wb, gw_wy, gk_ww, gk_wk, gk_wa, gk_wp, gk_wc, gk_wl, gk_wn, gk_wb, gk_wy, ga_ww, ga_wk, ga_wa, ga_wp, ga_wc, ga_wl, ga_wn, ga_wb, ga_wy, gp_ww, gp_wk, gp_wa, gp_wp, gp_wc, gp_wl, gp_wn, gp_wb, gp_wy, gc_ww, gc_wk, gc_wa, gc_wp, gc_wc, gc_wl, gc_wn, gc_wb, gc_wy, gl_ww, gl_wk, gl_wa, gl_wp, gl_wc, gl_wl, gl_wn, gl_wb, gl_wy, gn_ww, gn_wk, gn_wa, gn_wp, gn_wc, gn_wl, gn_wn, gn_wb, gn_wy, gb_ww, gb_wk, gb_wa, gb_wp, gb_wc, gb_wl, gb_wn, gb_wb, gb_wy, gy_ww, gy_wk, gy_wa, gy_wp, gy_wc, gy_wl, gy_wn, gy_wb, gy_wy]
  by_cases h5 : j = o + 5
  · subst h5; simp [mx_up, va_up, putF, cF, gw_ww, gw_wk, gw_wa, gw_wp, gw_wc, gw_wl, gw_wn, gw_wb, gw_wy, gk_ww, gk_wk, gk_wa, gk_wp, gk_wc, gk_wl, gk_wn, gk_wb, gk_wy, ga_ww, ga_wk, ga_wa, ga_wp, ga_wc, ga_wl, ga_wn, ga_wb, ga_wy, gp_ww, gp_wk, gp_wa, gp_wp, gp_wc, gp_wl, gp_wn, gp_wb, gp_wy, gc_ww, gc_wk, gc_wa, gc_wp, gc_wc, gc_wl, gc_wn, gc_wb, gc_wy, gl_ww, gl_wk, gl_wa, gl_wp, gl_wc, gl_wl, gl_wn, gl_wb, gl_wy, gn_ww, gn_wk, gn_wa, gn_wp, gn_wc, gn_wl, gn_wn, gn_wb, gn_wy, gb_ww, gb_wk, gb_wa, gb_wp, gb_wc, gb_wl, gb_wn, gb_wb, gb_wy, gy_ww, gy_wk, gy_wa, gy_wp, gy_wc, gy_wl, gy_wn, gy_wb, gy_wy]
  by_cases h6 : j = o + 6
  · subst h6; simp [mx_up, va_up, putF, cF, gw_ww, gw_wk, gw_wa, gw_wp, gw_wc, gw_wl, gw_wn, gw_wb, gw_wy, gk_ww, gk_wk, gk_wa, gk_wp, gk_wc, gk_wl, gk_wn, gk_wb, gk_wy, ga_ww, ga_wk, ga_wa, ga_wp, ga_wc, ga_wl, ga_wn, ga_wb, ga_wy, gp_ww, gp_wk, gp_wa, gp_wp, gp_wc, gp_wl, gp_wn, gp_wb, gp_wy, gc_ww, gc_wk, gc_wa, gc_wp, gc_wc, gc_wl, gc_wn, gc_wb, gc_wy, gl_ww, gl_wk, gl_wa, gl_wp, gl_wc, gl_wl, gl_wn, gl_wb, gl_wy, gn_ww, gn_wk, gn_wa, gn_wp, gn_wc, gn_wl, gn_wn, gn_wb, gn_wy, gb_ww, gb_wk, gb_wa, gb_wp, gb_wc, gb_wl, gb_wn, gb_wb, gb_wy, gy_ww, gy_wk, gy_wa, gy_wp, gy_wc, gy_wl, gy_wn, gy_wb, gy_wy]
  simp only [mx_up, va_up, putF, h0, h1, h2, h3, h4, h5, h6, if_false]
theorem uF_p {v : Nat → Int32} : mx_up (putF g o F) (o + 4) (cI 8 v) = putF g o (wp F v) := by
  refine Prod.ext (funext fun j => ?_) rfl
  by_cases h0 : j = o
  · subst h0; simp [mx_up, va_up, putF, cF, gw_ww, gw_wk, gw_wa, gw_wp, gw_wc, gw_wl, gw_wn, gw_wb, gw_wy, gk_ww, gk_wk, gk_wa, gk_wp, gk_wc, gk_wl, gk_wn, gk_wb, gk_wy, ga_ww, ga_wk, ga_wa, ga_wp, ga_wc, ga_wl, ga_wn, ga_wb, ga_wy, gp_ww, gp_wk, gp_wa, gp_wp, gp_wc, gp_wl, gp_wn, gp_wb, gp_wy, gc_ww, gc_wk, gc_wa, gc_wp, gc_wc, gc_wl, gc_wn, gc_wb, gc_wy, gl_ww, gl_wk, gl_wa, gl_wp, gl_wc, gl_wl, gl_wn, gl_wb, gl_wy, gn_ww, gn_wk, gn_wa, gn_wp, gn_wc, gn_wl, gn_wn, gn_wb, gn_wy, gb_ww, gb_wk, gb_wa, gb_wp, gb_wc, gb_wl, gb_wn, gb_wb, gb_wy, gy_ww, gy_wk, gy_wa, gy_wp, gy_wc, gy_wl, gy_wn, gy_wb, gy_wy]
  by_cases h1 : j = o + 1
  · subst h1; simp [mx_up, va_up, putF, cF, gw_ww, gw_wk, gw_wa, gw_wp, gw_wc, gw_wl, gw_wn, gw_wb, gw_wy, gk_ww, gk_wk, gk_wa, gk_wp, gk_wc, gk_wl, gk_wn, gk_wb, gk_wy, ga_ww, ga_wk, ga_wa, ga_wp, ga_wc, ga_wl, ga_wn, ga_wb, ga_wy, gp_ww, gp_wk, gp_wa, gp_wp, gp_wc, gp_wl, gp_wn, gp_wb, gp_wy, gc_ww, gc_wk, gc_wa, gc_wp, gc_wc, gc_wl, gc_wn, gc_wb, gc_wy, gl_ww, gl_wk, gl_wa, gl_wp, gl_wc, gl_wl, gl_wn, gl_wb, gl_wy, gn_ww, gn_wk, gn_wa, gn_wp, gn_wc, gn_wl, gn_wn, gn_wb, gn_wy, gb_ww, gb_wk, gb_wa, gb_wp, gb_wc, gb_wl, gb_wn, gb_wb, gb_wy, gy_ww, gy_wk, gy_wa, gy_wp, gy_wc, gy_wl, gy_wn, gy_wb, gy_wy]
  by_cases h2 : j = o + 2
  · subst h2; simp [mx_up, va_up, putF, cF, gw_ww, gw_wk, gw_wa, gw_wp, gw_wc, gw_wl, gw_wn, gw_wb, gw_wy, gk_ww, gk_wk, gk_wa, gk_wp, gk_wc, gk_wl, gk_wn, gk_wb, gk_wy, ga_ww, ga_wk, ga_wa, ga_wp, ga_wc, ga_wl, ga_wn, ga_wb, ga_wy, gp_ww, gp_wk, gp_wa, gp_wp, gp_wc, gp_wl, gp_wn, gp_wb, gp_wy, gc_ww, gc_wk, gc_wa, gc_wp, gc_wc, gc_wl, gc_wn, gc_wb, gc_wy, gl_ww, gl_wk, gl_wa, gl_wp, gl_wc, gl_wl, gl_wn, gl_wb, gl_wy, gn_ww, gn_wk, gn_wa, gn_wp, gn_wc, gn_wl, gn_wn, gn_wb, gn_wy, gb_ww, gb_wk, gb_wa, gb_wp, gb_wc, gb_wl, gb_wn, gb_wb, gb_wy, gy_ww, gy_wk, gy_wa, gy_wp, gy_wc, gy_wl, gy_wn, gy_wb, gy_wy]
  by_cases h3 : j = o + 3
  · subst h3; simp [mx_up, va_up, putF, cF, gw_ww, gw_wk, gw_wa, gw_wp, gw_wc, gw_wl, gw_wn, gw_wb, gw_wy, gk_ww, gk_wk, gk_wa, gk_wp, gk_wc, gk_wl, gk_wn, gk_wb, gk_wy, ga_ww, ga_wk, ga_wa, ga_wp, ga_wc, ga_wl, ga_wn, ga_wb, ga_wy, gp_ww, gp_wk, gp_wa, gp_wp, gp_wc, gp_wl, gp_wn, gp_wb, gp_wy, gc_ww, gc_wk, gc_wa, gc_wp, gc_wc, gc_wl, gc_wn, gc_wb, gc_wy, gl_ww, gl_wk, gl_wa, gl_wp, gl_wc, gl_wl, gl_wn, gl_wb, gl_wy, gn_ww, gn_wk, gn_wa, gn_wp, gn_wc, gn_wl, gn_wn, gn_wb, gn_wy, gb_ww, gb_wk, gb_wa, gb_wp, gb_wc, gb_wl, gb_wn, gb_wb, gb_wy, gy_ww, gy_wk, gy_wa, gy_wp, gy_wc, gy_wl, gy_wn, gy_wb, gy_wy]
  by_cases h4 : j = o + 4
  · subst h4; simp [mx_up, va_up, putF, cF, gw_ww, gw_wk, gw_wa, gw_wp, gw_wc, gw_wl, gw_wn, gw_wb, gw_wy, gk_ww, gk_wk, gk_wa, gk_wp, gk_wc, gk_wl, gk_wn, gk_wb, gk_wy, ga_ww, ga_wk, ga_wa, ga_wp, ga_wc, ga_wl, ga_wn, ga_wb, ga_wy, gp_ww, gp_wk, gp_wa, gp_wp, gp_wc, gp_wl, gp_wn, gp_wb, gp_wy, gc_ww, gc_wk, gc_wa, gc_wp, gc_wc, gc_wl, gc_wn, gc_wb, gc_wy, gl_ww, gl_wk, gl_wa, gl_wp, gl_wc, gl_wl, gl_wn, gl_wb, gl_wy, gn_ww, gn_wk, gn_wa, gn_wp, gn_wc, gn_wl, gn_wn, gn_wb, gn_wy, gb_ww, gb_wk, gb_wa, gb_wp, gb_wc, gb_wl, gb_wn, gb_wb, gb_wy, gy_ww, gy_wk, gy_wa, gy_wp, gy_wc, gy_wl, gy_wn, gy_wb, gy_wy]
  by_cases h5 : j = o + 5
  · subst h5; simp [mx_up, va_up, putF, cF, gw_ww, gw_wk, gw_wa, gw_wp, gw_wc, gw_wl, gw_wn, gw_wb, gw_wy, gk_ww, gk_wk, gk_wa, gk_wp, gk_wc, gk_wl, gk_wn, gk_wb, gk_wy, ga_ww, ga_wk, ga_wa, ga_wp, ga_wc, ga_wl, ga_wn, ga_wb, ga_wy, gp_ww, gp_wk, gp_wa, gp_wp, gp_wc, gp_wl, gp_wn, gp_wb, gp_wy, gc_ww, gc_wk, gc_wa, gc_wp, gc_wc, gc_wl, gc_wn, gc_wb, gc_wy, gl_ww, gl_wk, gl_wa, gl_wp, gl_wc, gl_wl, gl_wn, gl_wb, gl_wy, gn_ww, gn_wk, gn_wa, gn_wp, gn_wc, gn_wl, gn_wn, gn_wb, gn_wy, gb_ww, gb_wk, gb_wa, gb_wp, gb_wc, gb_wl, gb_wn, gb_wb, gb_wy, gy_ww, gy_wk, gy_wa, gy_wp, gy_wc, gy_wl, gy_wn, gy_wb, gy_wy]
  by_cases h6 : j = o + 6
  · subst h6; simp [mx_up, va_up, putF, cF, gw_ww, gw_wk, gw_wa, gw_wp, gw_wc, gw_wl, gw_wn, gw_wb, gw_wy, gk_ww, gk_wk, gk_wa, gk_wp, gk_wc, gk_wl, gk_wn, gk_wb, gk_wy, ga_ww, ga_wk, ga_wa, ga_wp, ga_wc, ga_wl, ga_wn, ga_wb, ga_wy, gp_ww, gp_wk, gp_wa, gp_wp, gp_wc, gp_wl, gp_wn, gp_wb, gp_wy, gc_ww, gc_wk, gc_wa, gc_wp, gc_wc, gc_wl, gc_wn, gc_wb, gc_wy, gl_ww, gl_wk, gl_wa, gl_wp, gl_wc, gl_wl, gl_wn, gl_wb, gl_wy, gn_ww, gn_wk, gn_wa, gn_wp, gn_wc, gn_wl, gn_wn, gn_wb, gn_wy, gb_ww, gb_wk, gb_wa, gb_wp, gb_wc, gb_wl, gb_wn, gb_wb, gb_wy, gy_ww, gy_wk, gy_wa, gy_wp, gy_wc, gy_wl, gy_wn, gy_wb, gy_wy]
  simp only [mx_up, va_up, putF, h0, h1, h2, h3, h4, h5, h6, if_false]
theorem uF_c {v : Nat → Int32} : mx_up (putF g o F) (o + 5) (cI 8 v) = putF g o (wc F v) := by
  refine Prod.ext (funext fun j => ?_) rfl
  by_cases h0 : j = o
  · subst h0; simp [mx_up, va_up, putF, cF, gw_ww, gw_wk, gw_wa, gw_wp, gw_wc, gw_wl, gw_wn, gw_wb, gw_wy, gk_ww, gk_wk, gk_wa, gk_wp, gk_wc, gk_wl, gk_wn, gk_wb, gk_wy, ga_ww, ga_wk, ga_wa, ga_wp, ga_wc, ga_wl, ga_wn, ga_wb, ga_wy, gp_ww, gp_wk, gp_wa, gp_wp, gp_wc, gp_wl, gp_wn, gp_wb, gp_wy, gc_ww, gc_wk, gc_wa, gc_wp, gc_wc, gc_wl, gc_wn, gc_wb, gc_wy, gl_ww, gl_wk, gl_wa, gl_wp, gl_wc, gl_wl, gl_wn, gl_wb, gl_wy, gn_ww, gn_wk, gn_wa, gn_wp, gn_wc, gn_wl, gn_wn, gn_wb, gn_wy, gb_ww, gb_wk, gb_wa, gb_wp, gb_wc, gb_wl, gb_wn, gb_wb, gb_wy, gy_ww, gy_wk, gy_wa, gy_wp, gy_wc, gy_wl, gy_wn, gy_wb, gy_wy]
  by_cases h1 : j = o + 1
  · subst h1; simp [mx_up, va_up, putF, cF, gw_ww, gw_wk, gw_wa, gw_wp, gw_wc, gw_wl, gw_wn, gw_wb, gw_wy, gk_ww, gk_wk, gk_wa, gk_wp, gk_wc, gk_wl, gk_wn, gk_wb, gk_wy, ga_ww, ga_wk, ga_wa, ga_wp, ga_wc, ga_wl, ga_wn, ga_wb, ga_wy, gp_ww, gp_wk, gp_wa, gp_wp, gp_wc, gp_wl, gp_wn, gp_wb, gp_wy, gc_ww, gc_wk, gc_wa, gc_wp, gc_wc, gc_wl, gc_wn, gc_wb, gc_wy, gl_ww, gl_wk, gl_wa, gl_wp, gl_wc, gl_wl, gl_wn, gl_wb, gl_wy, gn_ww, gn_wk, gn_wa, gn_wp, gn_wc, gn_wl, gn_wn, gn_wb, gn_wy, gb_ww, gb_wk, gb_wa, gb_wp, gb_wc, gb_wl, gb_wn, gb_wb, gb_wy, gy_ww, gy_wk, gy_wa, gy_wp, gy_wc, gy_wl, gy_wn, gy_wb, gy_wy]
  by_cases h2 : j = o + 2
  · subst h2; simp [mx_up, va_up, putF, cF, gw_ww, gw_wk, gw_wa, gw_wp, gw_wc, gw_wl, gw_wn, gw_wb, gw_wy, gk_ww, gk_wk, gk_wa, gk_wp, gk_wc, gk_wl, gk_wn, gk_wb, gk_wy, ga_ww, ga_wk, ga_wa, ga_wp, ga_wc, ga_wl, ga_wn, ga_wb, ga_wy, gp_ww, gp_wk, gp_wa, gp_wp, gp_wc, gp_wl, gp_wn, gp_wb, gp_wy, gc_ww, gc_wk, gc_wa, gc_wp, gc_wc, gc_wl, gc_wn, gc_wb, gc_wy, gl_ww, gl_wk, gl_wa, gl_wp, gl_wc, gl_wl, gl_wn, gl_wb, gl_wy, gn_ww, gn_wk, gn_wa, gn_wp, gn_wc, gn_wl, gn_wn, gn_wb, gn_wy, gb_ww, gb_wk, gb_wa, gb_wp, gb_wc, gb_wl, gb_wn, gb_wb, gb_wy, gy_ww, gy_wk, gy_wa, gy_wp, gy_wc, gy_wl, gy_wn, gy_wb, gy_wy]
  by_cases h3 : j = o + 3
  · subst h3; simp [mx_up, va_up, putF, cF, gw_ww, gw_wk, gw_wa, gw_wp, gw_wc, gw_wl, gw_wn, gw_wb, gw_wy, gk_ww, gk_wk, gk_wa, gk_wp, gk_wc, gk_wl, gk_wn, gk_wb, gk_wy, ga_ww, ga_wk, ga_wa, ga_wp, ga_wc, ga_wl, ga_wn, ga_wb, ga_wy, gp_ww, gp_wk, gp_wa, gp_wp, gp_wc, gp_wl, gp_wn, gp_wb, gp_wy, gc_ww, gc_wk, gc_wa, gc_wp, gc_wc, gc_wl, gc_wn, gc_wb, gc_wy, gl_ww, gl_wk, gl_wa, gl_wp, gl_wc, gl_wl, gl_wn, gl_wb, gl_wy, gn_ww, gn_wk, gn_wa, gn_wp, gn_wc, gn_wl, gn_wn, gn_wb, gn_wy, gb_ww, gb_wk, gb_wa, gb_wp, gb_wc, gb_wl, gb_wn, gb_wb, gb_wy, gy_ww, gy_wk, gy_wa, gy_wp, gy_wc, gy_wl, gy_wn, gy_wb, gy_wy]
  by_cases h4 : j = o + 4
  · subst h4; simp [mx_up, va_up, putF, cF, gw_ww, gw_wk, gw_wa, gw_wp, gw_wc, gw_wl, gw_wn, gw_wb, gw_wy, gk_ww, gk_wk, gk_wa, gk_wp, gk_wc, gk_wl, gk_wn, gk_wb, gk_wy, ga_ww, ga_wk, ga_wa, ga_wp, ga_wc, ga_wl, ga_wn, ga_wb, ga_wy, gp_ww, gp_wk, gp_wa, gp_wp, gp_wc, gp_wl, gp_wn, gp_wb, gp_wy, gc_ww, gc_wk, gc_wa, gc_wp, gc_wc, gc_wl, gc_wn, gc_wb, gc_wy, gl_ww, gl_wk, gl_wa, gl_wp, gl_wc, gl_wl, gl_wn, gl_wb, gl_wy, gn_ww, gn_wk, gn_wa, gn_wp, gn_wc, gn_wl, gn_wn, gn_wb, gn_wy, gb_ww, gb_wk, gb_wa, gb_wp, gb_wc, gb_wl, gb_wn, gb_wb, gb_wy, gy_ww, gy_wk, gy_wa, gy_wp, gy_wc, gy_wl, gy_wn, gy_wb, gy_wy]
  by_cases h5 : j = o + 5
  · subst h5; simp [mx_up, va_up, putF, cF, gw_ww, gw_wk, gw_wa, gw_wp, gw_wc, gw_wl, gw_wn, gw_wb, gw_wy, gk_ww, gk_wk, gk_wa, gk_wp, gk_wc, gk_wl, gk_wn, gk_wb, gk_wy, ga_ww, ga_wk, ga_wa, ga_wp, ga_wc, ga_wl, ga_wn, ga_wb, ga_wy, gp_ww, gp_wk, gp_wa, gp_wp, gp_wc, gp_wl, gp_wn, gp_wb, gp_wy, gc_ww, gc_wk, gc_wa, gc_wp, gc_wc, gc_wl, gc_wn, gc_wb, gc_wy, gl_ww, gl_wk, gl_wa, gl_wp, gl_wc, gl_wl, gl_wn, gl_wb, gl_wy, gn_ww, gn_wk, gn_wa, gn_wp, gn_wc, gn_wl, gn_wn, gn_wb, gn_wy, gb_ww, gb_wk, gb_wa, gb_wp, gb_wc, gb_wl, gb_wn, gb_wb, gb_wy, gy_ww, gy_wk, gy_wa, gy_wp, gy_wc, gy_wl, gy_wn, gy_wb, gy_wy]
  by_cases h6 : j = o + 6
  · subst h6; simp [mx_up, va_up, putF, cF, gw_ww, gw_wk, gw_wa, gw_wp, gw_wc, gw_wl, gw_wn, gw_wb, gw_wy, gk_ww, gk_wk, gk_wa, gk_wp, gk_wc, gk_wl, gk_wn, gk_wb, gk_wy, ga_ww, ga_wk, ga_wa, ga_wp, ga_wc, ga_wl, ga_wn, ga_wb, ga_wy, gp_ww, gp_wk, gp_wa, gp_wp, gp_wc, gp_wl, gp_wn, gp_wb, gp_wy, gc_ww, gc_wk, gc_wa, gc_wp, gc_wc, gc_wl, gc_wn, gc_wb, gc_wy, gl_ww, gl_wk, gl_wa, gl_wp, gl_wc, gl_wl, gl_wn, gl_wb, gl_wy, gn_ww, gn_wk, gn_wa, gn_wp, gn_wc, gn_wl, gn_wn, gn_wb, gn_wy, gb_ww, gb_wk, gb_wa, gb_wp, gb_wc, gb_wl, gb_wn, gb_wb, gb_wy, gy_ww, gy_wk, gy_wa, gy_wp, gy_wc, gy_wl, gy_wn, gy_wb, gy_wy]
  simp only [mx_up, va_up, putF, h0, h1, h2, h3, h4, h5, h6, if_false]
theorem uF_l {v : Nat → Int32} : mx_up (putF g o F) (o + 6) (cI 8 v) = putF g o (wl F v) := by
  refine Prod.ext (funext fun j => ?_) rfl
  by_cases h0 : j = o
  · subst h0; simp [mx_up, va_up, putF, cF, gw_ww, gw_wk, gw_wa, gw_wp, gw_wc, gw_wl, gw_wn, gw_wb, gw_wy, gk_ww, gk_wk, gk_wa, gk_wp, gk_wc, gk_wl, gk_wn, gk_wb, gk_wy, ga_ww, ga_wk, ga_wa, ga_wp, ga_wc, ga_wl, ga_wn, ga_wb, ga_wy, gp_ww, gp_wk, gp_wa, gp_wp, gp_wc, gp_wl, gp_wn, gp_wb, gp_wy, gc_ww, gc_wk, gc_wa, gc_wp, gc_wc, gc_wl, gc_wn, gc_wb, gc_wy, gl_ww, gl_wk, gl_wa, gl_wp, gl_wc, gl_wl, gl_wn, gl_wb, gl_wy, gn_ww, gn_wk, gn_wa, gn_wp, gn_wc, gn_wl, gn_wn, gn_wb, gn_wy, gb_ww, gb_wk, gb_wa, gb_wp, gb_wc, gb_wl, gb_wn, gb_wb, gb_wy, gy_ww, gy_wk, gy_wa, gy_wp, gy_wc, gy_wl, gy_wn, gy_wb, gy_wy]
  by_cases h1 : j = o + 1
  · subst h1; simp [mx_up, va_up, putF, cF, gw_ww, gw_wk, gw_wa, gw_wp, gw_wc, gw_wl, gw_wn, gw_wb, gw_wy, gk_ww, gk_wk, gk_wa, gk_wp, gk_wc, gk_wl, gk_wn, gk_wb, gk_wy, ga_ww, ga_wk, ga_wa, ga_wp, ga_wc, ga_wl, ga_wn, ga_wb, ga_wy, gp_ww, gp_wk, gp_wa, gp_wp, gp_wc, gp_wl, gp_wn, gp_wb, gp_wy, gc_ww, gc_wk, gc_wa, gc_wp, gc_wc, gc_wl, gc_wn, gc_wb, gc_wy, gl_ww, gl_wk, gl_wa, gl_wp, gl_wc, gl_wl, gl_wn, gl_wb, gl_wy, gn_ww, gn_wk, gn_wa, gn_wp, gn_wc, gn_wl, gn_wn, gn_wb, gn_wy, gb_ww, gb_wk, gb_wa, gb_wp, gb_wc, gb_wl, gb_wn, gb_wb, gb_wy, gy_ww, gy_wk, gy_wa, gy_wp, gy_wc, gy_wl, gy_wn, gy_wb, gy_wy]
  by_cases h2 : j = o + 2
  · subst h2; simp [mx_up, va_up, putF, cF, gw_ww, gw_wk, gw_wa, gw_wp, gw_wc, gw_wl, gw_wn, gw_wb, gw_wy, gk_ww, gk_wk, gk_wa, gk_wp, gk_wc, gk_wl, gk_wn, gk_wb, gk_wy, ga_ww, ga_wk, ga_wa, ga_wp, ga_wc, ga_wl, ga_wn, ga_wb, ga_wy, gp_ww, gp_wk, gp_wa, gp_wp, gp_wc, gp_wl, gp_wn, gp_wb, gp_wy, gc_ww, gc_wk, gc_wa, gc_wp, gc_wc, gc_wl, gc_wn, gc_wb, gc_wy, gl_ww, gl_wk, gl_wa, gl_wp, gl_wc, gl_wl, gl_wn, gl_wb, gl_wy, gn_ww, gn_wk, gn_wa, gn_wp, gn_wc, gn_wl, gn_wn, gn_wb, gn_wy, gb_ww, gb_wk, gb_wa, gb_wp, gb_wc, gb_wl, gb_wn, gb_wb, gb_wy, gy_ww, gy_wk, gy_wa, gy_wp, gy_wc, gy_wl, gy_wn, gy_wb, gy_wy]
  by_cases h3 : j = o + 3
  · subst h3; simp [mx_up, va_up, putF, cF, gw_ww, gw_wk, gw_wa, gw_wp, gw_wc, gw_wl, gw_wn, gw_wb, gw_wy, gk_ww, gk_wk, gk_wa, gk_wp, gk_wc, gk_wl, gk_wn, gk_wb, gk_wy, ga_ww, ga_wk, ga_wa, ga_wp, ga_wc, ga_wl, ga_wn, ga_wb, ga_wy, gp_ww, gp_wk, gp_wa, gp_wp, gp_wc, gp_wl, gp_wn, gp_wb, gp_wy, gc_ww, gc_wk, gc_wa, gc_wp, gc_wc, gc_wl, gc_wn, gc_wb, gc_wy, gl_ww, gl_wk, gl_wa, gl_wp, gl_wc, gl_wl, gl_wn, gl_wb, gl_wy, gn_ww, gn_wk, gn_wa, gn_wp, gn_wc, gn_wl, gn_wn, gn_wb, gn_wy, gb_ww, gb_wk, gb_wa, gb_wp, gb_wc, gb_wl, gb_wn, gb_wb, gb_wy, gy_ww, gy_wk, gy_wa, gy_wp, gy_wc, gy_wl, gy_wn, gy_wb, gy_wy]
  by_cases h4 : j = o + 4
  · subst h4; simp [mx_up, va_up, putF, cF, gw_ww, gw_wk, gw_wa, gw_wp, gw_wc, gw_wl, gw_wn, gw_wb, gw_wy, gk_ww, gk_wk, gk_wa, gk_wp, gk_wc, gk_wl, gk_wn, gk_wb, gk_wy, ga_ww, ga_wk, ga_wa, ga_wp, ga_wc, ga_wl, ga_wn, ga_wb, ga_wy, gp_ww, gp_wk, gp_wa, gp_wp, gp_wc, gp_wl, gp_wn, gp_wb, gp_wy, gc_ww, gc_wk, gc_wa, gc_wp, gc_wc, gc_wl, gc_wn, gc_wb, gc_wy, gl_ww, gl_wk, gl_wa, gl_wp, gl_wc, gl_wl, gl_wn, gl_wb, gl_wy, gn_ww, gn_wk, gn_wa, gn_wp, gn_wc, gn_wl, gn_wn, gn_wb, gn_wy, gb_ww, gb_wk, gb_wa, gb_wp, gb_wc, gb_wl, gb_wn, gb_wb, gb_wy, gy_ww, gy_wk, gy_wa, gy_wp, gy_wc, gy_wl, gy_wn, gy_wb, gy_wy]
  by_cases h5 : j = o + 5
  · subst h5; simp [mx_up, va_up, putF, cF, gw_ww, gw_wk, gw_wa, gw_wp, gw_wc, gw_wl, gw_wn, gw_wb, gw_wy, gk_ww, gk_wk, gk_wa, gk_wp, gk_wc, gk_wl, gk_wn, gk_wb, gk_wy, ga_ww, ga_wk, ga_wa, ga_wp, ga_wc, ga_wl, ga_wn, ga_wb, ga_wy, gp_ww, gp_wk, gp_wa, gp_wp, gp_wc, gp_wl, gp_wn, gp_wb, gp_wy, gc_ww, gc_wk, gc_wa, gc_wp, gc_wc, gc_wl, gc_wn, gc_wb, gc_wy, gl_ww, gl_wk, gl_wa, gl_wp, gl_wc, gl_wl, gl_wn, gl_wb, gl_wy, gn_ww, gn_wk, gn_wa, gn_wp, gn_wc, gn_wl, gn_wn, gn_wb, gn_wy, gb_ww, gb_wk, gb_wa, gb_wp, gb_wc, gb_wl, gb_wn, gb_wb, gb_wy, gy_ww, gy_wk, gy_wa, gy_wp, gy_wc, gy_wl, gy_wn, gy_wb, gy_wy]
  by_cases h6 : j = o + 6
  · subst h6; simp [mx_up, va_up, putF, cF, gw_ww, gw_wk, gw_wa, gw_wp, gw_wc, gw_wl, gw_wn, gw_wb, gw_wy, gk_ww, gk_wk, gk_wa, gk_wp, gk_wc, gk_wl, gk_wn, gk_wb, gk_wy, ga_ww, ga_wk, ga_wa, ga_wp, ga_wc, ga_wl, ga_wn, ga_wb, ga_wy, gp_ww, gp_wk, gp_wa, gp_wp, gp_wc, gp_wl, gp_wn, gp_wb, gp_wy, gc_ww, gc_wk, gc_wa, gc_wp, gc_wc, gc_wl, gc_wn, gc_wb, gc_wy, gl_ww, gl_wk, gl_wa, gl_wp, gl_wc, gl_wl, gl_wn, gl_wb, gl_wy, gn_ww, gn_wk, gn_wa, gn_wp, gn_wc, gn_wl, gn_wn, gn_wb, gn_wy, gb_ww, gb_wk, gb_wa, gb_wp, gb_wc, gb_wl, gb_wn, gb_wb, gb_wy, gy_ww, gy_wk, gy_wa, gy_wp, gy_wc, gy_wl, gy_wn, gy_wb, gy_wy]
  simp only [mx_up, va_up, putF, h0, h1, h2, h3, h4, h5, h6, if_false]
theorem cF_n {v : Int32} : cF o (wn F v) = .inr (1, [.ref 1, .ref (o + 1), .ref (o + 2), .ref (o + 3), .ref (o + 4), .ref (o + 5), .ref (o + 6), .int v, .int (gb F), .int (gy F)]) := rfl
theorem uF_n {v : Int32} : mx_up (putF g o F) o (.inr (1, [.ref 1, .ref (o + 1), .ref (o + 2), .ref (o + 3), .ref (o + 4), .ref (o + 5), .ref (o + 6), .int v, .int (gb F), .int (gy F)])) = putF g o (wn F v) := by
  refine Prod.ext (funext fun j => ?_) rfl
  by_cases h0 : j = o
  · subst h0; simp [mx_up, va_up, putF, cF, gw_ww, gw_wk, gw_wa, gw_wp, gw_wc, gw_wl, gw_wn, gw_wb, gw_wy, gk_ww, gk_wk, gk_wa, gk_wp, gk_wc, gk_wl, gk_wn, gk_wb, gk_wy, ga_ww, ga_wk, ga_wa, ga_wp, ga_wc, ga_wl, ga_wn, ga_wb, ga_wy, gp_ww, gp_wk, gp_wa, gp_wp, gp_wc, gp_wl, gp_wn, gp_wb, gp_wy, gc_ww, gc_wk, gc_wa, gc_wp, gc_wc, gc_wl, gc_wn, gc_wb, gc_wy, gl_ww, gl_wk, gl_wa, gl_wp, gl_wc, gl_wl, gl_wn, gl_wb, gl_wy, gn_ww, gn_wk, gn_wa, gn_wp, gn_wc, gn_wl, gn_wn, gn_wb, gn_wy, gb_ww, gb_wk, gb_wa, gb_wp, gb_wc, gb_wl, gb_wn, gb_wb, gb_wy, gy_ww, gy_wk, gy_wa, gy_wp, gy_wc, gy_wl, gy_wn, gy_wb, gy_wy]
  by_cases h1 : j = o + 1
  · subst h1; simp [mx_up, va_up, putF, cF, gw_ww, gw_wk, gw_wa, gw_wp, gw_wc, gw_wl, gw_wn, gw_wb, gw_wy, gk_ww, gk_wk, gk_wa, gk_wp, gk_wc, gk_wl, gk_wn, gk_wb, gk_wy, ga_ww, ga_wk, ga_wa, ga_wp, ga_wc, ga_wl, ga_wn, ga_wb, ga_wy, gp_ww, gp_wk, gp_wa, gp_wp, gp_wc, gp_wl, gp_wn, gp_wb, gp_wy, gc_ww, gc_wk, gc_wa, gc_wp, gc_wc, gc_wl, gc_wn, gc_wb, gc_wy, gl_ww, gl_wk, gl_wa, gl_wp, gl_wc, gl_wl, gl_wn, gl_wb, gl_wy, gn_ww, gn_wk, gn_wa, gn_wp, gn_wc, gn_wl, gn_wn, gn_wb, gn_wy, gb_ww, gb_wk, gb_wa, gb_wp, gb_wc, gb_wl, gb_wn, gb_wb, gb_wy, gy_ww, gy_wk, gy_wa, gy_wp, gy_wc, gy_wl, gy_wn, gy_wb, gy_wy]
  by_cases h2 : j = o + 2
  · subst h2; simp [mx_up, va_up, putF, cF, gw_ww, gw_wk, gw_wa, gw_wp, gw_wc, gw_wl, gw_wn, gw_wb, gw_wy, gk_ww, gk_wk, gk_wa, gk_wp, gk_wc, gk_wl, gk_wn, gk_wb, gk_wy, ga_ww, ga_wk, ga_wa, ga_wp, ga_wc, ga_wl, ga_wn, ga_wb, ga_wy, gp_ww, gp_wk, gp_wa, gp_wp, gp_wc, gp_wl, gp_wn, gp_wb, gp_wy, gc_ww, gc_wk, gc_wa, gc_wp, gc_wc, gc_wl, gc_wn, gc_wb, gc_wy, gl_ww, gl_wk, gl_wa, gl_wp, gl_wc, gl_wl, gl_wn, gl_wb, gl_wy, gn_ww, gn_wk, gn_wa, gn_wp, gn_wc, gn_wl, gn_wn, gn_wb, gn_wy, gb_ww, gb_wk, gb_wa, gb_wp, gb_wc, gb_wl, gb_wn, gb_wb, gb_wy, gy_ww, gy_wk, gy_wa, gy_wp, gy_wc, gy_wl, gy_wn, gy_wb, gy_wy]
  by_cases h3 : j = o + 3
  · subst h3; simp [mx_up, va_up, putF, cF, gw_ww, gw_wk, gw_wa, gw_wp, gw_wc, gw_wl, gw_wn, gw_wb, gw_wy, gk_ww, gk_wk, gk_wa, gk_wp, gk_wc, gk_wl, gk_wn, gk_wb, gk_wy, ga_ww, ga_wk, ga_wa, ga_wp, ga_wc, ga_wl, ga_wn, ga_wb, ga_wy, gp_ww, gp_wk, gp_wa, gp_wp, gp_wc, gp_wl, gp_wn, gp_wb, gp_wy, gc_ww, gc_wk, gc_wa, gc_wp, gc_wc, gc_wl, gc_wn, gc_wb, gc_wy, gl_ww, gl_wk, gl_wa, gl_wp, gl_wc, gl_wl, gl_wn, gl_wb, gl_wy, gn_ww, gn_wk, gn_wa, gn_wp, gn_wc, gn_wl, gn_wn, gn_wb, gn_wy, gb_ww, gb_wk, gb_wa, gb_wp, gb_wc, gb_wl, gb_wn, gb_wb, gb_wy, gy_ww, gy_wk, gy_wa, gy_wp, gy_wc, gy_wl, gy_wn, gy_wb, gy_wy]
  by_cases h4 : j = o + 4
  · subst h4; simp [mx_up, va_up, putF, cF, gw_ww, gw_wk, gw_wa, gw_wp, gw_wc, gw_wl, gw_wn, gw_wb, gw_wy, gk_ww, gk_wk, gk_wa, gk_wp, gk_wc, gk_wl, gk_wn, gk_wb, gk_wy, ga_ww, ga_wk, ga_wa, ga_wp, ga_wc, ga_wl, ga_wn, ga_wb, ga_wy, gp_ww, gp_wk, gp_wa, gp_wp, gp_wc, gp_wl, gp_wn, gp_wb, gp_wy, gc_ww, gc_wk, gc_wa, gc_wp, gc_wc, gc_wl, gc_wn, gc_wb, gc_wy, gl_ww, gl_wk, gl_wa, gl_wp, gl_wc, gl_wl, gl_wn, gl_wb, gl_wy, gn_ww, gn_wk, gn_wa, gn_wp, gn_wc, gn_wl, gn_wn, gn_wb, gn_wy, gb_ww, gb_wk, gb_wa, gb_wp, gb_wc, gb_wl, gb_wn, gb_wb, gb_wy, gy_ww, gy_wk, gy_wa, gy_wp, gy_wc, gy_wl, gy_wn, gy_wb, gy_wy]
  by_cases h5 : j = o + 5
  · subst h5; simp [mx_up, va_up, putF, cF, gw_ww, gw_wk, gw_wa, gw_wp, gw_wc, gw_wl, gw_wn, gw_wb, gw_wy, gk_ww, gk_wk, gk_wa, gk_wp, gk_wc, gk_wl, gk_wn, gk_wb, gk_wy, ga_ww, ga_wk, ga_wa, ga_wp, ga_wc, ga_wl, ga_wn, ga_wb, ga_wy, gp_ww, gp_wk, gp_wa, gp_wp, gp_wc, gp_wl, gp_wn, gp_wb, gp_wy, gc_ww, gc_wk, gc_wa, gc_wp, gc_wc, gc_wl, gc_wn, gc_wb, gc_wy, gl_ww, gl_wk, gl_wa, gl_wp, gl_wc, gl_wl, gl_wn, gl_wb, gl_wy, gn_ww, gn_wk, gn_wa, gn_wp, gn_wc, gn_wl, gn_wn, gn_wb, gn_wy, gb_ww, gb_wk, gb_wa, gb_wp, gb_wc, gb_wl, gb_wn, gb_wb, gb_wy, gy_ww, gy_wk, gy_wa, gy_wp, gy_wc, gy_wl, gy_wn, gy_wb, gy_wy]
  by_cases h6 : j = o + 6
  · subst h6; simp [mx_up, va_up, putF, cF, gw_ww, gw_wk, gw_wa, gw_wp, gw_wc, gw_wl, gw_wn, gw_wb, gw_wy, gk_ww, gk_wk, gk_wa, gk_wp, gk_wc, gk_wl, gk_wn, gk_wb, gk_wy, ga_ww, ga_wk, ga_wa, ga_wp, ga_wc, ga_wl, ga_wn, ga_wb, ga_wy, gp_ww, gp_wk, gp_wa, gp_wp, gp_wc, gp_wl, gp_wn, gp_wb, gp_wy, gc_ww, gc_wk, gc_wa, gc_wp, gc_wc, gc_wl, gc_wn, gc_wb, gc_wy, gl_ww, gl_wk, gl_wa, gl_wp, gl_wc, gl_wl, gl_wn, gl_wb, gl_wy, gn_ww, gn_wk, gn_wa, gn_wp, gn_wc, gn_wl, gn_wn, gn_wb, gn_wy, gb_ww, gb_wk, gb_wa, gb_wp, gb_wc, gb_wl, gb_wn, gb_wb, gb_wy, gy_ww, gy_wk, gy_wa, gy_wp, gy_wc, gy_wl, gy_wn, gy_wb, gy_wy]
  simp only [mx_up, va_up, putF, h0, h1, h2, h3, h4, h5, h6, if_false]
theorem uF_b {v : Int32} : mx_up (putF g o F) o (.inr (1, [.ref 1, .ref (o + 1), .ref (o + 2), .ref (o + 3), .ref (o + 4), .ref (o + 5), .ref (o + 6), .int (gn F), .int v, .int (gy F)])) = putF g o (wb F v) := by
  refine Prod.ext (funext fun j => ?_) rfl
  by_cases h0 : j = o
  · subst h0; simp [mx_up, va_up, putF, cF, gw_ww, gw_wk, gw_wa, gw_wp, gw_wc, gw_wl, gw_wn, gw_wb, gw_wy, gk_ww, gk_wk, gk_wa, gk_wp, gk_wc, gk_wl, gk_wn, gk_wb, gk_wy, ga_ww, ga_wk, ga_wa, ga_wp, ga_wc, ga_wl, ga_wn, ga_wb, ga_wy, gp_ww, gp_wk, gp_wa, gp_wp, gp_wc, gp_wl, gp_wn, gp_wb, gp_wy, gc_ww, gc_wk, gc_wa, gc_wp, gc_wc, gc_wl, gc_wn, gc_wb, gc_wy, gl_ww, gl_wk, gl_wa, gl_wp, gl_wc, gl_wl, gl_wn, gl_wb, gl_wy, gn_ww, gn_wk, gn_wa, gn_wp, gn_wc, gn_wl, gn_wn, gn_wb, gn_wy, gb_ww, gb_wk, gb_wa, gb_wp, gb_wc, gb_wl, gb_wn, gb_wb, gb_wy, gy_ww, gy_wk, gy_wa, gy_wp, gy_wc, gy_wl, gy_wn, gy_wb, gy_wy]
  by_cases h1 : j = o + 1
  · subst h1; simp [mx_up, va_up, putF, cF, gw_ww, gw_wk, gw_wa, gw_wp, gw_wc, gw_wl, gw_wn, gw_wb, gw_wy, gk_ww, gk_wk, gk_wa, gk_wp, gk_wc, gk_wl, gk_wn, gk_wb, gk_wy, ga_ww, ga_wk, ga_wa, ga_wp, ga_wc, ga_wl, ga_wn, ga_wb, ga_wy, gp_ww, gp_wk, gp_wa, gp_wp, gp_wc, gp_wl, gp_wn, gp_wb, gp_wy, gc_ww, gc_wk, gc_wa, gc_wp, gc_wc, gc_wl, gc_wn, gc_wb, gc_wy, gl_ww, gl_wk, gl_wa, gl_wp, gl_wc, gl_wl, gl_wn, gl_wb, gl_wy, gn_ww, gn_wk, gn_wa, gn_wp, gn_wc, gn_wl, gn_wn, gn_wb, gn_wy, gb_ww, gb_wk, gb_wa, gb_wp, gb_wc, gb_wl, gb_wn, gb_wb, gb_wy, gy_ww, gy_wk, gy_wa, gy_wp, gy_wc, gy_wl, gy_wn, gy_wb, gy_wy]
  by_cases h2 : j = o + 2
  · subst h2; simp [mx_up, va_up, putF, cF, gw_ww, gw_wk, gw_wa, gw_wp, gw_wc, gw_wl, gw_wn, gw_wb, gw_wy, gk_ww, gk_wk, gk_wa, gk_wp, gk_wc, gk_wl, gk_wn, gk_wb, gk_wy, ga_ww, ga_wk, ga_wa, ga_wp, ga_wc, ga_wl, ga_wn, ga_wb, ga_wy, gp_ww, gp_wk, gp_wa, gp_wp, gp_wc, gp_wl, gp_wn, gp_wb, gp_wy, gc_ww, gc_wk, gc_wa, gc_wp, gc_wc, gc_wl, gc_wn, gc_wb, gc_wy, gl_ww, gl_wk, gl_wa, gl_wp, gl_wc, gl_wl, gl_wn, gl_wb, gl_wy, gn_ww, gn_wk, gn_wa, gn_wp, gn_wc, gn_wl, gn_wn, gn_wb, gn_wy, gb_ww, gb_wk, gb_wa, gb_wp, gb_wc, gb_wl, gb_wn, gb_wb, gb_wy, gy_ww, gy_wk, gy_wa, gy_wp, gy_wc, gy_wl, gy_wn, gy_wb, gy_wy]
  by_cases h3 : j = o + 3
  · subst h3; simp [mx_up, va_up, putF, cF, gw_ww, gw_wk, gw_wa, gw_wp, gw_wc, gw_wl, gw_wn, gw_wb, gw_wy, gk_ww, gk_wk, gk_wa, gk_wp, gk_wc, gk_wl, gk_wn, gk_wb, gk_wy, ga_ww, ga_wk, ga_wa, ga_wp, ga_wc, ga_wl, ga_wn, ga_wb, ga_wy, gp_ww, gp_wk, gp_wa, gp_wp, gp_wc, gp_wl, gp_wn, gp_wb, gp_wy, gc_ww, gc_wk, gc_wa, gc_wp, gc_wc, gc_wl, gc_wn, gc_wb, gc_wy, gl_ww, gl_wk, gl_wa, gl_wp, gl_wc, gl_wl, gl_wn, gl_wb, gl_wy, gn_ww, gn_wk, gn_wa, gn_wp, gn_wc, gn_wl, gn_wn, gn_wb, gn_wy, gb_ww, gb_wk, gb_wa, gb_wp, gb_wc, gb_wl, gb_wn, gb_wb, gb_wy, gy_ww, gy_wk, gy_wa, gy_wp, gy_wc, gy_wl, gy_wn, gy_wb, gy_wy]
  by_cases h4 : j = o + 4
  · subst h4; simp [mx_up, va_up, putF, cF, gw_ww, gw_wk, gw_wa, gw_wp, gw_wc, gw_wl, gw_wn, gw_wb, gw_wy, gk_ww, gk_wk, gk_wa, gk_wp, gk_wc, gk_wl, gk_wn, gk_wb, gk_wy, ga_ww, ga_wk, ga_wa, ga_wp, ga_wc, ga_wl, ga_wn, ga_wb, ga_wy, gp_ww, gp_wk, gp_wa, gp_wp, gp_wc, gp_wl, gp_wn, gp_wb, gp_wy, gc_ww, gc_wk, gc_wa, gc_wp, gc_wc, gc_wl, gc_wn, gc_wb, gc_wy, gl_ww, gl_wk, gl_wa, gl_wp, gl_wc, gl_wl, gl_wn, gl_wb, gl_wy, gn_ww, gn_wk, gn_wa, gn_wp, gn_wc, gn_wl, gn_wn, gn_wb, gn_wy, gb_ww, gb_wk, gb_wa, gb_wp, gb_wc, gb_wl, gb_wn, gb_wb, gb_wy, gy_ww, gy_wk, gy_wa, gy_wp, gy_wc, gy_wl, gy_wn, gy_wb, gy_wy]
  by_cases h5 : j = o + 5
  · subst h5; simp [mx_up, va_up, putF, cF, gw_ww, gw_wk, gw_wa, gw_wp, gw_wc, gw_wl, gw_wn, gw_wb, gw_wy, gk_ww, gk_wk, gk_wa, gk_wp, gk_wc, gk_wl, gk_wn, gk_wb, gk_wy, ga_ww, ga_wk, ga_wa, ga_wp, ga_wc, ga_wl, ga_wn, ga_wb, ga_wy, gp_ww, gp_wk, gp_wa, gp_wp, gp_wc, gp_wl, gp_wn, gp_wb, gp_wy, gc_ww, gc_wk, gc_wa, gc_wp, gc_wc, gc_wl, gc_wn, gc_wb, gc_wy, gl_ww, gl_wk, gl_wa, gl_wp, gl_wc, gl_wl, gl_wn, gl_wb, gl_wy, gn_ww, gn_wk, gn_wa, gn_wp, gn_wc, gn_wl, gn_wn, gn_wb, gn_wy, gb_ww, gb_wk, gb_wa, gb_wp, gb_wc, gb_wl, gb_wn, gb_wb, gb_wy, gy_ww, gy_wk, gy_wa, gy_wp, gy_wc, gy_wl, gy_wn, gy_wb, gy_wy]
  by_cases h6 : j = o + 6
  · subst h6; simp [mx_up, va_up, putF, cF, gw_ww, gw_wk, gw_wa, gw_wp, gw_wc, gw_wl, gw_wn, gw_wb, gw_wy, gk_ww, gk_wk, gk_wa, gk_wp, gk_wc, gk_wl, gk_wn, gk_wb, gk_wy, ga_ww, ga_wk, ga_wa, ga_wp, ga_wc, ga_wl, ga_wn, ga_wb, ga_wy, gp_ww, gp_wk, gp_wa, gp_wp, gp_wc, gp_wl, gp_wn, gp_wb, gp_wy, gc_ww, gc_wk, gc_wa, gc_wp, gc_wc, gc_wl, gc_wn, gc_wb, gc_wy, gl_ww, gl_wk, gl_wa, gl_wp, gl_wc, gl_wl, gl_wn, gl_wb, gl_wy, gn_ww, gn_wk, gn_wa, gn_wp, gn_wc, gn_wl, gn_wn, gn_wb, gn_wy, gb_ww, gb_wk, gb_wa, gb_wp, gb_wc, gb_wl, gb_wn, gb_wb, gb_wy, gy_ww, gy_wk, gy_wa, gy_wp, gy_wc, gy_wl, gy_wn, gy_wb, gy_wy]
  simp only [mx_up, va_up, putF, h0, h1, h2, h3, h4, h5, h6, if_false]
theorem uF_y {v : Int32} : mx_up (putF g o F) o (.inr (1, [.ref 1, .ref (o + 1), .ref (o + 2), .ref (o + 3), .ref (o + 4), .ref (o + 5), .ref (o + 6), .int (gn F), .int (gb F), .int v])) = putF g o (wy F v) := by
  refine Prod.ext (funext fun j => ?_) rfl
  by_cases h0 : j = o
  · subst h0; simp [mx_up, va_up, putF, cF, gw_ww, gw_wk, gw_wa, gw_wp, gw_wc, gw_wl, gw_wn, gw_wb, gw_wy, gk_ww, gk_wk, gk_wa, gk_wp, gk_wc, gk_wl, gk_wn, gk_wb, gk_wy, ga_ww, ga_wk, ga_wa, ga_wp, ga_wc, ga_wl, ga_wn, ga_wb, ga_wy, gp_ww, gp_wk, gp_wa, gp_wp, gp_wc, gp_wl, gp_wn, gp_wb, gp_wy, gc_ww, gc_wk, gc_wa, gc_wp, gc_wc, gc_wl, gc_wn, gc_wb, gc_wy, gl_ww, gl_wk, gl_wa, gl_wp, gl_wc, gl_wl, gl_wn, gl_wb, gl_wy, gn_ww, gn_wk, gn_wa, gn_wp, gn_wc, gn_wl, gn_wn, gn_wb, gn_wy, gb_ww, gb_wk, gb_wa, gb_wp, gb_wc, gb_wl, gb_wn, gb_wb, gb_wy, gy_ww, gy_wk, gy_wa, gy_wp, gy_wc, gy_wl, gy_wn, gy_wb, gy_wy]
  by_cases h1 : j = o + 1
  · subst h1; simp [mx_up, va_up, putF, cF, gw_ww, gw_wk, gw_wa, gw_wp, gw_wc, gw_wl, gw_wn, gw_wb, gw_wy, gk_ww, gk_wk, gk_wa, gk_wp, gk_wc, gk_wl, gk_wn, gk_wb, gk_wy, ga_ww, ga_wk, ga_wa, ga_wp, ga_wc, ga_wl, ga_wn, ga_wb, ga_wy, gp_ww, gp_wk, gp_wa, gp_wp, gp_wc, gp_wl, gp_wn, gp_wb, gp_wy, gc_ww, gc_wk, gc_wa, gc_wp, gc_wc, gc_wl, gc_wn, gc_wb, gc_wy, gl_ww, gl_wk, gl_wa, gl_wp, gl_wc, gl_wl, gl_wn, gl_wb, gl_wy, gn_ww, gn_wk, gn_wa, gn_wp, gn_wc, gn_wl, gn_wn, gn_wb, gn_wy, gb_ww, gb_wk, gb_wa, gb_wp, gb_wc, gb_wl, gb_wn, gb_wb, gb_wy, gy_ww, gy_wk, gy_wa, gy_wp, gy_wc, gy_wl, gy_wn, gy_wb, gy_wy]
  by_cases h2 : j = o + 2
  · subst h2; simp [mx_up, va_up, putF, cF, gw_ww, gw_wk, gw_wa, gw_wp, gw_wc, gw_wl, gw_wn, gw_wb, gw_wy, gk_ww, gk_wk, gk_wa, gk_wp, gk_wc, gk_wl, gk_wn, gk_wb, gk_wy, ga_ww, ga_wk, ga_wa, ga_wp, ga_wc, ga_wl, ga_wn, ga_wb, ga_wy, gp_ww, gp_wk, gp_wa, gp_wp, gp_wc, gp_wl, gp_wn, gp_wb, gp_wy, gc_ww, gc_wk, gc_wa, gc_wp, gc_wc, gc_wl, gc_wn, gc_wb, gc_wy, gl_ww, gl_wk, gl_wa, gl_wp, gl_wc, gl_wl, gl_wn, gl_wb, gl_wy, gn_ww, gn_wk, gn_wa, gn_wp, gn_wc, gn_wl, gn_wn, gn_wb, gn_wy, gb_ww, gb_wk, gb_wa, gb_wp, gb_wc, gb_wl, gb_wn, gb_wb, gb_wy, gy_ww, gy_wk, gy_wa, gy_wp, gy_wc, gy_wl, gy_wn, gy_wb, gy_wy]
  by_cases h3 : j = o + 3
  · subst h3; simp [mx_up, va_up, putF, cF, gw_ww, gw_wk, gw_wa, gw_wp, gw_wc, gw_wl, gw_wn, gw_wb, gw_wy, gk_ww, gk_wk, gk_wa, gk_wp, gk_wc, gk_wl, gk_wn, gk_wb, gk_wy, ga_ww, ga_wk, ga_wa, ga_wp, ga_wc, ga_wl, ga_wn, ga_wb, ga_wy, gp_ww, gp_wk, gp_wa, gp_wp, gp_wc, gp_wl, gp_wn, gp_wb, gp_wy, gc_ww, gc_wk, gc_wa, gc_wp, gc_wc, gc_wl, gc_wn, gc_wb, gc_wy, gl_ww, gl_wk, gl_wa, gl_wp, gl_wc, gl_wl, gl_wn, gl_wb, gl_wy, gn_ww, gn_wk, gn_wa, gn_wp, gn_wc, gn_wl, gn_wn, gn_wb, gn_wy, gb_ww, gb_wk, gb_wa, gb_wp, gb_wc, gb_wl, gb_wn, gb_wb, gb_wy, gy_ww, gy_wk, gy_wa, gy_wp, gy_wc, gy_wl, gy_wn, gy_wb, gy_wy]
  by_cases h4 : j = o + 4
  · subst h4; simp [mx_up, va_up, putF, cF, gw_ww, gw_wk, gw_wa, gw_wp, gw_wc, gw_wl, gw_wn, gw_wb, gw_wy, gk_ww, gk_wk, gk_wa, gk_wp, gk_wc, gk_wl, gk_wn, gk_wb, gk_wy, ga_ww, ga_wk, ga_wa, ga_wp, ga_wc, ga_wl, ga_wn, ga_wb, ga_wy, gp_ww, gp_wk, gp_wa, gp_wp, gp_wc, gp_wl, gp_wn, gp_wb, gp_wy, gc_ww, gc_wk, gc_wa, gc_wp, gc_wc, gc_wl, gc_wn, gc_wb, gc_wy, gl_ww, gl_wk, gl_wa, gl_wp, gl_wc, gl_wl, gl_wn, gl_wb, gl_wy, gn_ww, gn_wk, gn_wa, gn_wp, gn_wc, gn_wl, gn_wn, gn_wb, gn_wy, gb_ww, gb_wk, gb_wa, gb_wp, gb_wc, gb_wl, gb_wn, gb_wb, gb_wy, gy_ww, gy_wk, gy_wa, gy_wp, gy_wc, gy_wl, gy_wn, gy_wb, gy_wy]
  by_cases h5 : j = o + 5
  · subst h5; simp [mx_up, va_up, putF, cF, gw_ww, gw_wk, gw_wa, gw_wp, gw_wc, gw_wl, gw_wn, gw_wb, gw_wy, gk_ww, gk_wk, gk_wa, gk_wp, gk_wc, gk_wl, gk_wn, gk_wb, gk_wy, ga_ww, ga_wk, ga_wa, ga_wp, ga_wc, ga_wl, ga_wn, ga_wb, ga_wy, gp_ww, gp_wk, gp_wa, gp_wp, gp_wc, gp_wl, gp_wn, gp_wb, gp_wy, gc_ww, gc_wk, gc_wa, gc_wp, gc_wc, gc_wl, gc_wn, gc_wb, gc_wy, gl_ww, gl_wk, gl_wa, gl_wp, gl_wc, gl_wl, gl_wn, gl_wb, gl_wy, gn_ww, gn_wk, gn_wa, gn_wp, gn_wc, gn_wl, gn_wn, gn_wb, gn_wy, gb_ww, gb_wk, gb_wa, gb_wp, gb_wc, gb_wl, gb_wn, gb_wb, gb_wy, gy_ww, gy_wk, gy_wa, gy_wp, gy_wc, gy_wl, gy_wn, gy_wb, gy_wy]
  by_cases h6 : j = o + 6
  · subst h6; simp [mx_up, va_up, putF, cF, gw_ww, gw_wk, gw_wa, gw_wp, gw_wc, gw_wl, gw_wn, gw_wb, gw_wy, gk_ww, gk_wk, gk_wa, gk_wp, gk_wc, gk_wl, gk_wn, gk_wb, gk_wy, ga_ww, ga_wk, ga_wa, ga_wp, ga_wc, ga_wl, ga_wn, ga_wb, ga_wy, gp_ww, gp_wk, gp_wa, gp_wp, gp_wc, gp_wl, gp_wn, gp_wb, gp_wy, gc_ww, gc_wk, gc_wa, gc_wp, gc_wc, gc_wl, gc_wn, gc_wb, gc_wy, gl_ww, gl_wk, gl_wa, gl_wp, gl_wc, gl_wl, gl_wn, gl_wb, gl_wy, gn_ww, gn_wk, gn_wa, gn_wp, gn_wc, gn_wl, gn_wn, gn_wb, gn_wy, gb_ww, gb_wk, gb_wa, gb_wp, gb_wc, gb_wl, gb_wn, gb_wb, gb_wy, gy_ww, gy_wk, gy_wa, gy_wp, gy_wc, gy_wl, gy_wn, gy_wb, gy_wy]
  simp only [mx_up, va_up, putF, h0, h1, h2, h3, h4, h5, h6, if_false]
end
/-- the model's cell of a family: its row at 43; its object 42 begins with that -/
def RF (g : mx_G) (F : Fam) : mx_G := mx_up g 43 (cI 59 (rowO F))
theorem rF_43 {g : mx_G} {F : Fam} : (RF g F).1 43 = some (cI 59 (rowO F)) := rfl
theorem rF_o {g : mx_G} {F : Fam} {j : Nat} (h : j ≠ 43) : (RF g F).1 j = g.1 j := by show (if j = 43 then _ else _) = _; rw [if_neg h]
theorem rF_up {g : mx_G} {F : Fam} {f : Nat → Int32} {G : Fam} (h : f = rowO G) : mx_up (RF g F) 43 (cI 59 f) = RF g G := by
  subst h
  unfold RF mx_up
  refine Prod.ext (funext fun j => ?_) rfl
  dsimp only
  unfold va_up
  split <;> rfl
