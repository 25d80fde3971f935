/-! a cell of a day -/
theorem zOk_40 {σ : zHp} (h : zOk σ) {i v : Int} (hi : 0 ≤ i ∧ i < 60) (hv : r64 v) : zOk (zput σ 40 i v) := by
  have := zOk_put (o := 40) (i := i.toNat) h (v := v) (by
    have e : zst 40 i.toNat = 1 := by rfl
    rw [e]
    exact hv)
  rw [show ((i.toNat : Nat) : Int) = i by omega] at this
  exact this
section QDAY
variable {L : Nat} {xs : Nat → Int32}
theorem q_lwC7 {υ : zHp} {n C N D k w c S m b a1 a2 : Int} : lc_L_law_7 L xs [0, 0, 37, n, C, N, 38, D, 40, k, w, c, S, m, b, a1, a2] υ = some (decide (b < N), υ) := by
  simp [lc_L_law_7, xC_e, xL_e, xU_e, xB_e, xD_e, xF_e, xG_e, xA_e, xE_e, xH_e, xI_e, xZ_e, xK_e, aN_e, aC_e, cR_e, cV_e, cA_e, cO_e, cN_e, bs_e, bn_e, zg_0, zg_S, sS_e, sX_e, sF_e, sG_e, sA_e, sE_e, sEo_e, sK_e, sQ_e, sI_e, sR_e, sV_e, sB_e, sC_e, sD_e, sN_e, st_0, st_S, zc_0, zc_S, r_eq, r_ne, r_lt, r_le, r_gt, r_ge, rb_ite, rb_0, rb_1]
theorem q_lwC8 {υ : zHp} {n C N D k w c S m b a1 a2 : Int} : lc_L_law_8 L xs [0, 0, 37, n, C, N, 38, D, 40, k, w, c, S, m, b, a1, a2] υ = some (decide (b < N), υ) := by
  simp [lc_L_law_8, xC_e, xL_e, xU_e, xB_e, xD_e, xF_e, xG_e, xA_e, xE_e, xH_e, xI_e, xZ_e, xK_e, aN_e, aC_e, cR_e, cV_e, cA_e, cO_e, cN_e, bs_e, bn_e, zg_0, zg_S, sS_e, sX_e, sF_e, sG_e, sA_e, sE_e, sEo_e, sK_e, sQ_e, sI_e, sR_e, sV_e, sB_e, sC_e, sD_e, sN_e, st_0, st_S, zc_0, zc_S, r_eq, r_ne, r_lt, r_le, r_gt, r_ge, rb_ite, rb_0, rb_1]
theorem q_lwC9 {υ : zHp} {n C N D k w c a1 a2 a3 a4 a5 : Int} : lc_L_law_9 L xs [0, 0, 37, n, C, N, 38, D, 40, k, w, c, a1, a2, a3, a4, a5] υ = some (decide (c < C), υ) := by
  simp [lc_L_law_9, xC_e, xL_e, xU_e, xB_e, xD_e, xF_e, xG_e, xA_e, xE_e, xH_e, xI_e, xZ_e, xK_e, aN_e, aC_e, cR_e, cV_e, cA_e, cO_e, cN_e, bs_e, bn_e, zg_0, zg_S, sS_e, sX_e, sF_e, sG_e, sA_e, sE_e, sEo_e, sK_e, sQ_e, sI_e, sR_e, sV_e, sB_e, sC_e, sD_e, sN_e, st_0, st_S, zc_0, zc_S, r_eq, r_ne, r_lt, r_le, r_gt, r_ge, rb_ite, rb_0, rb_1]
theorem q_lwC10 {υ : zHp} {n C N D k a0 a1 a2 a3 a4 a5 a6 : Int} : lc_L_law_10 L xs [0, 0, 37, n, C, N, 38, D, 40, k, a0, a6, a1, a2, a3, a4, a5] υ = some (decide (k < D), υ) := by
  simp [lc_L_law_10, xC_e, xL_e, xU_e, xB_e, xD_e, xF_e, xG_e, xA_e, xE_e, xH_e, xI_e, xZ_e, xK_e, aN_e, aC_e, cR_e, cV_e, cA_e, cO_e, cN_e, bs_e, bn_e, zg_0, zg_S, sS_e, sX_e, sF_e, sG_e, sA_e, sE_e, sEo_e, sK_e, sQ_e, sI_e, sR_e, sV_e, sB_e, sC_e, sD_e, sN_e, st_0, st_S, zc_0, zc_S, r_eq, r_ne, r_lt, r_le, r_gt, r_ge, rb_ite, rb_0, rb_1]
theorem q_lwC11 {υ : zHp} {n C N D k a0 a1 a2 a3 a4 a5 a6 : Int} : lc_L_law_11 L xs [0, 0, 37, n, C, N, 38, D, 40, k, a0, a6, a1, a2, a3, a4, a5] υ = some (decide (k < N), υ) := by
  simp [lc_L_law_11, xC_e, xL_e, xU_e, xB_e, xD_e, xF_e, xG_e, xA_e, xE_e, xH_e, xI_e, xZ_e, xK_e, aN_e, aC_e, cR_e, cV_e, cA_e, cO_e, cN_e, bs_e, bn_e, zg_0, zg_S, sS_e, sX_e, sF_e, sG_e, sA_e, sE_e, sEo_e, sK_e, sQ_e, sI_e, sR_e, sV_e, sB_e, sC_e, sD_e, sN_e, st_0, st_S, zc_0, zc_S, r_eq, r_ne, r_lt, r_le, r_gt, r_ge, rb_ite, rb_0, rb_1]
theorem q_lwB7 {υ : zHp} {n C N D k w c S m b m1 t : Int} (h1 : zAnd (zShr S b) 1 = t) (h2 : o_iadd m t = m1) : lf_L_law_7 L xs [0, 0, 37, n, C, N, 38, D, 40, k, w, c, S, m, b, 0, 0] υ = some (0, [0, 0, 37, n, C, N, 38, D, 40, k, w, c, S, m1, b, 0, 0], υ) := by
  simp [lf_L_law_7, xC_e, xL_e, xU_e, xB_e, xD_e, xF_e, xG_e, xA_e, xE_e, xH_e, xI_e, xZ_e, xK_e, aN_e, aC_e, cR_e, cV_e, cA_e, cO_e, cN_e, bs_e, bn_e, zg_0, zg_S, sS_e, sX_e, sF_e, sG_e, sA_e, sE_e, sEo_e, sK_e, sQ_e, sI_e, sR_e, sV_e, sB_e, sC_e, sD_e, sN_e, st_0, st_S, zc_0, zc_S, h1, h2]
theorem q_lwB8 {υ : zHp} {n C N D k w c S m b c3 h u v s : Int} {bit : Bool} (b6 : 0 ≤ b ∧ b < 6) (hb : zAnd (zShr S b) 1 = if bit = true then 1 else 0) (ce : o_iadd 3 c = c3) (c60 : 0 ≤ c3 ∧ c3 < 60) (hh : υ 37 c3 = h) (ue : o_imul (o_isub 10 h) 60 = u) (hm : bit = true → m ≠ 0 ∧ zdiv u m = v) (hv : bit = false → v = 0) (se : o_ladd (υ 40 b) v = s) : lf_L_law_8 L xs [0, 0, 37, n, C, N, 38, D, 40, k, w, c, S, m, b, 0, 0] υ = some (0, [0, 0, 37, n, C, N, 38, D, 40, k, w, c, S, m, b, 0, 0], zput υ 40 b s) := by
  cases bit
  · simp at hb
    have hv := hv rfl
    subst hv
    simp [lf_L_law_8, xC_e, xL_e, xU_e, xB_e, xD_e, xF_e, xG_e, xA_e, xE_e, xH_e, xI_e, xZ_e, xK_e, aN_e, aC_e, cR_e, cV_e, cA_e, cO_e, cN_e, bs_e, bn_e, zg_0, zg_S, sS_e, sX_e, sF_e, sG_e, sA_e, sE_e, sEo_e, sK_e, sQ_e, sI_e, sR_e, sV_e, sB_e, sC_e, sD_e, sN_e, st_0, st_S, zc_0, zc_S, r_eq, r_ne, r_lt, r_le, r_gt, r_ge, rb_ite, rb_0, rb_1, b6, hb, se]
  · simp at hb
    obtain ⟨m1, m2⟩ := hm rfl
    simp [lf_L_law_8, xC_e, xL_e, xU_e, xB_e, xD_e, xF_e, xG_e, xA_e, xE_e, xH_e, xI_e, xZ_e, xK_e, aN_e, aC_e, cR_e, cV_e, cA_e, cO_e, cN_e, bs_e, bn_e, zg_0, zg_S, sS_e, sX_e, sF_e, sG_e, sA_e, sE_e, sEo_e, sK_e, sQ_e, sI_e, sR_e, sV_e, sB_e, sC_e, sD_e, sN_e, st_0, st_S, zc_0, zc_S, r_eq, r_ne, r_lt, r_le, r_gt, r_ge, rb_ite, rb_0, rb_1, b6, hb, ce, c60, hh, ue, m1, m2, se]
theorem q_lwB9 {x y z : zHp} {n C N D k w c S m b1 b2 : Int} (h1 : m_L_hear_a [37, c, w, 38] x = some (0, y)) (h2 : m_L_best_a [37, 38] y = some (S, y))
    (l7 : sW (lc_L_law_7 L xs) (lf_L_law_7 L xs) (ls_L_law_7 L xs) [0, 0, 37, n, C, N, 38, D, 40, k, w, c, S, 0, 0, 0, 0] y = some (0, [0, 0, 37, n, C, N, 38, D, 40, k, w, c, S, m, b1, 0, 0], y))
    (l8 : sW (lc_L_law_8 L xs) (lf_L_law_8 L xs) (ls_L_law_8 L xs) [0, 0, 37, n, C, N, 38, D, 40, k, w, c, S, m, 0, 0, 0] y = some (0, [0, 0, 37, n, C, N, 38, D, 40, k, w, c, S, m, b2, 0, 0], z)) :
    lf_L_law_9 L xs [0, 0, 37, n, C, N, 38, D, 40, k, w, c, 0, 0, 0, 0, 0] x = some (0, [0, 0, 37, n, C, N, 38, D, 40, k, w, c, 0, 0, 0, 0, 0], z) := by
  unfold lf_L_law_9
  refine (sD_0 (e1 := [0, 0, 37, n, C, N, 38, D, 40, k, w, c, S, m, 0, 0, 0]) ?_).trans rfl
  rw [sQ_s (e1 := [0, 0, 37, n, C, N, 38, D, 40, k, w, c, 0, 0, 0, 0, 0]) (σ1 := y) (by simp [xC_e, xL_e, xU_e, xB_e, xD_e, xF_e, xG_e, xA_e, xE_e, xH_e, xI_e, xZ_e, xK_e, aN_e, aC_e, cR_e, cV_e, cA_e, cO_e, cN_e, bs_e, bn_e, zg_0, zg_S, sS_e, sX_e, sF_e, sG_e, sA_e, sE_e, sEo_e, sK_e, sQ_e, sI_e, sR_e, sV_e, sB_e, sC_e, sD_e, sN_e, st_0, st_S, zc_0, zc_S, h1])]
  rw [sQ_s (e1 := [0, 0, 37, n, C, N, 38, D, 40, k, w, c, S, 0, 0, 0, 0]) (σ1 := y) (by simp [xC_e, xL_e, xU_e, xB_e, xD_e, xF_e, xG_e, xA_e, xE_e, xH_e, xI_e, xZ_e, xK_e, aN_e, aC_e, cR_e, cV_e, cA_e, cO_e, cN_e, bs_e, bn_e, zg_0, zg_S, sS_e, sX_e, sF_e, sG_e, sA_e, sE_e, sEo_e, sK_e, sQ_e, sI_e, sR_e, sV_e, sB_e, sC_e, sD_e, sN_e, st_0, st_S, zc_0, zc_S, h2])]
  rw [sQ_s (e1 := [0, 0, 37, n, C, N, 38, D, 40, k, w, c, S, 0, 0, 0, 0]) (σ1 := y) (by simp [xC_e, xL_e, xU_e, xB_e, xD_e, xF_e, xG_e, xA_e, xE_e, xH_e, xI_e, xZ_e, xK_e, aN_e, aC_e, cR_e, cV_e, cA_e, cO_e, cN_e, bs_e, bn_e, zg_0, zg_S, sS_e, sX_e, sF_e, sG_e, sA_e, sE_e, sEo_e, sK_e, sQ_e, sI_e, sR_e, sV_e, sB_e, sC_e, sD_e, sN_e, st_0, st_S, zc_0, zc_S])]
  rw [sQ_s (e1 := [0, 0, 37, n, C, N, 38, D, 40, k, w, c, S, m, 0, 0, 0]) (σ1 := y) (by
    refine (sD_0 (e1 := [0, 0, 37, n, C, N, 38, D, 40, k, w, c, S, m, b1, 0, 0]) ?_).trans rfl
    rw [sQ_s (e1 := [0, 0, 37, n, C, N, 38, D, 40, k, w, c, S, 0, 0, 0, 0]) (σ1 := y) (by simp [xC_e, xL_e, xU_e, xB_e, xD_e, xF_e, xG_e, xA_e, xE_e, xH_e, xI_e, xZ_e, xK_e, aN_e, aC_e, cR_e, cV_e, cA_e, cO_e, cN_e, bs_e, bn_e, zg_0, zg_S, sS_e, sX_e, sF_e, sG_e, sA_e, sE_e, sEo_e, sK_e, sQ_e, sI_e, sR_e, sV_e, sB_e, sC_e, sD_e, sN_e, st_0, st_S, zc_0, zc_S])]
    exact l7)]
  refine (sD_0 (e1 := [0, 0, 37, n, C, N, 38, D, 40, k, w, c, S, m, b2, 0, 0]) ?_).trans rfl
  rw [sQ_s (e1 := [0, 0, 37, n, C, N, 38, D, 40, k, w, c, S, m, 0, 0, 0]) (σ1 := y) (by simp [xC_e, xL_e, xU_e, xB_e, xD_e, xF_e, xG_e, xA_e, xE_e, xH_e, xI_e, xZ_e, xK_e, aN_e, aC_e, cR_e, cV_e, cA_e, cO_e, cN_e, bs_e, bn_e, zg_0, zg_S, sS_e, sX_e, sF_e, sG_e, sA_e, sE_e, sEo_e, sK_e, sQ_e, sI_e, sR_e, sV_e, sB_e, sC_e, sD_e, sN_e, st_0, st_S, zc_0, zc_S])]
  exact l8
theorem q_lwB10 {x y z : zHp} {n C N D k w cv i s c : Int} (hc : m_L_cell L xs [0, 13] x = some (cv, x)) (se : o_imul 6 k = s) (hw : m_L_some [zShr cv s, 40] x = some (w, x)) (ie : o_iadd 1 k = i) (hp : m_X8_put [0, 1, i, w] x = some (1, y))
    (hl : sW (lc_L_law_9 L xs) (lf_L_law_9 L xs) (ls_L_law_9 L xs) [0, 0, 37, n, C, N, 38, D, 40, k, w, 0, 0, 0, 0, 0, 0] y = some (0, [0, 0, 37, n, C, N, 38, D, 40, k, w, c, 0, 0, 0, 0, 0], z)) :
    lf_L_law_10 L xs [0, 0, 37, n, C, N, 38, D, 40, k, 0, 0, 0, 0, 0, 0, 0] x = some (0, [0, 0, 37, n, C, N, 38, D, 40, k, 0, 0, 0, 0, 0, 0, 0], z) := by
  unfold lf_L_law_10
  refine (sD_0 (e1 := [0, 0, 37, n, C, N, 38, D, 40, k, w, 0, 0, 0, 0, 0, 0]) ?_).trans rfl
  rw [sQ_s (e1 := [0, 0, 37, n, C, N, 38, D, 40, k, w, 0, 0, 0, 0, 0, 0]) (σ1 := x) (by simp [xC_e, xL_e, xU_e, xB_e, xD_e, xF_e, xG_e, xA_e, xE_e, xH_e, xI_e, xZ_e, xK_e, aN_e, aC_e, cR_e, cV_e, cA_e, cO_e, cN_e, bs_e, bn_e, zg_0, zg_S, sS_e, sX_e, sF_e, sG_e, sA_e, sE_e, sEo_e, sK_e, sQ_e, sI_e, sR_e, sV_e, sB_e, sC_e, sD_e, sN_e, st_0, st_S, zc_0, zc_S, hc, se, hw])]
  rw [sQ_s (e1 := [0, 0, 37, n, C, N, 38, D, 40, k, w, 0, 0, 0, 0, 0, 0]) (σ1 := y) (by simp [xC_e, xL_e, xU_e, xB_e, xD_e, xF_e, xG_e, xA_e, xE_e, xH_e, xI_e, xZ_e, xK_e, aN_e, aC_e, cR_e, cV_e, cA_e, cO_e, cN_e, bs_e, bn_e, zg_0, zg_S, sS_e, sX_e, sF_e, sG_e, sA_e, sE_e, sEo_e, sK_e, sQ_e, sI_e, sR_e, sV_e, sB_e, sC_e, sD_e, sN_e, st_0, st_S, zc_0, zc_S, r_eq, r_ne, r_lt, r_le, r_gt, r_ge, rb_ite, rb_0, rb_1, ie, hp])]
  refine (sD_0 (e1 := [0, 0, 37, n, C, N, 38, D, 40, k, w, c, 0, 0, 0, 0, 0]) ?_).trans rfl
  rw [sQ_s (e1 := [0, 0, 37, n, C, N, 38, D, 40, k, w, 0, 0, 0, 0, 0, 0]) (σ1 := y) (by simp [xC_e, xL_e, xU_e, xB_e, xD_e, xF_e, xG_e, xA_e, xE_e, xH_e, xI_e, xZ_e, xK_e, aN_e, aC_e, cR_e, cV_e, cA_e, cO_e, cN_e, bs_e, bn_e, zg_0, zg_S, sS_e, sX_e, sF_e, sG_e, sA_e, sE_e, sEo_e, sK_e, sQ_e, sI_e, sR_e, sV_e, sB_e, sC_e, sD_e, sN_e, st_0, st_S, zc_0, zc_S])]
  exact hl
theorem q_lwB11 {x y z : zHp} {n C N D b s u d : Int} (b6 : 0 ≤ b ∧ b < 6) (hs : x 40 b = s) (h1 : m_X8_tithes [0, b, 1, 1, 1, D, 0] x = some (u, y)) (h2 : m_X8_tithes [0, b, 1, 1, 1, D, 1] y = some (d, z)) (h3 : m_L_isAlike [s, 60, u, d] z = some (1, z)) :
    lf_L_law_11 L xs [0, 0, 37, n, C, N, 38, D, 40, b, 0, 0, 0, 0, 0, 0, 0] x = some (0, [0, 0, 37, n, C, N, 38, D, 40, b, 0, 0, 0, 0, 0, 0, 0], z) := by
  unfold lf_L_law_11
  simp [xC_e, xL_e, xU_e, xB_e, xD_e, xF_e, xG_e, xA_e, xE_e, xH_e, xI_e, xZ_e, xK_e, aN_e, aC_e, cR_e, cV_e, cA_e, cO_e, cN_e, bs_e, bn_e, zg_0, zg_S, sS_e, sX_e, sF_e, sG_e, sA_e, sE_e, sEo_e, sK_e, sQ_e, sI_e, sR_e, sV_e, sB_e, sC_e, sD_e, sN_e, st_0, st_S, zc_0, zc_S, r_eq, r_ne, r_lt, r_le, r_gt, r_ge, rb_ite, rb_0, rb_1, b6, hs, h1, h2, h3]
end QDAY
