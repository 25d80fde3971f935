/-! what the machine has against cells of a sheet -/
def zAg (σ : zHp) (s so i n : Int) : Int := if σ (29 + 2 * s) 1 = 0 then 1 else if σ (29 + 2 * s) 2 = so then (if n < 0 then 4 else if 0 ≤ i ∧ 0 ≤ n ∧ i ≤ σ (29 + 2 * s) 3 ∧ n ≤ σ (29 + 2 * s) 3 - i then 0 else 3) else 2
theorem zAg_b (σ : zHp) (s so i n : Int) : 0 ≤ zAg σ s so i n ∧ zAg σ s so i n ≤ 4 := by
  unfold zAg
  split
  · omega
  · split
    · split
      · omega
      · split <;> omega
    · omega
theorem w_faultOfRow {σ : zHp} {o so i n : Int} (h0 : 0 ≤ σ o 3 ∧ σ o 3 ≤ 60) : m_X6_faultOfRow [o, so, i, n] σ = some (if σ o 1 = 0 then 1 else if σ o 2 = so then (if n < 0 then 4 else if 0 ≤ i ∧ 0 ≤ n ∧ i ≤ σ o 3 ∧ n ≤ σ o 3 - i then 0 else 3) else 2, σ) := by
  have f := w_faultOfSort o so σ
  by_cases p : σ o 1 = 0
  · simp [e_X6_faultOfRow, d_X6_faultOfRow, xC_e, xL_e, xU_e, xB_e, xD_e, xF_e, xG_e, xA_e, xE_e, xH_e, xI_e, xZ_e, xK_e, aN_e, aC_e, cR_e, cV_e, cA_e, cO_e, cN_e, bs_e, bn_e, zg_0, zg_S, sS_e, sX_e, sF_e, sG_e, sA_e, sE_e, sEo_e, sK_e, sQ_e, sI_e, sR_e, sV_e, sB_e, sC_e, sD_e, sN_e, st_0, st_S, zc_0, zc_S, r_eq, r_ne, r_lt, r_le, r_gt, r_ge, rb_ite, rb_0, rb_1, f, p]
  · by_cases p2 : σ o 2 = so
    · by_cases p3 : n < 0
      · simp [e_X6_faultOfRow, d_X6_faultOfRow, xC_e, xL_e, xU_e, xB_e, xD_e, xF_e, xG_e, xA_e, xE_e, xH_e, xI_e, xZ_e, xK_e, aN_e, aC_e, cR_e, cV_e, cA_e, cO_e, cN_e, bs_e, bn_e, zg_0, zg_S, sS_e, sX_e, sF_e, sG_e, sA_e, sE_e, sEo_e, sK_e, sQ_e, sI_e, sR_e, sV_e, sB_e, sC_e, sD_e, sN_e, st_0, st_S, zc_0, zc_S, r_eq, r_ne, r_lt, r_le, r_gt, r_ge, rb_ite, rb_0, rb_1, f, p, p2, p3]
      · by_cases p4 : 0 ≤ i ∧ 0 ≤ n ∧ i ≤ σ o 3 ∧ n ≤ σ o 3 - i
        · have g := w_hasNumbers_t h0 p4
          simp [e_X6_faultOfRow, d_X6_faultOfRow, xC_e, xL_e, xU_e, xB_e, xD_e, xF_e, xG_e, xA_e, xE_e, xH_e, xI_e, xZ_e, xK_e, aN_e, aC_e, cR_e, cV_e, cA_e, cO_e, cN_e, bs_e, bn_e, zg_0, zg_S, sS_e, sX_e, sF_e, sG_e, sA_e, sE_e, sEo_e, sK_e, sQ_e, sI_e, sR_e, sV_e, sB_e, sC_e, sD_e, sN_e, st_0, st_S, zc_0, zc_S, r_eq, r_ne, r_lt, r_le, r_gt, r_ge, rb_ite, rb_0, rb_1, f, p, p2, p3, p4, g, rb_1]
        · have g := w_hasNumbers_f h0 p4
          simp [e_X6_faultOfRow, d_X6_faultOfRow, xC_e, xL_e, xU_e, xB_e, xD_e, xF_e, xG_e, xA_e, xE_e, xH_e, xI_e, xZ_e, xK_e, aN_e, aC_e, cR_e, cV_e, cA_e, cO_e, cN_e, bs_e, bn_e, zg_0, zg_S, sS_e, sX_e, sF_e, sG_e, sA_e, sE_e, sEo_e, sK_e, sQ_e, sI_e, sR_e, sV_e, sB_e, sC_e, sD_e, sN_e, st_0, st_S, zc_0, zc_S, r_eq, r_ne, r_lt, r_le, r_gt, r_ge, rb_ite, rb_0, rb_1, f, p, p2, p3, g, rb_0]
          omega
    · simp [e_X6_faultOfRow, d_X6_faultOfRow, xC_e, xL_e, xU_e, xB_e, xD_e, xF_e, xG_e, xA_e, xE_e, xH_e, xI_e, xZ_e, xK_e, aN_e, aC_e, cR_e, cV_e, cA_e, cO_e, cN_e, bs_e, bn_e, zg_0, zg_S, sS_e, sX_e, sF_e, sG_e, sA_e, sE_e, sEo_e, sK_e, sQ_e, sI_e, sR_e, sV_e, sB_e, sC_e, sD_e, sN_e, st_0, st_S, zc_0, zc_S, r_eq, r_ne, r_lt, r_le, r_gt, r_ge, rb_ite, rb_0, rb_1, f, p, p2]
theorem zAg_0 {σ : zHp} {s so i n : Int} (h : zAg σ s so i n = 0) : 0 ≤ i ∧ 0 ≤ n ∧ i ≤ σ (29 + 2 * s) 3 ∧ n ≤ σ (29 + 2 * s) 3 - i := by
  unfold zAg at h
  by_cases p : σ (29 + 2 * s) 1 = 0
  · rw [if_pos p] at h; omega
  · rw [if_neg p] at h
    by_cases p2 : σ (29 + 2 * s) 2 = so
    · rw [if_pos p2] at h
      by_cases p3 : n < 0
      · rw [if_pos p3] at h; omega
      · rw [if_neg p3] at h
        by_cases p4 : 0 ≤ i ∧ 0 ≤ n ∧ i ≤ σ (29 + 2 * s) 3 ∧ n ≤ σ (29 + 2 * s) 3 - i
        · exact p4
        · rw [if_neg p4] at h; omega
    · rw [if_neg p2] at h; omega
theorem w_tiBody1 {υ : zHp} {b s so i n q o d v z z2 : Int} (d60 : 0 ≤ d ∧ d < 60) (h : υ (o + 1) d = v) : lf_X8_tithes_1 [0, b, s, so, i, n, q, o, d, z, z2] υ = if 0 ≤ v ∧ v ≤ 39 then some (0, [0, b, s, so, i, n, q, o, d, z, z2], υ) else some (1, [-9223372036854775808], υ) := by
  by_cases p : 0 ≤ v ∧ v ≤ 39
  · simp [lf_X8_tithes_1, xC_e, xL_e, xU_e, xB_e, xD_e, xF_e, xG_e, xA_e, xE_e, xH_e, xI_e, xZ_e, xK_e, aN_e, aC_e, cR_e, cV_e, cA_e, cO_e, cN_e, bs_e, bn_e, zg_0, zg_S, sS_e, sX_e, sF_e, sG_e, sA_e, sE_e, sEo_e, sK_e, sQ_e, sI_e, sR_e, sV_e, sB_e, sC_e, sD_e, sN_e, st_0, st_S, zc_0, zc_S, r_eq, r_ne, r_lt, r_le, r_gt, r_ge, rb_ite, rb_0, rb_1, d60, h, w_isWind_t p, rb_1, p]
  · simp [lf_X8_tithes_1, xC_e, xL_e, xU_e, xB_e, xD_e, xF_e, xG_e, xA_e, xE_e, xH_e, xI_e, xZ_e, xK_e, aN_e, aC_e, cR_e, cV_e, cA_e, cO_e, cN_e, bs_e, bn_e, zg_0, zg_S, sS_e, sX_e, sF_e, sG_e, sA_e, sE_e, sEo_e, sK_e, sQ_e, sI_e, sR_e, sV_e, sB_e, sC_e, sD_e, sN_e, st_0, st_S, zc_0, zc_S, r_eq, r_ne, r_lt, r_le, r_gt, r_ge, rb_ite, rb_0, rb_1, d60, h, w_isWind_f p, rb_0, p]
theorem w_tiBody2 {υ τ τ2 : zHp} {b s so i n q o sum d v x y z : Int} (d60 : 0 ≤ d ∧ d < 60) (h : υ (o + 1) d = v) (h1 : m_X0_blow [10, v] υ = some (0, τ)) (h2 : m_X8_partsOfTithe [0, b] τ = some (x, τ2)) (o1 : o_ladd sum x = y) : lf_X8_tithes_2 [0, b, s, so, i, n, q, o, sum, z, d] υ = some (0, [0, b, s, so, i, n, q, o, y, z, d], τ2) := by
  simp [lf_X8_tithes_2, xC_e, xL_e, xU_e, xB_e, xD_e, xF_e, xG_e, xA_e, xE_e, xH_e, xI_e, xZ_e, xK_e, aN_e, aC_e, cR_e, cV_e, cA_e, cO_e, cN_e, bs_e, bn_e, zg_0, zg_S, sS_e, sX_e, sF_e, sG_e, sA_e, sE_e, sEo_e, sK_e, sQ_e, sI_e, sR_e, sV_e, sB_e, sC_e, sD_e, sN_e, st_0, st_S, zc_0, zc_S, r_eq, r_ne, r_lt, r_le, r_gt, r_ge, rb_ite, rb_0, rb_1, d60, h, h1, h2, o1]
theorem zcR (r : Int → Int → Bool) (f g : zX) (e : List Int) (σ : zHp) {a b : Int} (h1 : f e σ = some (a, σ)) (h2 : g e σ = some (b, σ)) : cR r f g e σ = some (r a b, σ) := by
  simp only [cR_e, h1, h2, bs_e]
theorem w_tiC1 {υ : zHp} {b s so i n q o d z z2 m : Int} (h : o_iadd i n = m) : lc_X8_tithes_1 [0, b, s, so, i, n, q, o, d, z, z2] υ = some (decide (d < m), υ) := by
  simp [lc_X8_tithes_1, xC_e, xL_e, xU_e, xB_e, xD_e, xF_e, xG_e, xA_e, xE_e, xH_e, xI_e, xZ_e, xK_e, aN_e, aC_e, cR_e, cV_e, cA_e, cO_e, cN_e, bs_e, bn_e, zg_0, zg_S, sS_e, sX_e, sF_e, sG_e, sA_e, sE_e, sEo_e, sK_e, sQ_e, sI_e, sR_e, sV_e, sB_e, sC_e, sD_e, sN_e, st_0, st_S, zc_0, zc_S, r_eq, r_ne, r_lt, r_le, r_gt, r_ge, rb_ite, rb_0, rb_1, h]
theorem w_tiC2 {υ : zHp} {b s so i n q o d z z2 m : Int} (h : o_iadd i n = m) : lc_X8_tithes_2 [0, b, s, so, i, n, q, o, z, z2, d] υ = some (decide (d < m), υ) := by
  simp [lc_X8_tithes_2, xC_e, xL_e, xU_e, xB_e, xD_e, xF_e, xG_e, xA_e, xE_e, xH_e, xI_e, xZ_e, xK_e, aN_e, aC_e, cR_e, cV_e, cA_e, cO_e, cN_e, bs_e, bn_e, zg_0, zg_S, sS_e, sX_e, sF_e, sG_e, sA_e, sE_e, sEo_e, sK_e, sQ_e, sI_e, sR_e, sV_e, sB_e, sC_e, sD_e, sN_e, st_0, st_S, zc_0, zc_S, r_eq, r_ne, r_lt, r_le, r_gt, r_ge, rb_ite, rb_0, rb_1, h]
theorem w_tiEval1 {σ : zHp} {b s so i n q ag : Int} (g1 : 0 ≤ b ∧ b < σ 6 0) (g2 : 0 ≤ s ∧ s < 4) (g3 : 0 ≤ so ∧ so ≤ 2) (h : m_X6_faultOfRow [29 + 2 * s, so, i, n] (zput σ 0 8 0) = some (ag, zput σ 0 8 0)) (hq : ag ≠ 0 ∨ ¬ (0 ≤ q ∧ q ≤ 1)) : m_X8_tithes [0, b, s, so, i, n, q] σ = some (-9223372036854775808, zput σ 0 8 ag) := by
  have g1' : 0 ≤ b ∧ b < zput σ 0 8 0 6 0 := by rw [zput_o (by decide)]; exact g1
  by_cases p : ag = 0
  · have q2 : ¬ (0 ≤ q ∧ q ≤ 1) := hq.resolve_left (fun z => z p)
    subst p
    simp [e_X8_tithes, d_X8_tithes, xC_e, xL_e, xU_e, xB_e, xD_e, xF_e, xG_e, xA_e, xE_e, xH_e, xI_e, xZ_e, xK_e, aN_e, aC_e, cR_e, cV_e, cA_e, cO_e, cN_e, bs_e, bn_e, zg_0, zg_S, sS_e, sX_e, sF_e, sG_e, sA_e, sE_e, sEo_e, sK_e, sQ_e, sI_e, sR_e, sV_e, sB_e, sC_e, sD_e, sN_e, st_0, st_S, zc_0, zc_S, r_eq, r_ne, r_lt, r_le, r_gt, r_ge, rb_ite, rb_0, rb_1, w_isBell_t g1', w_isSheet_t g2, w_isSort_t g3, g2, h, w_isOneOfTwo_f q2, zput_self, zput_put]
  · simp [e_X8_tithes, d_X8_tithes, xC_e, xL_e, xU_e, xB_e, xD_e, xF_e, xG_e, xA_e, xE_e, xH_e, xI_e, xZ_e, xK_e, aN_e, aC_e, cR_e, cV_e, cA_e, cO_e, cN_e, bs_e, bn_e, zg_0, zg_S, sS_e, sX_e, sF_e, sG_e, sA_e, sE_e, sEo_e, sK_e, sQ_e, sI_e, sR_e, sV_e, sB_e, sC_e, sD_e, sN_e, st_0, st_S, zc_0, zc_S, r_eq, r_ne, r_lt, r_le, r_gt, r_ge, rb_ite, rb_0, rb_1, w_isBell_t g1', w_isSheet_t g2, w_isSort_t g3, g2, h, p, zput_self, zput_put]
theorem w_tiEval2 {σ : zHp} {b s so i n q : Int} {t : Nat} {e : List Int} (g1 : 0 ≤ b ∧ b < σ 6 0) (g2 : 0 ≤ s ∧ s < 4) (g3 : 0 ≤ so ∧ so ≤ 2) (g4 : 0 ≤ q ∧ q ≤ 1) (h : m_X6_faultOfRow [29 + 2 * s, so, i, n] (zput σ 0 8 0) = some (0, zput σ 0 8 0)) (hl : sW lc_X8_tithes_1 lf_X8_tithes_1 ls_X8_tithes_1 [0, b, s, so, i, n, q, 29 + 2 * s, i, 0, 0] (zput σ 0 8 0) = some (1, [-9223372036854775808], zput σ 0 8 0)) : m_X8_tithes [0, b, s, so, i, n, q] σ = some (-9223372036854775808, zput σ 0 8 0) := by
  have g1' : 0 ≤ b ∧ b < zput σ 0 8 0 6 0 := by rw [zput_o (by decide)]; exact g1
  simp [e_X8_tithes, d_X8_tithes, xC_e, xL_e, xU_e, xB_e, xD_e, xF_e, xG_e, xA_e, xE_e, xH_e, xI_e, xZ_e, xK_e, aN_e, aC_e, cR_e, cV_e, cA_e, cO_e, cN_e, bs_e, bn_e, zg_0, zg_S, sS_e, sX_e, sF_e, sG_e, sA_e, sE_e, sEo_e, sK_e, sQ_e, sI_e, sR_e, sV_e, sB_e, sC_e, sD_e, sN_e, st_0, st_S, zc_0, zc_S, r_eq, r_ne, r_lt, r_le, r_gt, r_ge, rb_ite, rb_0, rb_1, w_isBell_t g1', w_isSheet_t g2, w_isSort_t g3, g2, h, w_isOneOfTwo_t g4, zput_self, zput_put, hl]
theorem w_tiEval3 {σ τ : zHp} {b s so i n q d sum r : Int} (g1 : 0 ≤ b ∧ b < σ 6 0) (g2 : 0 ≤ s ∧ s < 4) (g3 : 0 ≤ so ∧ so ≤ 2) (g4 : 0 ≤ q ∧ q ≤ 1) (h : m_X6_faultOfRow [29 + 2 * s, so, i, n] (zput σ 0 8 0) = some (0, zput σ 0 8 0)) (hl : sW lc_X8_tithes_1 lf_X8_tithes_1 ls_X8_tithes_1 [0, b, s, so, i, n, q, 29 + 2 * s, i, 0, 0] (zput σ 0 8 0) = some (0, [0, b, s, so, i, n, q, 29 + 2 * s, d, 0, 0], zput σ 0 8 0))
    (hl2 : sW lc_X8_tithes_2 lf_X8_tithes_2 ls_X8_tithes_2 [0, b, s, so, i, n, q, 29 + 2 * s, 0, 0, i] (zput σ 0 8 0) = some (0, [0, b, s, so, i, n, q, 29 + 2 * s, sum, 0, d], τ)) (hs : m_X8_share [sum, 60, q] τ = some (r, τ)) : m_X8_tithes [0, b, s, so, i, n, q] σ = some (r, τ) := by
  have g1' : 0 ≤ b ∧ b < zput σ 0 8 0 6 0 := by rw [zput_o (by decide)]; exact g1
  simp [e_X8_tithes, d_X8_tithes, xC_e, xL_e, xU_e, xB_e, xD_e, xF_e, xG_e, xA_e, xE_e, xH_e, xI_e, xZ_e, xK_e, aN_e, aC_e, cR_e, cV_e, cA_e, cO_e, cN_e, bs_e, bn_e, zg_0, zg_S, sS_e, sX_e, sF_e, sG_e, sA_e, sE_e, sEo_e, sK_e, sQ_e, sI_e, sR_e, sV_e, sB_e, sC_e, sD_e, sN_e, st_0, st_S, zc_0, zc_S, r_eq, r_ne, r_lt, r_le, r_gt, r_ge, rb_ite, rb_0, rb_1, w_isBell_t g1', w_isSheet_t g2, w_isSort_t g3, g2, h, w_isOneOfTwo_t g4, zput_self, zput_put, hl, hl2, hs]
