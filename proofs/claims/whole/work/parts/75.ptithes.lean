/-! what the machine has against cells of a sheet -/
def zAg (σ : zHp) (s so i n : Int) : Int := if σ (29 + 2 * s) 1 = 0 then 1 else if σ (29 + 2 * s) 2 = so then (if n < 0 then 4 else if 0 ≤ i ∧ 0 ≤ n ∧ i ≤ σ (29 + 2 * s) 3 ∧ n ≤ σ (29 + 2 * s) 3 - i then 0 else 3) else 2
theorem zAg_b (σ : zHp) (s so i n : Int) : 0 ≤ zAg σ s so i n ∧ zAg σ s so i n ≤ 4 := by
  unfold zAg
  split
  · omega
  · split
    · split
      · omega
      · split <;> omega
    · omega
theorem w_faultOfRow {σ : zHp} {o so i n : Int} (h0 : 0 ≤ σ o 3 ∧ σ o 3 ≤ 60) : m_X6_faultOfRow [o, so, i, n] σ = some (if σ o 1 = 0 then 1 else if σ o 2 = so then (if n < 0 then 4 else if 0 ≤ i ∧ 0 ≤ n ∧ i ≤ σ o 3 ∧ n ≤ σ o 3 - i then 0 else 3) else 2, σ) := by
  have f := w_faultOfSort o so σ
  by_cases p : σ o 1 = 0
  · simp [e_X6_faultOfRow, d_X6_faultOfRow, xC_e, xL_e, xU_e, xB_e, xD_e, xF_e, xG_e, xA_e, xE_e, xH_e, xI_e, xZ_e, xK_e, aN_e, aC_e, cR_e, cV_e, cA_e, cO_e, cN_e, bs_e, bn_e, zg_0, zg_S, sS_e, sX_e, sF_e, sG_e, sA_e, sE_e, sEo_e, sK_e, sQ_e, sI_e, sR_e, sV_e, sB_e, sC_e, sD_e, sN_e, sP_e, sY_e, st_0, st_S, zc_0, zc_S, r_eq, r_ne, r_lt, r_le, r_gt, r_ge, rb_ite, rb_0, rb_1, f, p]
  · by_cases p2 : σ o 2 = so
    · by_cases p3 : n < 0
      · simp [e_X6_faultOfRow, d_X6_faultOfRow, xC_e, xL_e, xU_e, xB_e, xD_e, xF_e, xG_e, xA_e, xE_e, xH_e, xI_e, xZ_e, xK_e, aN_e, aC_e, cR_e, cV_e, cA_e, cO_e, cN_e, bs_e, bn_e, zg_0, zg_S, sS_e, sX_e, sF_e, sG_e, sA_e, sE_e, sEo_e, sK_e, sQ_e, sI_e, sR_e, sV_e, sB_e, sC_e, sD_e, sN_e, sP_e, sY_e, st_0, st_S, zc_0, zc_S, r_eq, r_ne, r_lt, r_le, r_gt, r_ge, rb_ite, rb_0, rb_1, f, p, p2, p3]
      · by_cases p4 : 0 ≤ i ∧ 0 ≤ n ∧ i ≤ σ o 3 ∧ n ≤ σ o 3 - i
        · have g := w_hasNumbers_t h0 p4
          simp [e_X6_faultOfRow, d_X6_faultOfRow, xC_e, xL_e, xU_e, xB_e, xD_e, xF_e, xG_e, xA_e, xE_e, xH_e, xI_e, xZ_e, xK_e, aN_e, aC_e, cR_e, cV_e, cA_e, cO_e, cN_e, bs_e, bn_e, zg_0, zg_S, sS_e, sX_e, sF_e, sG_e, sA_e, sE_e, sEo_e, sK_e, sQ_e, sI_e, sR_e, sV_e, sB_e, sC_e, sD_e, sN_e, sP_e, sY_e, st_0, st_S, zc_0, zc_S, r_eq, r_ne, r_lt, r_le, r_gt, r_ge, rb_ite, rb_0, rb_1, f, p, p2, p3, p4, g, rb_1]
        · have g := w_hasNumbers_f h0 p4
          simp [e_X6_faultOfRow, d_X6_faultOfRow, xC_e, xL_e, xU_e, xB_e, xD_e, xF_e, xG_e, xA_e, xE_e, xH_e, xI_e, xZ_e, xK_e, aN_e, aC_e, cR_e, cV_e, cA_e, cO_e, cN_e, bs_e, bn_e, zg_0, zg_S, sS_e, sX_e, sF_e, sG_e, sA_e, sE_e, sEo_e, sK_e, sQ_e, sI_e, sR_e, sV_e, sB_e, sC_e, sD_e, sN_e, sP_e, sY_e, st_0, st_S, zc_0, zc_S, r_eq, r_ne, r_lt, r_le, r_gt, r_ge, rb_ite, rb_0, rb_1, f, p, p2, p3, g, rb_0]
          omega
    · simp [e_X6_faultOfRow, d_X6_faultOfRow, xC_e, xL_e, xU_e, xB_e, xD_e, xF_e, xG_e, xA_e, xE_e, xH_e, xI_e, xZ_e, xK_e, aN_e, aC_e, cR_e, cV_e, cA_e, cO_e, cN_e, bs_e, bn_e, zg_0, zg_S, sS_e, sX_e, sF_e, sG_e, sA_e, sE_e, sEo_e, sK_e, sQ_e, sI_e, sR_e, sV_e, sB_e, sC_e, sD_e, sN_e, sP_e, sY_e, st_0, st_S, zc_0, zc_S, r_eq, r_ne, r_lt, r_le, r_gt, r_ge, rb_ite, rb_0, rb_1, f, p, p2]
theorem v_against {τ : zHp} {s so i n st len : Int} (s4 : 0 ≤ s ∧ s < 4) (h1 : τ 38 s = st) (h2 : τ 39 s = len) (hl : 0 ≤ len ∧ len ≤ 60) : m_X9_against [37, s, so, i, n] τ = some (if st = -9 then 1 else if st = so then (if n < 0 then 4 else if 0 ≤ i ∧ 0 ≤ n ∧ i ≤ len ∧ n ≤ len - i then 0 else 3) else 2, τ) := by
  by_cases p : st = -9
  · simp [e_X9_against, d_X9_against, xC_e, xL_e, xU_e, xB_e, xD_e, xF_e, xG_e, xA_e, xE_e, xH_e, xI_e, xZ_e, xK_e, aN_e, aC_e, cR_e, cV_e, cA_e, cO_e, cN_e, bs_e, bn_e, zg_0, zg_S, sS_e, sX_e, sF_e, sG_e, sA_e, sE_e, sEo_e, sK_e, sQ_e, sI_e, sR_e, sV_e, sB_e, sC_e, sD_e, sN_e, sP_e, sY_e, st_0, st_S, zc_0, zc_S, r_eq, r_ne, r_lt, r_le, r_gt, r_ge, rb_ite, rb_0, rb_1, s4, h1, h2, p]
  · by_cases p2 : st = so
    · subst p2
      by_cases p3 : n < 0
      · simp [e_X9_against, d_X9_against, xC_e, xL_e, xU_e, xB_e, xD_e, xF_e, xG_e, xA_e, xE_e, xH_e, xI_e, xZ_e, xK_e, aN_e, aC_e, cR_e, cV_e, cA_e, cO_e, cN_e, bs_e, bn_e, zg_0, zg_S, sS_e, sX_e, sF_e, sG_e, sA_e, sE_e, sEo_e, sK_e, sQ_e, sI_e, sR_e, sV_e, sB_e, sC_e, sD_e, sN_e, sP_e, sY_e, st_0, st_S, zc_0, zc_S, r_eq, r_ne, r_lt, r_le, r_gt, r_ge, rb_ite, rb_0, rb_1, s4, h1, h2, p, p3]
      · by_cases q1 : i < 0
        · have q5 : ¬ (0 ≤ i ∧ 0 ≤ n ∧ i ≤ len ∧ n ≤ len - i) := by omega
          simp [e_X9_against, d_X9_against, xC_e, xL_e, xU_e, xB_e, xD_e, xF_e, xG_e, xA_e, xE_e, xH_e, xI_e, xZ_e, xK_e, aN_e, aC_e, cR_e, cV_e, cA_e, cO_e, cN_e, bs_e, bn_e, zg_0, zg_S, sS_e, sX_e, sF_e, sG_e, sA_e, sE_e, sEo_e, sK_e, sQ_e, sI_e, sR_e, sV_e, sB_e, sC_e, sD_e, sN_e, sP_e, sY_e, st_0, st_S, zc_0, zc_S, r_eq, r_ne, r_lt, r_le, r_gt, r_ge, rb_ite, rb_0, rb_1, s4, h1, h2, p, p3, q1]
          omega
        · by_cases q2 : len < i
          · simp [e_X9_against, d_X9_against, xC_e, xL_e, xU_e, xB_e, xD_e, xF_e, xG_e, xA_e, xE_e, xH_e, xI_e, xZ_e, xK_e, aN_e, aC_e, cR_e, cV_e, cA_e, cO_e, cN_e, bs_e, bn_e, zg_0, zg_S, sS_e, sX_e, sF_e, sG_e, sA_e, sE_e, sEo_e, sK_e, sQ_e, sI_e, sR_e, sV_e, sB_e, sC_e, sD_e, sN_e, sP_e, sY_e, st_0, st_S, zc_0, zc_S, r_eq, r_ne, r_lt, r_le, r_gt, r_ge, rb_ite, rb_0, rb_1, s4, h1, h2, p, p3, q1, q2]
            omega
          · have e : o_isub len i = len - i := w32_id ⟨by omega, by omega⟩
            by_cases q3 : len - i < n
            · simp [e_X9_against, d_X9_against, xC_e, xL_e, xU_e, xB_e, xD_e, xF_e, xG_e, xA_e, xE_e, xH_e, xI_e, xZ_e, xK_e, aN_e, aC_e, cR_e, cV_e, cA_e, cO_e, cN_e, bs_e, bn_e, zg_0, zg_S, sS_e, sX_e, sF_e, sG_e, sA_e, sE_e, sEo_e, sK_e, sQ_e, sI_e, sR_e, sV_e, sB_e, sC_e, sD_e, sN_e, sP_e, sY_e, st_0, st_S, zc_0, zc_S, r_eq, r_ne, r_lt, r_le, r_gt, r_ge, rb_ite, rb_0, rb_1, s4, h1, h2, p, p3, q1, q2, e, q3]
            · simp [e_X9_against, d_X9_against, xC_e, xL_e, xU_e, xB_e, xD_e, xF_e, xG_e, xA_e, xE_e, xH_e, xI_e, xZ_e, xK_e, aN_e, aC_e, cR_e, cV_e, cA_e, cO_e, cN_e, bs_e, bn_e, zg_0, zg_S, sS_e, sX_e, sF_e, sG_e, sA_e, sE_e, sEo_e, sK_e, sQ_e, sI_e, sR_e, sV_e, sB_e, sC_e, sD_e, sN_e, sP_e, sY_e, st_0, st_S, zc_0, zc_S, r_eq, r_ne, r_lt, r_le, r_gt, r_ge, rb_ite, rb_0, rb_1, s4, h1, h2, p, p3, q1, q2, e, q3]
    · simp [e_X9_against, d_X9_against, xC_e, xL_e, xU_e, xB_e, xD_e, xF_e, xG_e, xA_e, xE_e, xH_e, xI_e, xZ_e, xK_e, aN_e, aC_e, cR_e, cV_e, cA_e, cO_e, cN_e, bs_e, bn_e, zg_0, zg_S, sS_e, sX_e, sF_e, sG_e, sA_e, sE_e, sEo_e, sK_e, sQ_e, sI_e, sR_e, sV_e, sB_e, sC_e, sD_e, sN_e, sP_e, sY_e, st_0, st_S, zc_0, zc_S, r_eq, r_ne, r_lt, r_le, r_gt, r_ge, rb_ite, rb_0, rb_1, s4, h1, h2, p, p2]
theorem zAg_38 {σ : zHp} (hS : zIS σ) {s so i n : Int} (s4 : 0 ≤ s ∧ s < 4) : (if σ 38 s = -9 then (1 : Int) else if σ 38 s = so then (if n < 0 then 4 else if 0 ≤ i ∧ 0 ≤ n ∧ i ≤ σ 39 s ∧ n ≤ σ 39 s - i then 0 else 3) else 2) = zAg σ s so i n := by
  have l := (hS s s4.1 s4.2).2.1
  unfold zAg
  rw [l]
  rcases zSh hS s4 with ⟨p1, p2, p3, p4, p5⟩ | ⟨p1, p2⟩
  · rw [if_neg p5, if_neg (show ¬ σ (29 + 2 * s) 1 = 0 by omega), p2]
  · rw [if_pos p2, if_pos p1]
theorem zAg_0 {σ : zHp} {s so i n : Int} (h : zAg σ s so i n = 0) : 0 ≤ i ∧ 0 ≤ n ∧ i ≤ σ (29 + 2 * s) 3 ∧ n ≤ σ (29 + 2 * s) 3 - i := by
  unfold zAg at h
  by_cases p : σ (29 + 2 * s) 1 = 0
  · rw [if_pos p] at h; omega
  · rw [if_neg p] at h
    by_cases p2 : σ (29 + 2 * s) 2 = so
    · rw [if_pos p2] at h
      by_cases p3 : n < 0
      · rw [if_pos p3] at h; omega
      · rw [if_neg p3] at h
        by_cases p4 : 0 ≤ i ∧ 0 ≤ n ∧ i ≤ σ (29 + 2 * s) 3 ∧ n ≤ σ (29 + 2 * s) 3 - i
        · exact p4
        · rw [if_neg p4] at h; omega
    · rw [if_neg p2] at h; omega
theorem w_tiBody1 {υ : zHp} {b s so i n q o d v z z2 : Int} (d60 : 0 ≤ d ∧ d < 60) (h : υ (o + 1) d = v) : lf_X8_tithes_1 [0, b, s, so, i, n, q, o, d, z, z2] υ = if 0 ≤ v ∧ v ≤ 39 then some (0, [0, b, s, so, i, n, q, o, d, z, z2], υ) else some (1, [-9223372036854775808], υ) := by
  by_cases p : 0 ≤ v ∧ v ≤ 39
  · simp [lf_X8_tithes_1, xC_e, xL_e, xU_e, xB_e, xD_e, xF_e, xG_e, xA_e, xE_e, xH_e, xI_e, xZ_e, xK_e, aN_e, aC_e, cR_e, cV_e, cA_e, cO_e, cN_e, bs_e, bn_e, zg_0, zg_S, sS_e, sX_e, sF_e, sG_e, sA_e, sE_e, sEo_e, sK_e, sQ_e, sI_e, sR_e, sV_e, sB_e, sC_e, sD_e, sN_e, sP_e, sY_e, st_0, st_S, zc_0, zc_S, r_eq, r_ne, r_lt, r_le, r_gt, r_ge, rb_ite, rb_0, rb_1, d60, h, w_isWind_t p, rb_1, p]
  · simp [lf_X8_tithes_1, xC_e, xL_e, xU_e, xB_e, xD_e, xF_e, xG_e, xA_e, xE_e, xH_e, xI_e, xZ_e, xK_e, aN_e, aC_e, cR_e, cV_e, cA_e, cO_e, cN_e, bs_e, bn_e, zg_0, zg_S, sS_e, sX_e, sF_e, sG_e, sA_e, sE_e, sEo_e, sK_e, sQ_e, sI_e, sR_e, sV_e, sB_e, sC_e, sD_e, sN_e, sP_e, sY_e, st_0, st_S, zc_0, zc_S, r_eq, r_ne, r_lt, r_le, r_gt, r_ge, rb_ite, rb_0, rb_1, d60, h, w_isWind_f p, rb_0, p]
theorem v_tiBody1 {υ : zHp} {b s so i n q a f k x v z z2 : Int} (x240 : 0 ≤ x ∧ x < 240) (hx : o_iadd f k = x) (h : υ 40 x = v) : lf_X9_tithes_1 [37, b, s, so, i, n, q, a, f, k, z, z2] υ = if 0 ≤ v ∧ v ≤ 39 then some (0, [37, b, s, so, i, n, q, a, f, k, z, z2], υ) else some (1, [-9223372036854775808], υ) := by
  by_cases p : 0 ≤ v ∧ v ≤ 39
  · simp [lf_X9_tithes_1, xC_e, xL_e, xU_e, xB_e, xD_e, xF_e, xG_e, xA_e, xE_e, xH_e, xI_e, xZ_e, xK_e, aN_e, aC_e, cR_e, cV_e, cA_e, cO_e, cN_e, bs_e, bn_e, zg_0, zg_S, sS_e, sX_e, sF_e, sG_e, sA_e, sE_e, sEo_e, sK_e, sQ_e, sI_e, sR_e, sV_e, sB_e, sC_e, sD_e, sN_e, sP_e, sY_e, st_0, st_S, zc_0, zc_S, r_eq, r_ne, r_lt, r_le, r_gt, r_ge, rb_ite, rb_0, rb_1, hx, x240, h, v_isWind_t p, rb_1, p]
  · simp [lf_X9_tithes_1, xC_e, xL_e, xU_e, xB_e, xD_e, xF_e, xG_e, xA_e, xE_e, xH_e, xI_e, xZ_e, xK_e, aN_e, aC_e, cR_e, cV_e, cA_e, cO_e, cN_e, bs_e, bn_e, zg_0, zg_S, sS_e, sX_e, sF_e, sG_e, sA_e, sE_e, sEo_e, sK_e, sQ_e, sI_e, sR_e, sV_e, sB_e, sC_e, sD_e, sN_e, sP_e, sY_e, st_0, st_S, zc_0, zc_S, r_eq, r_ne, r_lt, r_le, r_gt, r_ge, rb_ite, rb_0, rb_1, hx, x240, h, v_isWind_f p, rb_0, p]
theorem w_tiBody2 {υ τ τ2 : zHp} {b s so i n q o sum d v x y z : Int} (d60 : 0 ≤ d ∧ d < 60) (h : υ (o + 1) d = v) (h1 : m_X0_blow [10, v] υ = some (0, τ)) (h2 : m_X8_partsOfTithe [0, b] τ = some (x, τ2)) (o1 : o_ladd sum x = y) : lf_X8_tithes_2 [0, b, s, so, i, n, q, o, sum, z, d] υ = some (0, [0, b, s, so, i, n, q, o, y, z, d], τ2) := by
  simp [lf_X8_tithes_2, xC_e, xL_e, xU_e, xB_e, xD_e, xF_e, xG_e, xA_e, xE_e, xH_e, xI_e, xZ_e, xK_e, aN_e, aC_e, cR_e, cV_e, cA_e, cO_e, cN_e, bs_e, bn_e, zg_0, zg_S, sS_e, sX_e, sF_e, sG_e, sA_e, sE_e, sEo_e, sK_e, sQ_e, sI_e, sR_e, sV_e, sB_e, sC_e, sD_e, sN_e, sP_e, sY_e, st_0, st_S, zc_0, zc_S, r_eq, r_ne, r_lt, r_le, r_gt, r_ge, rb_ite, rb_0, rb_1, d60, h, h1, h2, o1]
theorem v_tiBody2 {υ τ τ2 : zHp} {b s so i n q a f sum k x v y w z : Int} (x240 : 0 ≤ x ∧ x < 240) (hx : o_iadd f k = x) (h : υ 40 x = v) (h1 : m_X9_layLoud [37, v] υ = some (0, τ)) (h2 : m_X9_tithesOf [37, b] τ = some (w, τ2)) (o1 : o_ladd sum w = y) : lf_X9_tithes_2 [37, b, s, so, i, n, q, a, f, sum, z, k] υ = some (0, [37, b, s, so, i, n, q, a, f, y, z, k], τ2) := by
  simp [lf_X9_tithes_2, xC_e, xL_e, xU_e, xB_e, xD_e, xF_e, xG_e, xA_e, xE_e, xH_e, xI_e, xZ_e, xK_e, aN_e, aC_e, cR_e, cV_e, cA_e, cO_e, cN_e, bs_e, bn_e, zg_0, zg_S, sS_e, sX_e, sF_e, sG_e, sA_e, sE_e, sEo_e, sK_e, sQ_e, sI_e, sR_e, sV_e, sB_e, sC_e, sD_e, sN_e, sP_e, sY_e, st_0, st_S, zc_0, zc_S, r_eq, r_ne, r_lt, r_le, r_gt, r_ge, rb_ite, rb_0, rb_1, hx, x240, h, h1, h2, o1]
theorem zcR (r : Int → Int → Bool) (f g : zX) (e : List Int) (σ : zHp) {a b : Int} (h1 : f e σ = some (a, σ)) (h2 : g e σ = some (b, σ)) : cR r f g e σ = some (r a b, σ) := by
  simp only [cR_e, h1, h2, bs_e]
theorem w_tiC1 {υ : zHp} {b s so i n q o d z z2 m : Int} (h : o_iadd i n = m) : lc_X8_tithes_1 [0, b, s, so, i, n, q, o, d, z, z2] υ = some (decide (d < m), υ) := by
  simp [lc_X8_tithes_1, xC_e, xL_e, xU_e, xB_e, xD_e, xF_e, xG_e, xA_e, xE_e, xH_e, xI_e, xZ_e, xK_e, aN_e, aC_e, cR_e, cV_e, cA_e, cO_e, cN_e, bs_e, bn_e, zg_0, zg_S, sS_e, sX_e, sF_e, sG_e, sA_e, sE_e, sEo_e, sK_e, sQ_e, sI_e, sR_e, sV_e, sB_e, sC_e, sD_e, sN_e, sP_e, sY_e, st_0, st_S, zc_0, zc_S, r_eq, r_ne, r_lt, r_le, r_gt, r_ge, rb_ite, rb_0, rb_1, h]
theorem w_tiC2 {υ : zHp} {b s so i n q o d z z2 m : Int} (h : o_iadd i n = m) : lc_X8_tithes_2 [0, b, s, so, i, n, q, o, z, z2, d] υ = some (decide (d < m), υ) := by
  simp [lc_X8_tithes_2, xC_e, xL_e, xU_e, xB_e, xD_e, xF_e, xG_e, xA_e, xE_e, xH_e, xI_e, xZ_e, xK_e, aN_e, aC_e, cR_e, cV_e, cA_e, cO_e, cN_e, bs_e, bn_e, zg_0, zg_S, sS_e, sX_e, sF_e, sG_e, sA_e, sE_e, sEo_e, sK_e, sQ_e, sI_e, sR_e, sV_e, sB_e, sC_e, sD_e, sN_e, sP_e, sY_e, st_0, st_S, zc_0, zc_S, r_eq, r_ne, r_lt, r_le, r_gt, r_ge, rb_ite, rb_0, rb_1, h]
theorem v_tiC1 {υ : zHp} {b s so i n q a f k z z2 : Int} : lc_X9_tithes_1 [37, b, s, so, i, n, q, a, f, k, z, z2] υ = some (decide (k < n), υ) := by
  simp [lc_X9_tithes_1, xC_e, xL_e, xU_e, xB_e, xD_e, xF_e, xG_e, xA_e, xE_e, xH_e, xI_e, xZ_e, xK_e, aN_e, aC_e, cR_e, cV_e, cA_e, cO_e, cN_e, bs_e, bn_e, zg_0, zg_S, sS_e, sX_e, sF_e, sG_e, sA_e, sE_e, sEo_e, sK_e, sQ_e, sI_e, sR_e, sV_e, sB_e, sC_e, sD_e, sN_e, sP_e, sY_e, st_0, st_S, zc_0, zc_S, r_eq, r_ne, r_lt, r_le, r_gt, r_ge, rb_ite, rb_0, rb_1]
theorem v_tiC2 {υ : zHp} {b s so i n q a f k z z2 : Int} : lc_X9_tithes_2 [37, b, s, so, i, n, q, a, f, z, z2, k] υ = some (decide (k < n), υ) := by
  simp [lc_X9_tithes_2, xC_e, xL_e, xU_e, xB_e, xD_e, xF_e, xG_e, xA_e, xE_e, xH_e, xI_e, xZ_e, xK_e, aN_e, aC_e, cR_e, cV_e, cA_e, cO_e, cN_e, bs_e, bn_e, zg_0, zg_S, sS_e, sX_e, sF_e, sG_e, sA_e, sE_e, sEo_e, sK_e, sQ_e, sI_e, sR_e, sV_e, sB_e, sC_e, sD_e, sN_e, sP_e, sY_e, st_0, st_S, zc_0, zc_S, r_eq, r_ne, r_lt, r_le, r_gt, r_ge, rb_ite, rb_0, rb_1]
theorem w_tiEval1 {σ : zHp} {b s so i n q ag : Int} (g1 : 0 ≤ b ∧ b < σ 6 0) (g2 : 0 ≤ s ∧ s < 4) (g3 : 0 ≤ so ∧ so ≤ 2) (h : m_X6_faultOfRow [29 + 2 * s, so, i, n] (zput σ 0 8 0) = some (ag, zput σ 0 8 0)) (hq : ag ≠ 0 ∨ ¬ (0 ≤ q ∧ q ≤ 1)) : m_X8_tithes [0, b, s, so, i, n, q] σ = some (-9223372036854775808, zput σ 0 8 ag) := by
  have g1' : 0 ≤ b ∧ b < zput σ 0 8 0 6 0 := by rw [zput_o (by decide)]; exact g1
  by_cases p : ag = 0
  · have q2 : ¬ (0 ≤ q ∧ q ≤ 1) := hq.resolve_left (fun z => z p)
    subst p
    simp [e_X8_tithes, d_X8_tithes, xC_e, xL_e, xU_e, xB_e, xD_e, xF_e, xG_e, xA_e, xE_e, xH_e, xI_e, xZ_e, xK_e, aN_e, aC_e, cR_e, cV_e, cA_e, cO_e, cN_e, bs_e, bn_e, zg_0, zg_S, sS_e, sX_e, sF_e, sG_e, sA_e, sE_e, sEo_e, sK_e, sQ_e, sI_e, sR_e, sV_e, sB_e, sC_e, sD_e, sN_e, sP_e, sY_e, st_0, st_S, zc_0, zc_S, r_eq, r_ne, r_lt, r_le, r_gt, r_ge, rb_ite, rb_0, rb_1, w_isBell_t g1', w_isSheet_t g2, w_isSort_t g3, g2, h, w_isOneOfTwo_f q2, zput_self, zput_put]
  · simp [e_X8_tithes, d_X8_tithes, xC_e, xL_e, xU_e, xB_e, xD_e, xF_e, xG_e, xA_e, xE_e, xH_e, xI_e, xZ_e, xK_e, aN_e, aC_e, cR_e, cV_e, cA_e, cO_e, cN_e, bs_e, bn_e, zg_0, zg_S, sS_e, sX_e, sF_e, sG_e, sA_e, sE_e, sEo_e, sK_e, sQ_e, sI_e, sR_e, sV_e, sB_e, sC_e, sD_e, sN_e, sP_e, sY_e, st_0, st_S, zc_0, zc_S, r_eq, r_ne, r_lt, r_le, r_gt, r_ge, rb_ite, rb_0, rb_1, w_isBell_t g1', w_isSheet_t g2, w_isSort_t g3, g2, h, p, zput_self, zput_put]
theorem w_tiEval2 {σ : zHp} {b s so i n q : Int} {t : Nat} {e : List Int} (g1 : 0 ≤ b ∧ b < σ 6 0) (g2 : 0 ≤ s ∧ s < 4) (g3 : 0 ≤ so ∧ so ≤ 2) (g4 : 0 ≤ q ∧ q ≤ 1) (h : m_X6_faultOfRow [29 + 2 * s, so, i, n] (zput σ 0 8 0) = some (0, zput σ 0 8 0)) (hl : sW lc_X8_tithes_1 lf_X8_tithes_1 ls_X8_tithes_1 [0, b, s, so, i, n, q, 29 + 2 * s, i, 0, 0] (zput σ 0 8 0) = some (1, [-9223372036854775808], zput σ 0 8 0)) : m_X8_tithes [0, b, s, so, i, n, q] σ = some (-9223372036854775808, zput σ 0 8 0) := by
  have g1' : 0 ≤ b ∧ b < zput σ 0 8 0 6 0 := by rw [zput_o (by decide)]; exact g1
  simp [e_X8_tithes, d_X8_tithes, xC_e, xL_e, xU_e, xB_e, xD_e, xF_e, xG_e, xA_e, xE_e, xH_e, xI_e, xZ_e, xK_e, aN_e, aC_e, cR_e, cV_e, cA_e, cO_e, cN_e, bs_e, bn_e, zg_0, zg_S, sS_e, sX_e, sF_e, sG_e, sA_e, sE_e, sEo_e, sK_e, sQ_e, sI_e, sR_e, sV_e, sB_e, sC_e, sD_e, sN_e, sP_e, sY_e, st_0, st_S, zc_0, zc_S, r_eq, r_ne, r_lt, r_le, r_gt, r_ge, rb_ite, rb_0, rb_1, w_isBell_t g1', w_isSheet_t g2, w_isSort_t g3, g2, h, w_isOneOfTwo_t g4, zput_self, zput_put, hl]
theorem w_tiEval3 {σ τ : zHp} {b s so i n q d sum r : Int} (g1 : 0 ≤ b ∧ b < σ 6 0) (g2 : 0 ≤ s ∧ s < 4) (g3 : 0 ≤ so ∧ so ≤ 2) (g4 : 0 ≤ q ∧ q ≤ 1) (h : m_X6_faultOfRow [29 + 2 * s, so, i, n] (zput σ 0 8 0) = some (0, zput σ 0 8 0)) (hl : sW lc_X8_tithes_1 lf_X8_tithes_1 ls_X8_tithes_1 [0, b, s, so, i, n, q, 29 + 2 * s, i, 0, 0] (zput σ 0 8 0) = some (0, [0, b, s, so, i, n, q, 29 + 2 * s, d, 0, 0], zput σ 0 8 0))
    (hl2 : sW lc_X8_tithes_2 lf_X8_tithes_2 ls_X8_tithes_2 [0, b, s, so, i, n, q, 29 + 2 * s, 0, 0, i] (zput σ 0 8 0) = some (0, [0, b, s, so, i, n, q, 29 + 2 * s, sum, 0, d], τ)) (hs : m_X8_share [sum, 60, q] τ = some (r, τ)) : m_X8_tithes [0, b, s, so, i, n, q] σ = some (r, τ) := by
  have g1' : 0 ≤ b ∧ b < zput σ 0 8 0 6 0 := by rw [zput_o (by decide)]; exact g1
  simp [e_X8_tithes, d_X8_tithes, xC_e, xL_e, xU_e, xB_e, xD_e, xF_e, xG_e, xA_e, xE_e, xH_e, xI_e, xZ_e, xK_e, aN_e, aC_e, cR_e, cV_e, cA_e, cO_e, cN_e, bs_e, bn_e, zg_0, zg_S, sS_e, sX_e, sF_e, sG_e, sA_e, sE_e, sEo_e, sK_e, sQ_e, sI_e, sR_e, sV_e, sB_e, sC_e, sD_e, sN_e, sP_e, sY_e, st_0, st_S, zc_0, zc_S, r_eq, r_ne, r_lt, r_le, r_gt, r_ge, rb_ite, rb_0, rb_1, w_isBell_t g1', w_isSheet_t g2, w_isSort_t g3, g2, h, w_isOneOfTwo_t g4, zput_self, zput_put, hl, hl2, hs]
theorem v_tiEval1 {σ : zHp} {b s so i n q ag : Int} (g1 : 0 ≤ b ∧ b < σ 37 14) (g2 : 0 ≤ s ∧ s < 4) (g3 : 0 ≤ so ∧ so ≤ 2) (h : m_X9_against [37, s, so, i, n] (zput σ 37 0 0) = some (ag, zput σ 37 0 0)) (hq : ag ≠ 0) : m_X9_tithes [37, b, s, so, i, n, q] σ = some (-9223372036854775808, zput σ 37 0 ag) := by
  have g1' : 0 ≤ b ∧ b < zput σ 37 0 0 37 14 := by rw [zput_i (by decide)]; exact g1
  simp [e_X9_tithes, d_X9_tithes, xC_e, xL_e, xU_e, xB_e, xD_e, xF_e, xG_e, xA_e, xE_e, xH_e, xI_e, xZ_e, xK_e, aN_e, aC_e, cR_e, cV_e, cA_e, cO_e, cN_e, bs_e, bn_e, zg_0, zg_S, sS_e, sX_e, sF_e, sG_e, sA_e, sE_e, sEo_e, sK_e, sQ_e, sI_e, sR_e, sV_e, sB_e, sC_e, sD_e, sN_e, sP_e, sY_e, st_0, st_S, zc_0, zc_S, r_eq, r_ne, r_lt, r_le, r_gt, r_ge, rb_ite, rb_0, rb_1, v_isBell_t g1', v_isSheet_t g2, v_isSort_t g3, h, hq, v_lost, zput_put]
theorem v_tiEval2 {σ : zHp} {b s so i n q f : Int} {t : Nat} {e : List Int} (g1 : 0 ≤ b ∧ b < σ 37 14) (g2 : 0 ≤ s ∧ s < 4) (g3 : 0 ≤ so ∧ so ≤ 2) (h : m_X9_against [37, s, so, i, n] (zput σ 37 0 0) = some (0, zput σ 37 0 0)) (hf : o_iadd (o_imul 60 s) i = f) (hl : sW lc_X9_tithes_1 lf_X9_tithes_1 ls_X9_tithes_1 [37, b, s, so, i, n, q, 0, f, 0, 0, 0] (zput σ 37 0 0) = some (t, e, zput σ 37 0 0)) (hq : (t = 1 ∧ e = [-9223372036854775808]) ∨ (t = 0 ∧ e = [37, b, s, so, i, n, q, 0, f, n, 0, 0] ∧ ¬ (0 ≤ q ∧ q ≤ 1))) : m_X9_tithes [37, b, s, so, i, n, q] σ = some (-9223372036854775808, zput σ 37 0 0) := by
  have g1' : 0 ≤ b ∧ b < zput σ 37 0 0 37 14 := by rw [zput_i (by decide)]; exact g1
  rcases hq with ⟨rfl, rfl⟩ | ⟨rfl, rfl, q2⟩
  · simp [e_X9_tithes, d_X9_tithes, xC_e, xL_e, xU_e, xB_e, xD_e, xF_e, xG_e, xA_e, xE_e, xH_e, xI_e, xZ_e, xK_e, aN_e, aC_e, cR_e, cV_e, cA_e, cO_e, cN_e, bs_e, bn_e, zg_0, zg_S, sS_e, sX_e, sF_e, sG_e, sA_e, sE_e, sEo_e, sK_e, sQ_e, sI_e, sR_e, sV_e, sB_e, sC_e, sD_e, sN_e, sP_e, sY_e, st_0, st_S, zc_0, zc_S, r_eq, r_ne, r_lt, r_le, r_gt, r_ge, rb_ite, rb_0, rb_1, v_isBell_t g1', v_isSheet_t g2, v_isSort_t g3, h, hf, hl]
  · simp [e_X9_tithes, d_X9_tithes, xC_e, xL_e, xU_e, xB_e, xD_e, xF_e, xG_e, xA_e, xE_e, xH_e, xI_e, xZ_e, xK_e, aN_e, aC_e, cR_e, cV_e, cA_e, cO_e, cN_e, bs_e, bn_e, zg_0, zg_S, sS_e, sX_e, sF_e, sG_e, sA_e, sE_e, sEo_e, sK_e, sQ_e, sI_e, sR_e, sV_e, sB_e, sC_e, sD_e, sN_e, sP_e, sY_e, st_0, st_S, zc_0, zc_S, r_eq, r_ne, r_lt, r_le, r_gt, r_ge, rb_ite, rb_0, rb_1, v_isBell_t g1', v_isSheet_t g2, v_isSort_t g3, h, hf, hl, v_within_f q2]
theorem v_tiEval3 {σ τ : zHp} {b s so i n q f sum r : Int} (g1 : 0 ≤ b ∧ b < σ 37 14) (g2 : 0 ≤ s ∧ s < 4) (g3 : 0 ≤ so ∧ so ≤ 2) (g4 : 0 ≤ q ∧ q ≤ 1) (h : m_X9_against [37, s, so, i, n] (zput σ 37 0 0) = some (0, zput σ 37 0 0)) (hf : o_iadd (o_imul 60 s) i = f) (hl : sW lc_X9_tithes_1 lf_X9_tithes_1 ls_X9_tithes_1 [37, b, s, so, i, n, q, 0, f, 0, 0, 0] (zput σ 37 0 0) = some (0, [37, b, s, so, i, n, q, 0, f, n, 0, 0], zput σ 37 0 0))
    (hl2 : sW lc_X9_tithes_2 lf_X9_tithes_2 ls_X9_tithes_2 [37, b, s, so, i, n, q, 0, f, 0, 0, 0] (zput σ 37 0 0) = some (0, [37, b, s, so, i, n, q, 0, f, sum, 0, n], τ)) (hs : m_X9_share [sum, 60, q] τ = some (r, τ)) : m_X9_tithes [37, b, s, so, i, n, q] σ = some (r, τ) := by
  have g1' : 0 ≤ b ∧ b < zput σ 37 0 0 37 14 := by rw [zput_i (by decide)]; exact g1
  simp [e_X9_tithes, d_X9_tithes, xC_e, xL_e, xU_e, xB_e, xD_e, xF_e, xG_e, xA_e, xE_e, xH_e, xI_e, xZ_e, xK_e, aN_e, aC_e, cR_e, cV_e, cA_e, cO_e, cN_e, bs_e, bn_e, zg_0, zg_S, sS_e, sX_e, sF_e, sG_e, sA_e, sE_e, sEo_e, sK_e, sQ_e, sI_e, sR_e, sV_e, sB_e, sC_e, sD_e, sN_e, sP_e, sY_e, st_0, st_S, zc_0, zc_S, r_eq, r_ne, r_lt, r_le, r_gt, r_ge, rb_ite, rb_0, rb_1, v_isBell_t g1', v_isSheet_t g2, v_isSort_t g3, h, hf, hl, v_within_t g4, hl2, hs]
theorem zp10 : zp_10 zInv := by
  intro b s so i n q hbr hsr hsor hir hnr hqr σ hI
  have nN := zN_eq hI.2.2.1
  have hN := zI3 hI
  have hS := zI10 hI
  obtain ⟨nb1, nb2⟩ := zNb_e hI
  obtain ⟨nc1, nc2⟩ := zNc_e hI
  have ha : zOkA [0, 0, 0, 0, 0, 0] [b, s, so, i, n, q] := ⟨hbr, hsr, hsor, hir, hnr, hqr, trivial⟩
  by_cases g : (0 ≤ b ∧ b < σ 6 0) ∧ (0 ≤ s ∧ s < 4) ∧ (0 ≤ so ∧ so ≤ 2)
  case neg =>
    refine zqf k_X8_tithes k_X9_tithes hI ha (r := -9223372036854775808) (x := 0) ?_ (fun τ hτ => ?_)
    · by_cases g1 : 0 ≤ b ∧ b < zput σ 0 8 0 6 0
      · by_cases g2 : 0 ≤ s ∧ s < 4
        · have g3 : ¬ (0 ≤ so ∧ so ≤ 2) := fun z => g ⟨by rw [zput_o (by decide)] at g1; exact g1, g2, z⟩
          simp [e_X8_tithes, d_X8_tithes, xC_e, xL_e, xU_e, xB_e, xD_e, xF_e, xG_e, xA_e, xE_e, xH_e, xI_e, xZ_e, xK_e, aN_e, aC_e, cR_e, cV_e, cA_e, cO_e, cN_e, bs_e, bn_e, zg_0, zg_S, sS_e, sX_e, sF_e, sG_e, sA_e, sE_e, sEo_e, sK_e, sQ_e, sI_e, sR_e, sV_e, sB_e, sC_e, sD_e, sN_e, sP_e, sY_e, st_0, st_S, zc_0, zc_S, r_eq, r_ne, r_lt, r_le, r_gt, r_ge, rb_ite, rb_0, rb_1, w_isBell_t g1, w_isSheet_t g2, w_isSort_f g3]
        · simp [e_X8_tithes, d_X8_tithes, xC_e, xL_e, xU_e, xB_e, xD_e, xF_e, xG_e, xA_e, xE_e, xH_e, xI_e, xZ_e, xK_e, aN_e, aC_e, cR_e, cV_e, cA_e, cO_e, cN_e, bs_e, bn_e, zg_0, zg_S, sS_e, sX_e, sF_e, sG_e, sA_e, sE_e, sEo_e, sK_e, sQ_e, sI_e, sR_e, sV_e, sB_e, sC_e, sD_e, sN_e, sP_e, sY_e, st_0, st_S, zc_0, zc_S, r_eq, r_ne, r_lt, r_le, r_gt, r_ge, rb_ite, rb_0, rb_1, w_isBell_t g1, w_isSheet_f g2]
      · simp [e_X8_tithes, d_X8_tithes, xC_e, xL_e, xU_e, xB_e, xD_e, xF_e, xG_e, xA_e, xE_e, xH_e, xI_e, xZ_e, xK_e, aN_e, aC_e, cR_e, cV_e, cA_e, cO_e, cN_e, bs_e, bn_e, zg_0, zg_S, sS_e, sX_e, sF_e, sG_e, sA_e, sE_e, sEo_e, sK_e, sQ_e, sI_e, sR_e, sV_e, sB_e, sC_e, sD_e, sN_e, sP_e, sY_e, st_0, st_S, zc_0, zc_S, r_eq, r_ne, r_lt, r_le, r_gt, r_ge, rb_ite, rb_0, rb_1, w_isBell_f g1]
    · by_cases g1 : 0 ≤ b ∧ b < zput τ 37 0 0 37 14
      · by_cases g2 : 0 ≤ s ∧ s < 4
        · have g3 : ¬ (0 ≤ so ∧ so ≤ 2) := fun z => g ⟨by rw [zput_i (by decide), hτ 37 14 (by omega), hN.1] at g1; exact g1, g2, z⟩
          simp [e_X9_tithes, d_X9_tithes, xC_e, xL_e, xU_e, xB_e, xD_e, xF_e, xG_e, xA_e, xE_e, xH_e, xI_e, xZ_e, xK_e, aN_e, aC_e, cR_e, cV_e, cA_e, cO_e, cN_e, bs_e, bn_e, zg_0, zg_S, sS_e, sX_e, sF_e, sG_e, sA_e, sE_e, sEo_e, sK_e, sQ_e, sI_e, sR_e, sV_e, sB_e, sC_e, sD_e, sN_e, sP_e, sY_e, st_0, st_S, zc_0, zc_S, r_eq, r_ne, r_lt, r_le, r_gt, r_ge, rb_ite, rb_0, rb_1, v_isBell_t g1, v_isSheet_t g2, v_isSort_f g3]
        · simp [e_X9_tithes, d_X9_tithes, xC_e, xL_e, xU_e, xB_e, xD_e, xF_e, xG_e, xA_e, xE_e, xH_e, xI_e, xZ_e, xK_e, aN_e, aC_e, cR_e, cV_e, cA_e, cO_e, cN_e, bs_e, bn_e, zg_0, zg_S, sS_e, sX_e, sF_e, sG_e, sA_e, sE_e, sEo_e, sK_e, sQ_e, sI_e, sR_e, sV_e, sB_e, sC_e, sD_e, sN_e, sP_e, sY_e, st_0, st_S, zc_0, zc_S, r_eq, r_ne, r_lt, r_le, r_gt, r_ge, rb_ite, rb_0, rb_1, v_isBell_t g1, v_isSheet_f g2]
      · simp [e_X9_tithes, d_X9_tithes, xC_e, xL_e, xU_e, xB_e, xD_e, xF_e, xG_e, xA_e, xE_e, xH_e, xI_e, xZ_e, xK_e, aN_e, aC_e, cR_e, cV_e, cA_e, cO_e, cN_e, bs_e, bn_e, zg_0, zg_S, sS_e, sX_e, sF_e, sG_e, sA_e, sE_e, sEo_e, sK_e, sQ_e, sI_e, sR_e, sV_e, sB_e, sC_e, sD_e, sN_e, sP_e, sY_e, st_0, st_S, zc_0, zc_S, r_eq, r_ne, r_lt, r_le, r_gt, r_ge, rb_ite, rb_0, rb_1, v_isBell_f g1]
  obtain ⟨g1, g2, g3⟩ := g
  obtain ⟨-, s2, s3, s4, s5⟩ := hS s g2.1 g2.2
  have fr : m_X6_faultOfRow [29 + 2 * s, so, i, n] (zput σ 0 8 0) = some (zAg σ s so i n, zput σ 0 8 0) := by
    have e : ∀ k, zput σ 0 8 0 (29 + 2 * s) k = σ (29 + 2 * s) k := fun k => zput_o (by omega) k
    rw [w_faultOfRow (by rw [e]; omega), e, e, e]
    rfl
  have agn : ∀ τ : zHp, (∀ a b : Int, ¬ (a = 0 ∧ b = 8) → τ a b = σ a b) → m_X9_against [37, s, so, i, n] (zput τ 37 0 0) = some (zAg σ s so i n, zput τ 37 0 0) := fun τ hτ => by
    rw [v_against g2 (st := σ 38 s) (len := σ 39 s) (by rw [zput_o (by decide), hτ 38 s (by omega)]) (by rw [zput_o (by decide), hτ 39 s (by omega)]) ⟨s3, s4⟩, zAg_38 hS g2]
  have g1t : ∀ τ : zHp, (∀ a b : Int, ¬ (a = 0 ∧ b = 8) → τ a b = σ a b) → 0 ≤ b ∧ b < τ 37 14 := fun τ hτ => by
    rw [hτ 37 14 (by omega), hN.1]; exact g1
  by_cases ga : zAg σ s so i n = 0
  case neg =>
    exact zqf k_X8_tithes k_X9_tithes hI ha (w_tiEval1 g1 g2 g3 fr (Or.inl ga)) (fun τ hτ => v_tiEval1 (g1t τ hτ) g2 g3 (agn τ hτ) ga)
  obtain ⟨a1, a2, a3, a4⟩ := zAg_0 ga
  rw [ga] at fr agn
  have f60 : o_iadd (o_imul 60 s) i = 60 * s + i := by
    have : o_imul 60 s = 60 * s := w32_id ⟨by omega, by omega⟩
    rw [this]
    exact w32_id ⟨by omega, by omega⟩
  have inn : o_iadd i n = i + n := w32_id ⟨by omega, by omega⟩
  have nn : ((n.toNat : Nat) : Int) = n := by omega
  generalize hV : (fun k : Nat => σ 40 (60 * s + (i + (k : Int)))) = V
  have V40 : ∀ k : Nat, σ 40 (60 * s + i + (k : Int)) = V k := fun k => by rw [← hV, show 60 * s + i + (k : Int) = 60 * s + (i + (k : Int)) by omega]
  have V30 : ∀ k : Nat, k < n.toNat → σ (29 + 2 * s + 1) (i + (k : Int)) = V k := fun k hk => by rw [← hV]; exact (s5 (i + (k : Int)) (by omega) (by omega)).symm
  -- the first walks
  have l1 : ∃ t e, sW lc_X8_tithes_1 lf_X8_tithes_1 ls_X8_tithes_1 [0, b, s, so, i, n, q, 29 + 2 * s, i, 0, 0] (zput σ 0 8 0) = some (t, e, zput σ 0 8 0) ∧ ((t = 1 ∧ e = [-9223372036854775808] ∧ ¬ ∀ k : Nat, k < n.toNat → 0 ≤ V k ∧ V k ≤ 39) ∨ (t = 0 ∧ (∀ k : Nat, k < n.toNat → 0 ≤ V k ∧ V k ≤ 39) ∧ e = [0, b, s, so, i, n, q, 29 + 2 * s, i + (n.toNat : Int), 0, 0])) := by
    have hl := zfor (c := lc_X8_tithes_1) (f := lf_X8_tithes_1) (i := 8) (lo := i) (σ := zput σ 0 8 0) n.toNat (fun k => [0, b, s, so, i, n, q, 29 + 2 * s, i + (k : Int), 0, 0]) (fun k τ => τ = zput σ 0 8 0 ∧ ∀ j : Nat, j < k → 0 ≤ V j ∧ V j ≤ 39)
      (fun t e τ => τ = zput σ 0 8 0 ∧ ((t = 1 ∧ e = [-9223372036854775808] ∧ ¬ ∀ k : Nat, k < n.toNat → 0 ≤ V k ∧ V k ≤ 39) ∨ (t = 0 ∧ (∀ k : Nat, k < n.toNat → 0 ≤ V k ∧ V k ≤ 39) ∧ e = [0, b, s, so, i, n, q, 29 + 2 * s, i + (n.toNat : Int), 0, 0])))
      ⟨rfl, fun j hj => by omega⟩ (fun k => rfl) (by omega) (by omega)
      (fun k τ hk h => by
        rw [w_tiC1 inn]
        have : (i + (k : Int) < i + n) ↔ k < n.toNat := by omega
        simp only [this])
      (fun k τ hk h => by
        obtain ⟨rfl, h2⟩ := h
        have body := w_tiBody1 (υ := zput σ 0 8 0) (b := b) (s := s) (so := so) (i := i) (n := n) (q := q) (o := 29 + 2 * s) (d := i + (k : Int)) (v := V k) (z := 0) (z2 := 0) (by omega) (by rw [zput_o (by omega)]; exact V30 k hk)
        rw [body]
        by_cases p : 0 ≤ V k ∧ V k ≤ 39
        · rw [if_pos p]
          refine Or.inr ⟨_, _, _, rfl, Or.inl rfl, rfl, rfl, rfl, fun j hj => ?_⟩
          by_cases z : j = k
          · rw [z]; exact p
          · exact h2 j (by omega)
        · rw [if_neg p]
          exact Or.inl ⟨_, _, rfl, rfl, Or.inl ⟨rfl, rfl, fun z => p (z k hk)⟩⟩)
      (fun τ h => ⟨h.1, Or.inr ⟨rfl, h.2, rfl⟩⟩)
    obtain ⟨t, e, τ, hl, rfl, hq⟩ := hl
    have e0 : i + ((0 : Nat) : Int) = i := by omega
    have hl2 : sW lc_X8_tithes_1 lf_X8_tithes_1 ls_X8_tithes_1 [0, b, s, so, i, n, q, 29 + 2 * s, i + ((0 : Nat) : Int), 0, 0] (zput σ 0 8 0) = some (t, e, zput σ 0 8 0) := hl
    rw [e0] at hl2
    exact ⟨t, e, hl2, hq⟩
  have l2 : ∀ τ : zHp, (∀ a b : Int, ¬ (a = 0 ∧ b = 8) → ¬ (a = 37 ∧ b = 0) → ¬ (a = 12) → ¬ (a = 10) → τ a b = σ a b) → ∃ t e, sW lc_X9_tithes_1 lf_X9_tithes_1 ls_X9_tithes_1 [37, b, s, so, i, n, q, 0, 60 * s + i, 0, 0, 0] τ = some (t, e, τ) ∧ ((t = 1 ∧ e = [-9223372036854775808] ∧ ¬ ∀ k : Nat, k < n.toNat → 0 ≤ V k ∧ V k ≤ 39) ∨ (t = 0 ∧ (∀ k : Nat, k < n.toNat → 0 ≤ V k ∧ V k ≤ 39) ∧ e = [37, b, s, so, i, n, q, 0, 60 * s + i, n, 0, 0])) := by
    intro τ hτ
    have hl := zfor (c := lc_X9_tithes_1) (f := lf_X9_tithes_1) (i := 9) (lo := 0) (σ := τ) n.toNat (fun k => [37, b, s, so, i, n, q, 0, 60 * s + i, 0 + (k : Int), 0, 0]) (fun k x => x = τ ∧ ∀ j : Nat, j < k → 0 ≤ V j ∧ V j ≤ 39)
      (fun t e x => x = τ ∧ ((t = 1 ∧ e = [-9223372036854775808] ∧ ¬ ∀ k : Nat, k < n.toNat → 0 ≤ V k ∧ V k ≤ 39) ∨ (t = 0 ∧ (∀ k : Nat, k < n.toNat → 0 ≤ V k ∧ V k ≤ 39) ∧ e = [37, b, s, so, i, n, q, 0, 60 * s + i, 0 + (n.toNat : Int), 0, 0])))
      ⟨rfl, fun j hj => by omega⟩ (fun k => rfl) (by omega) (by omega)
      (fun k x hk h => by
        rw [v_tiC1]
        have : (0 + (k : Int) < n) ↔ k < n.toNat := by omega
        simp only [this])
      (fun k x hk h => by
        obtain ⟨rfl, h2⟩ := h
        have ex : o_iadd (60 * s + i) (0 + (k : Int)) = 60 * s + i + (k : Int) := by
          have : o_iadd (60 * s + i) (0 + (k : Int)) = 60 * s + i + (0 + (k : Int)) := w32_id ⟨by omega, by omega⟩
          omega
        have body := v_tiBody1 (υ := x) (b := b) (s := s) (so := so) (i := i) (n := n) (q := q) (a := 0) (f := 60 * s + i) (k := 0 + (k : Int)) (v := V k) (z := 0) (z2 := 0) (x := 60 * s + i + (k : Int)) (by omega) ex (by rw [hτ 40 _ (by omega) (by omega) (by omega) (by omega)]; exact V40 k)
        rw [body]
        by_cases p : 0 ≤ V k ∧ V k ≤ 39
        · rw [if_pos p]
          refine Or.inr ⟨_, _, _, rfl, Or.inl rfl, rfl, rfl, rfl, fun j hj => ?_⟩
          by_cases z : j = k
          · rw [z]; exact p
          · exact h2 j (by omega)
        · rw [if_neg p]
          exact Or.inl ⟨_, _, rfl, rfl, Or.inl ⟨rfl, rfl, fun z => p (z k hk)⟩⟩)
      (fun x h => ⟨h.1, Or.inr ⟨rfl, h.2, rfl⟩⟩)
    obtain ⟨t, e, x, hl, rfl, hq⟩ := hl
    have e0 : (0 : Int) + (n.toNat : Int) = n := by omega
    rw [e0] at hq
    exact ⟨t, e, hl, hq⟩
  obtain ⟨t1, e1, l1, q1⟩ := l1
  by_cases g4 : (0 ≤ q ∧ q ≤ 1) ∧ (∀ k : Nat, k < n.toNat → 0 ≤ V k ∧ V k ≤ 39)
  case neg =>
    refine zqf k_X8_tithes k_X9_tithes hI ha (r := -9223372036854775808) (x := 0) ?_ (fun τ hτ => ?_)
    · by_cases g5 : 0 ≤ q ∧ q ≤ 1
      · rcases q1 with ⟨rfl, rfl, -⟩ | ⟨-, q2, -⟩
        · exact w_tiEval2 (t := 0) (e := []) g1 g2 g3 g5 fr l1
        · exact absurd ⟨g5, q2⟩ g4
      · exact w_tiEval1 g1 g2 g3 fr (Or.inr g5)
    · obtain ⟨t2, e2, l2, q2⟩ := l2 (zput τ 37 0 0) (fun a b z1 z2 _ _ => by rw [zput_n z2, hτ a b z1])
      refine v_tiEval2 (g1t τ hτ) g2 g3 (agn τ hτ) f60 l2 ?_
      rcases q2 with ⟨q2, q3, -⟩ | ⟨q2, q3, q4⟩
      · exact Or.inl ⟨q2, q3⟩
      · exact Or.inr ⟨q2, q4, fun z => g4 ⟨z, q3⟩⟩
  obtain ⟨g4, hall⟩ := g4
  rcases q1 with ⟨-, -, q1⟩ | ⟨rfl, -, rfl⟩
  · exact absurd hall q1
  have hW := zWt_I hI
  have hh : ∀ i : Nat, i < zNc σ → (0 ≤ σ 2 i ∧ σ 2 i ≤ 9) ∧ σ 41 i = σ 2 i := fun i hi => by
    have := hI.2.2.2.1 (i : Int) (by omega) (by omega)
    exact ⟨⟨this.1, this.2.1⟩, this.2.2.1⟩
  generalize hD : (fun k : Nat => zSm (zPo (zFF σ (V k)) (σ 9) (zGG σ (V k)) (zNb σ) (fun i => σ 2 i) b) (zNc σ)) = D
  have hDe : ∀ k : Nat, zSm (zPo (zFF σ (V k)) (σ 9) (zGG σ (V k)) (zNb σ) (fun i => σ 2 i) b) (zNc σ) = D k := fun k => congrFun hD k
  have hDb : ∀ k : Nat, 0 ≤ D k ∧ D k ≤ 18000 := fun k => by
    rw [← hDe]
    have := zSm_b (f := zPo (zFF σ (V k)) (σ 9) (zGG σ (V k)) (zNb σ) (fun i => σ 2 i) b) (lo := 0) (hi := 600) (zNc σ) (fun i hi => zPo_b (by omega) (hh i hi).1)
    omega
  have hDs : ∀ k : Nat, k ≤ 60 → 0 ≤ zSm D k ∧ zSm D k ≤ 1080000 := fun k hk => by
    have := zSm_b (f := D) (lo := 0) (hi := 18000) k (fun i _ => hDb i)
    omega
  obtain ⟨τ, m1, m2⟩ := zfor0 (c := lc_X8_tithes_2) (f := lf_X8_tithes_2) (i := 10) (lo := i) (σ := zput σ 0 8 0) n.toNat (fun k => [0, b, s, so, i, n, q, 29 + 2 * s, zSm D k, 0, i + (k : Int)]) (fun k x => zCl (zput σ 0 8 0) x) (fun _ _ _ _ => rfl) (fun k => rfl) (by omega) (by omega)
    (fun k x hk h => by
      rw [w_tiC2 inn]
      have : (i + (k : Int) < i + n) ↔ k < n.toNat := by omega
      simp only [this])
    (fun k x hk hx => by
      have sf : zSF σ x := zCl.sf (fun a b h1 h2 h3 => zput_n h2) hx
      obtain ⟨y, y1, y2, y3⟩ := zBlowT hI sf (hall k hk)
      have po := w_po y3 (zCq_I hI (hall k hk)) hW (h := fun i => σ 2 i) (fun i hi => (zCl.sf sf y2) 2 i rfl (by omega) (by omega)) (fun i hi => (hh i hi).1) (b := b) (by omega)
      rw [hDe] at po
      have db := hDb k
      have ds := hDs k (by omega)
      have body := w_tiBody2 (υ := x) (b := b) (s := s) (so := so) (i := i) (n := n) (q := q) (o := 29 + 2 * s) (sum := zSm D k) (d := i + (k : Int)) (v := V k) (z := 0) (by omega) (by rw [hx _ _ (by omega) (by omega), zput_o (by omega)]; exact V30 k hk) y1 po (w64_id ⟨by omega, by omega⟩)
      exact ⟨_, _, _, body, Or.inl rfl, rfl, rfl, hx.tr y2⟩)
  have e0 : i + ((0 : Nat) : Int) = i := by omega
  have m1b : sW lc_X8_tithes_2 lf_X8_tithes_2 ls_X8_tithes_2 [0, b, s, so, i, n, q, 29 + 2 * s, 0, 0, i + ((0 : Nat) : Int)] (zput σ 0 8 0) = some (0, [0, b, s, so, i, n, q, 29 + 2 * s, zSm D n.toNat, 0, i + (n.toNat : Int)], τ) := m1
  rw [e0] at m1b
  have sb := hDs n.toNat (by omega)
  have sn : (((zSm D n.toNat).toNat : Nat) : Int) = zSm D n.toNat := by omega
  have sh1 := w_share (σ := τ) (a := (zSm D n.toNat).toNat) (b := 60) (g := 1) (w := q) (by decide) (by decide) (by omega) (by decide)
  rw [Nat.one_mul, Nat.one_mul, sn] at sh1
  have h1 := w_tiEval3 g1 g2 g3 g4 fr l1 m1b sh1
  have sfτ : zSF σ τ := zCl.sf (fun a b h1 h2 h3 => zput_n h2) m2
  have sfτ0 : zSF σ (zput τ 37 0 0) := fun a b h1 h2 h3 => by rw [zput_n h3]; exact sfτ a b h1 h2 h3
  obtain ⟨t2, e2, l2, q2⟩ := l2 (zput τ 37 0 0) (fun a b z1 z2 z3 z4 => by rw [zput_n z2, m2 a b z3 (by omega), zput_n z1])
  rcases q2 with ⟨-, -, q2⟩ | ⟨rfl, -, rfl⟩
  · exact absurd hall q2
  obtain ⟨υ, u1, u2⟩ := zfor0 (c := lc_X9_tithes_2) (f := lf_X9_tithes_2) (i := 11) (lo := 0) (σ := zput τ 37 0 0) n.toNat (fun k => [37, b, s, so, i, n, q, 0, 60 * s + i, zSm D k, 0, 0 + (k : Int)]) (fun k x => zRl (zput τ 37 0 0) x) (fun _ _ _ _ => rfl) (fun k => rfl) (by omega) (by omega)
    (fun k x hk h => by
      rw [v_tiC2]
      have : (0 + (k : Int) < n) ↔ k < n.toNat := by omega
      simp only [this])
    (fun k x hk hx => by
      have sf : zSF σ x := zRl.sf sfτ0 hx
      obtain ⟨y, y1, y2, y3⟩ := zLayT hI sf (hall k hk)
      obtain ⟨y', y4, y5⟩ := v_to y3 (zPc_I hI (hall k hk)) hW (h := fun i => σ 2 i) (fun i hi => by rw [(zRl.sf sf y2) 41 i rfl (by omega) (by omega)]; exact (hh i hi).2) (fun i hi => (hh i hi).1) (b := b) (by omega)
      rw [hDe] at y4
      have db := hDb k
      have ds := hDs k (by omega)
      have ex : o_iadd (60 * s + i) (0 + (k : Int)) = 60 * s + i + (k : Int) := by
        have : o_iadd (60 * s + i) (0 + (k : Int)) = 60 * s + i + (0 + (k : Int)) := w32_id ⟨by omega, by omega⟩
        omega
      have body := v_tiBody2 (υ := x) (b := b) (s := s) (so := so) (i := i) (n := n) (q := q) (a := 0) (f := 60 * s + i) (sum := zSm D k) (k := 0 + (k : Int)) (x := 60 * s + i + (k : Int)) (v := V k) (z := 0) (by omega) ex (by rw [sf 40 _ rfl (by omega) (by omega)]; exact V40 k) y1 y4 (w64_id ⟨by omega, by omega⟩)
      exact ⟨_, _, _, body, Or.inl rfl, rfl, rfl, (hx.tr y2).tr y5.rl⟩)
  have u1b : sW lc_X9_tithes_2 lf_X9_tithes_2 ls_X9_tithes_2 [37, b, s, so, i, n, q, 0, 60 * s + i, 0, 0, 0] (zput τ 37 0 0) = some (0, [37, b, s, so, i, n, q, 0, 60 * s + i, zSm D n.toNat, 0, 0 + (n.toNat : Int)], υ) := u1
  rw [show (0 : Int) + (n.toNat : Int) = n by omega] at u1b
  have sh2 := v_share (σ := υ) (a := (zSm D n.toNat).toNat) (b := 60) (w := q) (by decide) (by omega)
  rw [sn] at sh2
  have τa : ∀ a b : Int, a = 37 ∨ 38 ≤ a ∧ a ≤ 39 → τ a b = σ a b := fun a b h => by rw [m2 a b (by omega) (by omega), zput_o (by omega)]
  have h2 := v_tiEval3 (σ := τ) (b := b) (s := s) (so := so) (i := i) (n := n) (q := q) (by rw [τa 37 14 (Or.inl rfl), hN.1]; exact g1) g2 g3 g4 (by
    rw [v_against g2 (st := σ 38 s) (len := σ 39 s) (by rw [zput_o (by decide), τa 38 s (by omega)]) (by rw [zput_o (by decide), τa 39 s (by omega)]) ⟨s3, s4⟩, zAg_38 hS g2, ga]) f60 l2 u1b sh2
  have o1 := zOk_of k_X8_tithes hI.1 h1 ⟨zthis, ha⟩
  have o2 := zOk_of k_X9_tithes o1 h2 ⟨zthat, ha⟩
  refine ⟨_, _, _, h1, h2, zInv_sF o2 hI (zRl.sf sfτ0 u2) ?_⟩
  rw [u2 0 8 (by omega) (by omega), u2 37 0 (by omega) (by omega), zput_self, zput_o (by decide), m2 0 8 (by omega) (by omega), zput_self]
