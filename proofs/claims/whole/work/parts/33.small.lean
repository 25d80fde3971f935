theorem w_isSheet (k : Int) (σ : zHp) : m_X8_isSheet [k] σ = some (if 0 ≤ k ∧ k < 4 then 1 else 0, σ) := by
  simp only [e_X8_isSheet, d_X8_isSheet, xC_e, xL_e, xU_e, xB_e, xD_e, xF_e, xG_e, xA_e, xE_e, xH_e, xI_e, xZ_e, xK_e, aN_e, aC_e, cR_e, cV_e, cA_e, cO_e, cN_e, bs_e, bn_e, zg_0, zg_S, sS_e, sX_e, sF_e, sG_e, sA_e, sE_e, sEo_e, sK_e, sQ_e, sI_e, sR_e, sV_e, sB_e, sC_e, sD_e, sN_e, sP_e, sY_e, st_0, st_S, zc_0, zc_S, r_eq, r_ne, r_lt, r_le, r_gt, r_ge, rb_ite, rb_0, rb_1]
  by_cases h : 0 ≤ k <;> by_cases h2 : k < 4 <;> simp [h, h2, xC_e, xL_e, xU_e, xB_e, xD_e, xF_e, xG_e, xA_e, xE_e, xH_e, xI_e, xZ_e, xK_e, aN_e, aC_e, cR_e, cV_e, cA_e, cO_e, cN_e, bs_e, bn_e, zg_0, zg_S, sS_e, sX_e, sF_e, sG_e, sA_e, sE_e, sEo_e, sK_e, sQ_e, sI_e, sR_e, sV_e, sB_e, sC_e, sD_e, sN_e, sP_e, sY_e, st_0, st_S, zc_0, zc_S]
theorem w_isSort (k : Int) (σ : zHp) : m_X8_isSort [k] σ = some (if 0 ≤ k ∧ k ≤ 2 then 1 else 0, σ) := by
  simp only [e_X8_isSort, d_X8_isSort, xC_e, xL_e, xU_e, xB_e, xD_e, xF_e, xG_e, xA_e, xE_e, xH_e, xI_e, xZ_e, xK_e, aN_e, aC_e, cR_e, cV_e, cA_e, cO_e, cN_e, bs_e, bn_e, zg_0, zg_S, sS_e, sX_e, sF_e, sG_e, sA_e, sE_e, sEo_e, sK_e, sQ_e, sI_e, sR_e, sV_e, sB_e, sC_e, sD_e, sN_e, sP_e, sY_e, st_0, st_S, zc_0, zc_S, r_eq, r_ne, r_lt, r_le, r_gt, r_ge, rb_ite, rb_0, rb_1]
  by_cases h : 0 ≤ k <;> by_cases h2 : k ≤ 2 <;> simp [h, h2, xC_e, xL_e, xU_e, xB_e, xD_e, xF_e, xG_e, xA_e, xE_e, xH_e, xI_e, xZ_e, xK_e, aN_e, aC_e, cR_e, cV_e, cA_e, cO_e, cN_e, bs_e, bn_e, zg_0, zg_S, sS_e, sX_e, sF_e, sG_e, sA_e, sE_e, sEo_e, sK_e, sQ_e, sI_e, sR_e, sV_e, sB_e, sC_e, sD_e, sN_e, sP_e, sY_e, st_0, st_S, zc_0, zc_S]
theorem w_isKind (k : Int) (σ : zHp) : m_X8_isKind [k] σ = some (if 0 ≤ k ∧ k ≤ 2 then 1 else 0, σ) := by
  simp only [e_X8_isKind, d_X8_isKind, xC_e, xL_e, xU_e, xB_e, xD_e, xF_e, xG_e, xA_e, xE_e, xH_e, xI_e, xZ_e, xK_e, aN_e, aC_e, cR_e, cV_e, cA_e, cO_e, cN_e, bs_e, bn_e, zg_0, zg_S, sS_e, sX_e, sF_e, sG_e, sA_e, sE_e, sEo_e, sK_e, sQ_e, sI_e, sR_e, sV_e, sB_e, sC_e, sD_e, sN_e, sP_e, sY_e, st_0, st_S, zc_0, zc_S, r_eq, r_ne, r_lt, r_le, r_gt, r_ge, rb_ite, rb_0, rb_1]
  by_cases h : 0 ≤ k <;> by_cases h2 : k ≤ 2 <;> simp [h, h2, xC_e, xL_e, xU_e, xB_e, xD_e, xF_e, xG_e, xA_e, xE_e, xH_e, xI_e, xZ_e, xK_e, aN_e, aC_e, cR_e, cV_e, cA_e, cO_e, cN_e, bs_e, bn_e, zg_0, zg_S, sS_e, sX_e, sF_e, sG_e, sA_e, sE_e, sEo_e, sK_e, sQ_e, sI_e, sR_e, sV_e, sB_e, sC_e, sD_e, sN_e, sP_e, sY_e, st_0, st_S, zc_0, zc_S]
theorem w_isWeight (k : Int) (σ : zHp) : m_X8_isWeight [k] σ = some (if 1 ≤ k ∧ k ≤ 99 then 1 else 0, σ) := by
  simp only [e_X8_isWeight, d_X8_isWeight, xC_e, xL_e, xU_e, xB_e, xD_e, xF_e, xG_e, xA_e, xE_e, xH_e, xI_e, xZ_e, xK_e, aN_e, aC_e, cR_e, cV_e, cA_e, cO_e, cN_e, bs_e, bn_e, zg_0, zg_S, sS_e, sX_e, sF_e, sG_e, sA_e, sE_e, sEo_e, sK_e, sQ_e, sI_e, sR_e, sV_e, sB_e, sC_e, sD_e, sN_e, sP_e, sY_e, st_0, st_S, zc_0, zc_S, r_eq, r_ne, r_lt, r_le, r_gt, r_ge, rb_ite, rb_0, rb_1]
  by_cases h : 1 ≤ k <;> by_cases h2 : k ≤ 99 <;> simp [h, h2, xC_e, xL_e, xU_e, xB_e, xD_e, xF_e, xG_e, xA_e, xE_e, xH_e, xI_e, xZ_e, xK_e, aN_e, aC_e, cR_e, cV_e, cA_e, cO_e, cN_e, bs_e, bn_e, zg_0, zg_S, sS_e, sX_e, sF_e, sG_e, sA_e, sE_e, sEo_e, sK_e, sQ_e, sI_e, sR_e, sV_e, sB_e, sC_e, sD_e, sN_e, sP_e, sY_e, st_0, st_S, zc_0, zc_S]
theorem w_isWind (k : Int) (σ : zHp) : m_X8_isWind [k] σ = some (if 0 ≤ k ∧ k ≤ 39 then 1 else 0, σ) := by
  simp only [e_X8_isWind, d_X8_isWind, xC_e, xL_e, xU_e, xB_e, xD_e, xF_e, xG_e, xA_e, xE_e, xH_e, xI_e, xZ_e, xK_e, aN_e, aC_e, cR_e, cV_e, cA_e, cO_e, cN_e, bs_e, bn_e, zg_0, zg_S, sS_e, sX_e, sF_e, sG_e, sA_e, sE_e, sEo_e, sK_e, sQ_e, sI_e, sR_e, sV_e, sB_e, sC_e, sD_e, sN_e, sP_e, sY_e, st_0, st_S, zc_0, zc_S, r_eq, r_ne, r_lt, r_le, r_gt, r_ge, rb_ite, rb_0, rb_1]
  by_cases h : 0 ≤ k <;> by_cases h2 : k ≤ 39 <;> simp [h, h2, xC_e, xL_e, xU_e, xB_e, xD_e, xF_e, xG_e, xA_e, xE_e, xH_e, xI_e, xZ_e, xK_e, aN_e, aC_e, cR_e, cV_e, cA_e, cO_e, cN_e, bs_e, bn_e, zg_0, zg_S, sS_e, sX_e, sF_e, sG_e, sA_e, sE_e, sEo_e, sK_e, sQ_e, sI_e, sR_e, sV_e, sB_e, sC_e, sD_e, sN_e, sP_e, sY_e, st_0, st_S, zc_0, zc_S]
theorem w_isOneOfTwo (k : Int) (σ : zHp) : m_X8_isOneOfTwo [k] σ = some (if 0 ≤ k ∧ k ≤ 1 then 1 else 0, σ) := by
  simp only [e_X8_isOneOfTwo, d_X8_isOneOfTwo, xC_e, xL_e, xU_e, xB_e, xD_e, xF_e, xG_e, xA_e, xE_e, xH_e, xI_e, xZ_e, xK_e, aN_e, aC_e, cR_e, cV_e, cA_e, cO_e, cN_e, bs_e, bn_e, zg_0, zg_S, sS_e, sX_e, sF_e, sG_e, sA_e, sE_e, sEo_e, sK_e, sQ_e, sI_e, sR_e, sV_e, sB_e, sC_e, sD_e, sN_e, sP_e, sY_e, st_0, st_S, zc_0, zc_S, r_eq, r_ne, r_lt, r_le, r_gt, r_ge, rb_ite, rb_0, rb_1]
  by_cases h : k = 0
  · simp [h, xC_e, xL_e, xU_e, xB_e, xD_e, xF_e, xG_e, xA_e, xE_e, xH_e, xI_e, xZ_e, xK_e, aN_e, aC_e, cR_e, cV_e, cA_e, cO_e, cN_e, bs_e, bn_e, zg_0, zg_S, sS_e, sX_e, sF_e, sG_e, sA_e, sE_e, sEo_e, sK_e, sQ_e, sI_e, sR_e, sV_e, sB_e, sC_e, sD_e, sN_e, sP_e, sY_e, st_0, st_S, zc_0, zc_S]
  · by_cases h2 : k = 1
    · simp [h2, xC_e, xL_e, xU_e, xB_e, xD_e, xF_e, xG_e, xA_e, xE_e, xH_e, xI_e, xZ_e, xK_e, aN_e, aC_e, cR_e, cV_e, cA_e, cO_e, cN_e, bs_e, bn_e, zg_0, zg_S, sS_e, sX_e, sF_e, sG_e, sA_e, sE_e, sEo_e, sK_e, sQ_e, sI_e, sR_e, sV_e, sB_e, sC_e, sD_e, sN_e, sP_e, sY_e, st_0, st_S, zc_0, zc_S]
    · have h3 : ¬ (0 ≤ k ∧ k ≤ 1) := by omega
      simp [h, h2, h3, xC_e, xL_e, xU_e, xB_e, xD_e, xF_e, xG_e, xA_e, xE_e, xH_e, xI_e, xZ_e, xK_e, aN_e, aC_e, cR_e, cV_e, cA_e, cO_e, cN_e, bs_e, bn_e, zg_0, zg_S, sS_e, sX_e, sF_e, sG_e, sA_e, sE_e, sEo_e, sK_e, sQ_e, sI_e, sR_e, sV_e, sB_e, sC_e, sD_e, sN_e, sP_e, sY_e, st_0, st_S, zc_0, zc_S]
theorem w_faulty (n : Int) (h0 : 0 ≤ n) (h1 : n ≤ 10) (σ : zHp) : m_X8_faulty [0, n] σ = some (-10 - n, zput σ 0 8 n) := by
  have e : o_isub (-10) n = -10 - n := w32_id ⟨by omega, by omega⟩
  simp only [e_X8_faulty, d_X8_faulty, xC_e, xL_e, xU_e, xB_e, xD_e, xF_e, xG_e, xA_e, xE_e, xH_e, xI_e, xZ_e, xK_e, aN_e, aC_e, cR_e, cV_e, cA_e, cO_e, cN_e, bs_e, bn_e, zg_0, zg_S, sS_e, sX_e, sF_e, sG_e, sA_e, sE_e, sEo_e, sK_e, sQ_e, sI_e, sR_e, sV_e, sB_e, sC_e, sD_e, sN_e, sP_e, sY_e, st_0, st_S, zc_0, zc_S, e]
  simp [xC_e, xL_e, xU_e, xB_e, xD_e, xF_e, xG_e, xA_e, xE_e, xH_e, xI_e, xZ_e, xK_e, aN_e, aC_e, cR_e, cV_e, cA_e, cO_e, cN_e, bs_e, bn_e, zg_0, zg_S, sS_e, sX_e, sF_e, sG_e, sA_e, sE_e, sEo_e, sK_e, sQ_e, sI_e, sR_e, sV_e, sB_e, sC_e, sD_e, sN_e, sP_e, sY_e, st_0, st_S, zc_0, zc_S]
theorem v_within (a lo hi : Int) (σ : zHp) : m_X9_within [a, lo, hi] σ = some (if lo ≤ a ∧ a ≤ hi then 1 else 0, σ) := by
  simp only [e_X9_within, d_X9_within, xC_e, xL_e, xU_e, xB_e, xD_e, xF_e, xG_e, xA_e, xE_e, xH_e, xI_e, xZ_e, xK_e, aN_e, aC_e, cR_e, cV_e, cA_e, cO_e, cN_e, bs_e, bn_e, zg_0, zg_S, sS_e, sX_e, sF_e, sG_e, sA_e, sE_e, sEo_e, sK_e, sQ_e, sI_e, sR_e, sV_e, sB_e, sC_e, sD_e, sN_e, sP_e, sY_e, st_0, st_S, zc_0, zc_S, r_eq, r_ne, r_lt, r_le, r_gt, r_ge, rb_ite, rb_0, rb_1]
  by_cases h : lo ≤ a <;> by_cases h2 : a ≤ hi <;> simp [h, h2, xC_e, xL_e, xU_e, xB_e, xD_e, xF_e, xG_e, xA_e, xE_e, xH_e, xI_e, xZ_e, xK_e, aN_e, aC_e, cR_e, cV_e, cA_e, cO_e, cN_e, bs_e, bn_e, zg_0, zg_S, sS_e, sX_e, sF_e, sG_e, sA_e, sE_e, sEo_e, sK_e, sQ_e, sI_e, sR_e, sV_e, sB_e, sC_e, sD_e, sN_e, sP_e, sY_e, st_0, st_S, zc_0, zc_S]
theorem v_isSheet (k : Int) (σ : zHp) : m_X9_isSheet [k] σ = some (if 0 ≤ k ∧ k < 4 then 1 else 0, σ) := by
  have e : (0 ≤ k ∧ k ≤ 3) ↔ (0 ≤ k ∧ k < 4) := by omega
  simp only [e_X9_isSheet, d_X9_isSheet, xC_e, xL_e, xU_e, xB_e, xD_e, xF_e, xG_e, xA_e, xE_e, xH_e, xI_e, xZ_e, xK_e, aN_e, aC_e, cR_e, cV_e, cA_e, cO_e, cN_e, bs_e, bn_e, zg_0, zg_S, sS_e, sX_e, sF_e, sG_e, sA_e, sE_e, sEo_e, sK_e, sQ_e, sI_e, sR_e, sV_e, sB_e, sC_e, sD_e, sN_e, sP_e, sY_e, st_0, st_S, zc_0, zc_S, v_within, e]
  rfl
theorem v_isSort (k : Int) (σ : zHp) : m_X9_isSort [k] σ = some (if 0 ≤ k ∧ k ≤ 2 then 1 else 0, σ) := by
  simp only [e_X9_isSort, d_X9_isSort, xC_e, xL_e, xU_e, xB_e, xD_e, xF_e, xG_e, xA_e, xE_e, xH_e, xI_e, xZ_e, xK_e, aN_e, aC_e, cR_e, cV_e, cA_e, cO_e, cN_e, bs_e, bn_e, zg_0, zg_S, sS_e, sX_e, sF_e, sG_e, sA_e, sE_e, sEo_e, sK_e, sQ_e, sI_e, sR_e, sV_e, sB_e, sC_e, sD_e, sN_e, sP_e, sY_e, st_0, st_S, zc_0, zc_S, v_within]
  rfl
theorem v_isWeight (k : Int) (σ : zHp) : m_X9_isWeight [k] σ = some (if 1 ≤ k ∧ k ≤ 99 then 1 else 0, σ) := by
  simp only [e_X9_isWeight, d_X9_isWeight, xC_e, xL_e, xU_e, xB_e, xD_e, xF_e, xG_e, xA_e, xE_e, xH_e, xI_e, xZ_e, xK_e, aN_e, aC_e, cR_e, cV_e, cA_e, cO_e, cN_e, bs_e, bn_e, zg_0, zg_S, sS_e, sX_e, sF_e, sG_e, sA_e, sE_e, sEo_e, sK_e, sQ_e, sI_e, sR_e, sV_e, sB_e, sC_e, sD_e, sN_e, sP_e, sY_e, st_0, st_S, zc_0, zc_S, v_within]
  rfl
theorem v_isWind (k : Int) (σ : zHp) : m_X9_isWind [k] σ = some (if 0 ≤ k ∧ k ≤ 39 then 1 else 0, σ) := by
  simp only [e_X9_isWind, d_X9_isWind, xC_e, xL_e, xU_e, xB_e, xD_e, xF_e, xG_e, xA_e, xE_e, xH_e, xI_e, xZ_e, xK_e, aN_e, aC_e, cR_e, cV_e, cA_e, cO_e, cN_e, bs_e, bn_e, zg_0, zg_S, sS_e, sX_e, sF_e, sG_e, sA_e, sE_e, sEo_e, sK_e, sQ_e, sI_e, sR_e, sV_e, sB_e, sC_e, sD_e, sN_e, sP_e, sY_e, st_0, st_S, zc_0, zc_S, v_within]
  rfl
theorem v_all (σ : zHp) : m_X9_all [37] σ = some (w32 (σ 37 5 * σ 37 6), σ) := by
  simp only [e_X9_all, d_X9_all, xC_e, xL_e, xU_e, xB_e, xD_e, xF_e, xG_e, xA_e, xE_e, xH_e, xI_e, xZ_e, xK_e, aN_e, aC_e, cR_e, cV_e, cA_e, cO_e, cN_e, bs_e, bn_e, zg_0, zg_S, sS_e, sX_e, sF_e, sG_e, sA_e, sE_e, sEo_e, sK_e, sQ_e, sI_e, sR_e, sV_e, sB_e, sC_e, sD_e, sN_e, sP_e, sY_e, st_0, st_S, zc_0, zc_S, o_imul]
  rfl
theorem v_isCell (c : Int) (σ : zHp) : m_X9_isCell [37, c] σ = some (if 0 ≤ c ∧ c < w32 (σ 37 5 * σ 37 6) then 1 else 0, σ) := by
  simp only [e_X9_isCell, d_X9_isCell, xC_e, xL_e, xU_e, xB_e, xD_e, xF_e, xG_e, xA_e, xE_e, xH_e, xI_e, xZ_e, xK_e, aN_e, aC_e, cR_e, cV_e, cA_e, cO_e, cN_e, bs_e, bn_e, zg_0, zg_S, sS_e, sX_e, sF_e, sG_e, sA_e, sE_e, sEo_e, sK_e, sQ_e, sI_e, sR_e, sV_e, sB_e, sC_e, sD_e, sN_e, sP_e, sY_e, st_0, st_S, zc_0, zc_S, r_eq, r_ne, r_lt, r_le, r_gt, r_ge, rb_ite, rb_0, rb_1, v_all]
  by_cases h : 0 ≤ c <;> by_cases h2 : c < w32 (σ 37 5 * σ 37 6) <;> simp [h, h2, xC_e, xL_e, xU_e, xB_e, xD_e, xF_e, xG_e, xA_e, xE_e, xH_e, xI_e, xZ_e, xK_e, aN_e, aC_e, cR_e, cV_e, cA_e, cO_e, cN_e, bs_e, bn_e, zg_0, zg_S, sS_e, sX_e, sF_e, sG_e, sA_e, sE_e, sEo_e, sK_e, sQ_e, sI_e, sR_e, sV_e, sB_e, sC_e, sD_e, sN_e, sP_e, sY_e, st_0, st_S, zc_0, zc_S]
theorem v_isBell (b : Int) (σ : zHp) : m_X9_isBell [37, b] σ = some (if 0 ≤ b ∧ b < σ 37 14 then 1 else 0, σ) := by
  simp only [e_X9_isBell, d_X9_isBell, xC_e, xL_e, xU_e, xB_e, xD_e, xF_e, xG_e, xA_e, xE_e, xH_e, xI_e, xZ_e, xK_e, aN_e, aC_e, cR_e, cV_e, cA_e, cO_e, cN_e, bs_e, bn_e, zg_0, zg_S, sS_e, sX_e, sF_e, sG_e, sA_e, sE_e, sEo_e, sK_e, sQ_e, sI_e, sR_e, sV_e, sB_e, sC_e, sD_e, sN_e, sP_e, sY_e, st_0, st_S, zc_0, zc_S, r_eq, r_ne, r_lt, r_le, r_gt, r_ge, rb_ite, rb_0, rb_1]
  by_cases h : 0 ≤ b <;> by_cases h2 : b < σ 37 14 <;> simp [h, h2, xC_e, xL_e, xU_e, xB_e, xD_e, xF_e, xG_e, xA_e, xE_e, xH_e, xI_e, xZ_e, xK_e, aN_e, aC_e, cR_e, cV_e, cA_e, cO_e, cN_e, bs_e, bn_e, zg_0, zg_S, sS_e, sX_e, sF_e, sG_e, sA_e, sE_e, sEo_e, sK_e, sQ_e, sI_e, sR_e, sV_e, sB_e, sC_e, sD_e, sN_e, sP_e, sY_e, st_0, st_S, zc_0, zc_S]
theorem v_fails (n : Int) (h0 : 0 ≤ n) (h1 : n ≤ 10) (σ : zHp) : m_X9_fails [37, n] σ = some (-10 - n, zput σ 37 0 n) := by
  have e : o_isub (-10) n = -10 - n := w32_id ⟨by omega, by omega⟩
  simp only [e_X9_fails, d_X9_fails, xC_e, xL_e, xU_e, xB_e, xD_e, xF_e, xG_e, xA_e, xE_e, xH_e, xI_e, xZ_e, xK_e, aN_e, aC_e, cR_e, cV_e, cA_e, cO_e, cN_e, bs_e, bn_e, zg_0, zg_S, sS_e, sX_e, sF_e, sG_e, sA_e, sE_e, sEo_e, sK_e, sQ_e, sI_e, sR_e, sV_e, sB_e, sC_e, sD_e, sN_e, sP_e, sY_e, st_0, st_S, zc_0, zc_S, e]
  simp [xC_e, xL_e, xU_e, xB_e, xD_e, xF_e, xG_e, xA_e, xE_e, xH_e, xI_e, xZ_e, xK_e, aN_e, aC_e, cR_e, cV_e, cA_e, cO_e, cN_e, bs_e, bn_e, zg_0, zg_S, sS_e, sX_e, sF_e, sG_e, sA_e, sE_e, sEo_e, sK_e, sQ_e, sI_e, sR_e, sV_e, sB_e, sC_e, sD_e, sN_e, sP_e, sY_e, st_0, st_S, zc_0, zc_S]
theorem v_lost (n : Int) (σ : zHp) : m_X9_lost [37, n] σ = some (-9223372036854775808, zput σ 37 0 n) := by
  simp only [e_X9_lost, d_X9_lost, xC_e, xL_e, xU_e, xB_e, xD_e, xF_e, xG_e, xA_e, xE_e, xH_e, xI_e, xZ_e, xK_e, aN_e, aC_e, cR_e, cV_e, cA_e, cO_e, cN_e, bs_e, bn_e, zg_0, zg_S, sS_e, sX_e, sF_e, sG_e, sA_e, sE_e, sEo_e, sK_e, sQ_e, sI_e, sR_e, sV_e, sB_e, sC_e, sD_e, sN_e, sP_e, sY_e, st_0, st_S, zc_0, zc_S]
  simp [xC_e, xL_e, xU_e, xB_e, xD_e, xF_e, xG_e, xA_e, xE_e, xH_e, xI_e, xZ_e, xK_e, aN_e, aC_e, cR_e, cV_e, cA_e, cO_e, cN_e, bs_e, bn_e, zg_0, zg_S, sS_e, sX_e, sF_e, sG_e, sA_e, sE_e, sEo_e, sK_e, sQ_e, sI_e, sR_e, sV_e, sB_e, sC_e, sD_e, sN_e, sP_e, sY_e, st_0, st_S, zc_0, zc_S]
/-! the same, once it is known -/
theorem w_isCell_t {c : Int} {σ : zHp} (h : 0 ≤ c ∧ c < σ 1 2) : m_X8_isCell [0, c] σ = some (1, σ) := by rw [w_isCell, if_pos h]
theorem w_isCell_f {c : Int} {σ : zHp} (h : ¬ (0 ≤ c ∧ c < σ 1 2)) : m_X8_isCell [0, c] σ = some (0, σ) := by rw [w_isCell, if_neg h]
theorem w_isBell_t {c : Int} {σ : zHp} (h : 0 ≤ c ∧ c < σ 6 0) : m_X8_isBell [0, c] σ = some (1, σ) := by rw [w_isBell, if_pos h]
theorem w_isBell_f {c : Int} {σ : zHp} (h : ¬ (0 ≤ c ∧ c < σ 6 0)) : m_X8_isBell [0, c] σ = some (0, σ) := by rw [w_isBell, if_neg h]
theorem w_isSheet_t {c : Int} {σ : zHp} (h : 0 ≤ c ∧ c < 4) : m_X8_isSheet [c] σ = some (1, σ) := by rw [w_isSheet, if_pos h]
theorem w_isSheet_f {c : Int} {σ : zHp} (h : ¬ (0 ≤ c ∧ c < 4)) : m_X8_isSheet [c] σ = some (0, σ) := by rw [w_isSheet, if_neg h]
theorem w_isSort_t {c : Int} {σ : zHp} (h : 0 ≤ c ∧ c ≤ 2) : m_X8_isSort [c] σ = some (1, σ) := by rw [w_isSort, if_pos h]
theorem w_isSort_f {c : Int} {σ : zHp} (h : ¬ (0 ≤ c ∧ c ≤ 2)) : m_X8_isSort [c] σ = some (0, σ) := by rw [w_isSort, if_neg h]
theorem w_isKind_t {c : Int} {σ : zHp} (h : 0 ≤ c ∧ c ≤ 2) : m_X8_isKind [c] σ = some (1, σ) := by rw [w_isKind, if_pos h]
theorem w_isKind_f {c : Int} {σ : zHp} (h : ¬ (0 ≤ c ∧ c ≤ 2)) : m_X8_isKind [c] σ = some (0, σ) := by rw [w_isKind, if_neg h]
theorem w_isWeight_t {c : Int} {σ : zHp} (h : 1 ≤ c ∧ c ≤ 99) : m_X8_isWeight [c] σ = some (1, σ) := by rw [w_isWeight, if_pos h]
theorem w_isWeight_f {c : Int} {σ : zHp} (h : ¬ (1 ≤ c ∧ c ≤ 99)) : m_X8_isWeight [c] σ = some (0, σ) := by rw [w_isWeight, if_neg h]
theorem w_isWind_t {c : Int} {σ : zHp} (h : 0 ≤ c ∧ c ≤ 39) : m_X8_isWind [c] σ = some (1, σ) := by rw [w_isWind, if_pos h]
theorem w_isWind_f {c : Int} {σ : zHp} (h : ¬ (0 ≤ c ∧ c ≤ 39)) : m_X8_isWind [c] σ = some (0, σ) := by rw [w_isWind, if_neg h]
theorem w_isOneOfTwo_t {c : Int} {σ : zHp} (h : 0 ≤ c ∧ c ≤ 1) : m_X8_isOneOfTwo [c] σ = some (1, σ) := by rw [w_isOneOfTwo, if_pos h]
theorem w_isOneOfTwo_f {c : Int} {σ : zHp} (h : ¬ (0 ≤ c ∧ c ≤ 1)) : m_X8_isOneOfTwo [c] σ = some (0, σ) := by rw [w_isOneOfTwo, if_neg h]
theorem v_within_t {c lo hi : Int} {σ : zHp} (h : lo ≤ c ∧ c ≤ hi) : m_X9_within [c, lo, hi] σ = some (1, σ) := by rw [v_within, if_pos h]
theorem v_within_f {c lo hi : Int} {σ : zHp} (h : ¬ (lo ≤ c ∧ c ≤ hi)) : m_X9_within [c, lo, hi] σ = some (0, σ) := by rw [v_within, if_neg h]
theorem v_isSheet_t {c : Int} {σ : zHp} (h : 0 ≤ c ∧ c < 4) : m_X9_isSheet [c] σ = some (1, σ) := by rw [v_isSheet, if_pos h]
theorem v_isSheet_f {c : Int} {σ : zHp} (h : ¬ (0 ≤ c ∧ c < 4)) : m_X9_isSheet [c] σ = some (0, σ) := by rw [v_isSheet, if_neg h]
theorem v_isSort_t {c : Int} {σ : zHp} (h : 0 ≤ c ∧ c ≤ 2) : m_X9_isSort [c] σ = some (1, σ) := by rw [v_isSort, if_pos h]
theorem v_isSort_f {c : Int} {σ : zHp} (h : ¬ (0 ≤ c ∧ c ≤ 2)) : m_X9_isSort [c] σ = some (0, σ) := by rw [v_isSort, if_neg h]
theorem v_isWeight_t {c : Int} {σ : zHp} (h : 1 ≤ c ∧ c ≤ 99) : m_X9_isWeight [c] σ = some (1, σ) := by rw [v_isWeight, if_pos h]
theorem v_isWeight_f {c : Int} {σ : zHp} (h : ¬ (1 ≤ c ∧ c ≤ 99)) : m_X9_isWeight [c] σ = some (0, σ) := by rw [v_isWeight, if_neg h]
theorem v_isWind_t {c : Int} {σ : zHp} (h : 0 ≤ c ∧ c ≤ 39) : m_X9_isWind [c] σ = some (1, σ) := by rw [v_isWind, if_pos h]
theorem v_isWind_f {c : Int} {σ : zHp} (h : ¬ (0 ≤ c ∧ c ≤ 39)) : m_X9_isWind [c] σ = some (0, σ) := by rw [v_isWind, if_neg h]
theorem v_isCell_t {c : Int} {σ : zHp} (h : 0 ≤ c ∧ c < w32 (σ 37 5 * σ 37 6)) : m_X9_isCell [37, c] σ = some (1, σ) := by rw [v_isCell, if_pos h]
theorem v_isCell_f {c : Int} {σ : zHp} (h : ¬ (0 ≤ c ∧ c < w32 (σ 37 5 * σ 37 6))) : m_X9_isCell [37, c] σ = some (0, σ) := by rw [v_isCell, if_neg h]
theorem v_isBell_t {c : Int} {σ : zHp} (h : 0 ≤ c ∧ c < σ 37 14) : m_X9_isBell [37, c] σ = some (1, σ) := by rw [v_isBell, if_pos h]
theorem v_isBell_f {c : Int} {σ : zHp} (h : ¬ (0 ≤ c ∧ c < σ 37 14)) : m_X9_isBell [37, c] σ = some (0, σ) := by rw [v_isBell, if_neg h]
/-! places that no later answer looks at -/
def zfree (a b : Int) : Bool := decide ((a = 10 ∧ b = 5) ∨ a = 12 ∨ a = 13 ∨ (a = 19 ∧ (b = 5 ∨ b = 6)) ∨ a = 20 ∨ a = 21 ∨ a = 23 ∨ a = 24 ∨ (a = 25 ∧ (b = 4 ∨ b = 5)) ∨ a = 26 ∨ a = 27 ∨ (a = 37 ∧ (b = 10 ∨ b = 11 ∨ b = 12 ∨ b = 18 ∨ b = 19 ∨ b = 22)) ∨ a = 43 ∨ a = 47 ∨ a = 48 ∨ a = 53 ∨ a = 54 ∨ a = 55 ∨ a = 56)
def zSame (σ τ : zHp) : Prop := ∀ a b : Int, zfree a b = false → τ a b = σ a b
theorem zSame.rf (σ : zHp) : zSame σ σ := fun _ _ _ => rfl
theorem zSame.tr {σ τ υ : zHp} (h1 : zSame σ τ) (h2 : zSame τ υ) : zSame σ υ := fun a b h => (h2 a b h).trans (h1 a b h)
theorem zSame.put {σ τ : zHp} {o i v : Int} (h : zSame σ τ) (hf : zfree o i = true) : zSame σ (zput τ o i v) := by
  intro a b hb
  unfold zput
  rw [if_neg, h a b hb]
  rintro ⟨rfl, rfl⟩
  rw [hf] at hb
  cases hb
/-- the walks between cells look at the land alone -/
theorem zRo_eq {σ τ : zHp} (h : τ 1 1 = σ 1 1) (f t : Int) : zRo τ f t = zRo σ f t := by unfold zRo; rw [h]
theorem zCo_eq {σ τ : zHp} (h : τ 1 1 = σ 1 1) (f t : Int) : zCo τ f t = zCo σ f t := by unfold zCo; rw [h]
theorem zLen_eq {σ τ : zHp} (h : τ 1 1 = σ 1 1) (f t : Int) : zLen τ f t = zLen σ f t := by unfold zLen; rw [zRo_eq h, zCo_eq h]
theorem zBt_eq {σ τ : zHp} (h : τ 1 1 = σ 1 1) (f t k : Int) : zBt τ f t k = zBt σ f t k := by unfold zBt; rw [zRo_eq h, zCo_eq h, zLen_eq h, h]
theorem zDim_eq {σ τ : zHp} (h : τ 1 1 = σ 1 1) (h2 : ∀ k, τ 2 k = σ 2 k) (h3 : ∀ k, τ 42 k = σ 42 k) (kind f t : Int) : ∀ n, zDim τ kind f t n = zDim σ kind f t n
  | 0 => rfl
  | n + 1 => by
    unfold zDim
    rw [zDim_eq h h2 h3 kind f t n, zBt_eq h, h2, h2, h2, h3]
theorem zDn_eq {σ τ : zHp} (h : τ 1 1 = σ 1 1) (h2 : ∀ k, τ 2 k = σ 2 k) (h3 : ∀ k, τ 42 k = σ 42 k) (kind f t : Int) : zDn τ kind f t = zDn σ kind f t := by
  unfold zDn
  rw [zDim_eq h h2 h3, zLen_eq h]
  unfold zFar
  rw [zRo_eq h, zCo_eq h]
section CONG
variable {σ τ : zHp}
theorem zIF_c (h : zIF σ) (e1 : τ 0 8 = σ 0 8) (e2 : τ 0 9 = σ 0 9) (e3 : τ 37 0 = σ 37 0) (e4 : τ 37 1 = σ 37 1) : zIF τ := by
  unfold zIF at h ⊢
  rw [e1, e2, e3, e4]; exact h
theorem zIL_c (h : zIL σ) (e0 : τ 1 0 = σ 1 0) (e1 : τ 1 1 = σ 1 1) (e2 : τ 1 2 = σ 1 2) (e3 : τ 37 5 = σ 37 5) (e4 : τ 37 6 = σ 37 6) : zIL τ := by
  unfold zIL at h ⊢
  rw [e0, e1, e2, e3, e4]; exact h
theorem zIH_c (h : zIH σ) (e1 : τ 1 1 = σ 1 1) (e2 : τ 1 2 = σ 1 2) (r2 : ∀ k, τ 2 k = σ 2 k) (r3 : ∀ k, τ 3 k = σ 3 k) (r4 : ∀ k, τ 4 k = σ 4 k) (r41 : ∀ k, τ 41 k = σ 41 k) : zIH τ := by
  intro c h0 h1
  rw [e2] at h1
  rw [e1, r2, r3, r4, r41]; exact h c h0 h1
theorem zIB_c (h : zIB σ) (e2 : τ 1 2 = σ 1 2) (r2 : ∀ k, τ 2 k = σ 2 k) (r5 : ∀ k, τ 5 k = σ 5 k) : zIB τ := by
  intro i h0 h1 c hc
  rw [e2, r2, r5]; exact h i h0 h1 c hc
theorem zIP_c (h : zIP σ) (e2 : τ 1 2 = σ 1 2) (e3 : τ 1 3 = σ 1 3) (r42 : ∀ k, τ 42 k = σ 42 k) : zIP τ := by
  intro c hc
  rw [e2, e3, r42]; exact h c hc
theorem zIE_c (h : zIE σ) (e1 : τ 10 2 = σ 10 2) (e2 : τ 37 7 = σ 37 7) : zIE τ := by
  unfold zIE at h ⊢
  rw [e1, e2]; exact h
theorem zIN_c (h : zIN σ) (e1 : τ 37 14 = σ 37 14) (e2 : τ 6 0 = σ 6 0) (e3 : τ 1 2 = σ 1 2) (r7 : ∀ k, τ 7 k = σ 7 k) (r8 : ∀ k, τ 8 k = σ 8 k) (r9 : ∀ k, τ 9 k = σ 9 k) (r44 : ∀ k, τ 44 k = σ 44 k) (r45 : ∀ k, τ 45 k = σ 45 k) (r46 : ∀ k, τ 46 k = σ 46 k) : zIN τ := by
  unfold zIN at h ⊢
  rw [e1, e2]
  refine ⟨h.1, h.2.1, h.2.2.1, fun b h0 h1 => ?_⟩
  rw [r7, r8, r9, e3, r44, r45, r46]
  exact h.2.2.2 b h0 h1
theorem zIC_c (h : zIC σ) (e1 : τ 1 1 = σ 1 1) (e2 : τ 1 2 = σ 1 2) (e6 : τ 6 0 = σ 6 0) (r2 : ∀ k, τ 2 k = σ 2 k) (r7 : ∀ k, τ 7 k = σ 7 k) (r8 : ∀ k, τ 8 k = σ 8 k) (r11 : ∀ k, τ 11 k = σ 11 k) (r42 : ∀ k, τ 42 k = σ 42 k) : zIC τ := by
  intro b c h0 h1 h2 h3
  rw [e6] at h1
  rw [e2] at h3
  rw [r11, r7, r8, zDn_eq e1 r2 r42]
  exact h b c h0 h1 h2 h3
theorem zIR_c (h : zIR σ) (e1 : τ 37 23 = σ 37 23) (e2 : τ 14 2 = σ 14 2) (e3 : τ 1 2 = σ 1 2) (e6 : τ 6 0 = σ 6 0) (r15 : ∀ k, τ 15 k = σ 15 k) (r16 : ∀ k, τ 16 k = σ 16 k) (r17 : ∀ k, τ 17 k = σ 17 k) (r18 : ∀ k, τ 18 k = σ 18 k) (r49 : ∀ k, τ 49 k = σ 49 k) (r50 : ∀ k, τ 50 k = σ 50 k) (r51 : ∀ k, τ 51 k = σ 51 k) (r52 : ∀ k, τ 52 k = σ 52 k) : zIR τ := by
  unfold zIR at h ⊢
  rw [e1, e2]
  refine ⟨h.1, h.2.1, h.2.2.1, fun k h0 h1 => ?_⟩
  rw [e3, e6, r15, r16, r17, r18, r49, r50, r51, r52]
  exact h.2.2.2 k h0 h1
theorem zIS_c (h : zIS σ) (r : ∀ o k : Int, 29 ≤ o → o ≤ 36 → τ o k = σ o k) (r38 : ∀ k, τ 38 k = σ 38 k) (r39 : ∀ k, τ 39 k = σ 39 k) (r40 : ∀ k, τ 40 k = σ 40 k) : zIS τ := by
  intro k h0 h1
  obtain ⟨q1, q2, q3, q4, q5⟩ := h k h0 h1
  refine ⟨?_, ?_, ?_, ?_, ?_⟩
  · rw [r (29 + 2 * k) 1 (by omega) (by omega), r (29 + 2 * k) 2 (by omega) (by omega), r38]; exact q1
  · rw [r (29 + 2 * k) 3 (by omega) (by omega), r39]; exact q2
  · rw [r39]; exact q3
  · rw [r39]; exact q4
  · intro i i0 i1
    rw [r (29 + 2 * k + 1) i (by omega) (by omega), r40]; exact q5 i i0 i1
end CONG
theorem zInv_same {σ τ : zHp} (ho : zOk τ) (hs : zSame σ τ) (h : zInv σ) : zInv τ := by
  obtain ⟨-, hF, hL, hH, hB, hP, hE, hN, hC, hR, hS⟩ := h
  refine ⟨ho, zIF_c hF (hs 0 8 rfl) (hs 0 9 rfl) (hs 37 0 rfl) (hs 37 1 rfl), zIL_c hL (hs 1 0 rfl) (hs 1 1 rfl) (hs 1 2 rfl) (hs 37 5 rfl) (hs 37 6 rfl), zIH_c hH (hs 1 1 rfl) (hs 1 2 rfl) (fun k => hs 2 k rfl) (fun k => hs 3 k rfl) (fun k => hs 4 k rfl) (fun k => hs 41 k rfl),
    zIB_c hB (hs 1 2 rfl) (fun k => hs 2 k rfl) (fun k => hs 5 k rfl), zIP_c hP (hs 1 2 rfl) (hs 1 3 rfl) (fun k => hs 42 k rfl), zIE_c hE (hs 10 2 rfl) (hs 37 7 rfl), zIN_c hN (hs 37 14 rfl) (hs 6 0 rfl) (hs 1 2 rfl) (fun k => hs 7 k rfl) (fun k => hs 8 k rfl) (fun k => hs 9 k rfl) (fun k => hs 44 k rfl) (fun k => hs 45 k rfl) (fun k => hs 46 k rfl),
    zIC_c hC (hs 1 1 rfl) (hs 1 2 rfl) (hs 6 0 rfl) (fun k => hs 2 k rfl) (fun k => hs 7 k rfl) (fun k => hs 8 k rfl) (fun k => hs 11 k rfl) (fun k => hs 42 k rfl),
    zIR_c hR (hs 37 23 rfl) (hs 14 2 rfl) (hs 1 2 rfl) (hs 6 0 rfl) (fun k => hs 15 k rfl) (fun k => hs 16 k rfl) (fun k => hs 17 k rfl) (fun k => hs 18 k rfl) (fun k => hs 49 k rfl) (fun k => hs 50 k rfl) (fun k => hs 51 k rfl) (fun k => hs 52 k rfl), zIS_c hS (fun o k h1 h2 => ?_) (fun k => hs 38 k rfl) (fun k => hs 39 k rfl) (fun k => hs 40 k rfl)⟩
  rcases (show o = 29 ∨ o = 30 ∨ o = 31 ∨ o = 32 ∨ o = 33 ∨ o = 34 ∨ o = 35 ∨ o = 36 by omega) with rfl | rfl | rfl | rfl | rfl | rfl | rfl | rfl
  · exact hs 29 k rfl
  · exact hs 30 k rfl
  · exact hs 31 k rfl
  · exact hs 32 k rfl
  · exact hs 33 k rfl
  · exact hs 34 k rfl
  · exact hs 35 k rfl
  · exact hs 36 k rfl
/-- how many cells: the same on both sides -/
theorem zN_eq {σ : zHp} (h : zIL σ) : w32 (σ 37 5 * σ 37 6) = σ 1 2 ∧ 0 ≤ σ 1 2 ∧ σ 1 2 ≤ 30 := by
  obtain ⟨h1, h2, h3, h4⟩ := h
  rw [h2, h3, h4]
  rcases h1 with ⟨q1, q2⟩ | ⟨q1, q2, q3, q4⟩
  · rw [q1, q2]; exact ⟨rfl, by decide, by decide⟩
  · have b1 : 0 ≤ σ 1 0 * σ 1 1 := Int.mul_nonneg (by omega) (by omega)
    have b2 : σ 1 0 * σ 1 1 ≤ 5 * 6 := Int.mul_le_mul q2 q4 (by omega) (by omega)
    exact ⟨w32_id ⟨by omega, by omega⟩, b1, by omega⟩
