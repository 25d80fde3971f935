theorem w_isSheet (k : Int) (σ : zHp) : m_X8_isSheet [k] σ = some (if 0 ≤ k ∧ k < 4 then 1 else 0, σ) := by
  simp only [e_X8_isSheet, d_X8_isSheet, xC_e, xL_e, xU_e, xB_e, xD_e, xF_e, xG_e, xA_e, xE_e, xH_e, xI_e, xZ_e, xK_e, aN_e, aC_e, cR_e, cV_e, cA_e, cO_e, cN_e, bs_e, bn_e, zg_0, zg_S, sS_e, sX_e, sF_e, sG_e, sA_e, sE_e, sEo_e, sK_e, sQ_e, sI_e, sR_e, sV_e, sB_e, sC_e, sD_e, sN_e, sP_e, sY_e, st_0, st_S, zc_0, zc_S, r_eq, r_ne, r_lt, r_le, r_gt, r_ge, rb_ite]
  by_cases h : 0 ≤ k <;> by_cases h2 : k < 4 <;> simp [h, h2, xC_e, xL_e, xU_e, xB_e, xD_e, xF_e, xG_e, xA_e, xE_e, xH_e, xI_e, xZ_e, xK_e, aN_e, aC_e, cR_e, cV_e, cA_e, cO_e, cN_e, bs_e, bn_e, zg_0, zg_S, sS_e, sX_e, sF_e, sG_e, sA_e, sE_e, sEo_e, sK_e, sQ_e, sI_e, sR_e, sV_e, sB_e, sC_e, sD_e, sN_e, sP_e, sY_e, st_0, st_S, zc_0, zc_S]
theorem w_isSort (k : Int) (σ : zHp) : m_X8_isSort [k] σ = some (if 0 ≤ k ∧ k ≤ 2 then 1 else 0, σ) := by
  simp only [e_X8_isSort, d_X8_isSort, xC_e, xL_e, xU_e, xB_e, xD_e, xF_e, xG_e, xA_e, xE_e, xH_e, xI_e, xZ_e, xK_e, aN_e, aC_e, cR_e, cV_e, cA_e, cO_e, cN_e, bs_e, bn_e, zg_0, zg_S, sS_e, sX_e, sF_e, sG_e, sA_e, sE_e, sEo_e, sK_e, sQ_e, sI_e, sR_e, sV_e, sB_e, sC_e, sD_e, sN_e, sP_e, sY_e, st_0, st_S, zc_0, zc_S, r_eq, r_ne, r_lt, r_le, r_gt, r_ge, rb_ite]
  by_cases h : 0 ≤ k <;> by_cases h2 : k ≤ 2 <;> simp [h, h2, xC_e, xL_e, xU_e, xB_e, xD_e, xF_e, xG_e, xA_e, xE_e, xH_e, xI_e, xZ_e, xK_e, aN_e, aC_e, cR_e, cV_e, cA_e, cO_e, cN_e, bs_e, bn_e, zg_0, zg_S, sS_e, sX_e, sF_e, sG_e, sA_e, sE_e, sEo_e, sK_e, sQ_e, sI_e, sR_e, sV_e, sB_e, sC_e, sD_e, sN_e, sP_e, sY_e, st_0, st_S, zc_0, zc_S]
theorem w_isKind (k : Int) (σ : zHp) : m_X8_isKind [k] σ = some (if 0 ≤ k ∧ k ≤ 2 then 1 else 0, σ) := by
  simp only [e_X8_isKind, d_X8_isKind, xC_e, xL_e, xU_e, xB_e, xD_e, xF_e, xG_e, xA_e, xE_e, xH_e, xI_e, xZ_e, xK_e, aN_e, aC_e, cR_e, cV_e, cA_e, cO_e, cN_e, bs_e, bn_e, zg_0, zg_S, sS_e, sX_e, sF_e, sG_e, sA_e, sE_e, sEo_e, sK_e, sQ_e, sI_e, sR_e, sV_e, sB_e, sC_e, sD_e, sN_e, sP_e, sY_e, st_0, st_S, zc_0, zc_S, r_eq, r_ne, r_lt, r_le, r_gt, r_ge, rb_ite]
  by_cases h : 0 ≤ k <;> by_cases h2 : k ≤ 2 <;> simp [h, h2, xC_e, xL_e, xU_e, xB_e, xD_e, xF_e, xG_e, xA_e, xE_e, xH_e, xI_e, xZ_e, xK_e, aN_e, aC_e, cR_e, cV_e, cA_e, cO_e, cN_e, bs_e, bn_e, zg_0, zg_S, sS_e, sX_e, sF_e, sG_e, sA_e, sE_e, sEo_e, sK_e, sQ_e, sI_e, sR_e, sV_e, sB_e, sC_e, sD_e, sN_e, sP_e, sY_e, st_0, st_S, zc_0, zc_S]
theorem w_isWeight (k : Int) (σ : zHp) : m_X8_isWeight [k] σ = some (if 1 ≤ k ∧ k ≤ 99 then 1 else 0, σ) := by
  simp only [e_X8_isWeight, d_X8_isWeight, xC_e, xL_e, xU_e, xB_e, xD_e, xF_e, xG_e, xA_e, xE_e, xH_e, xI_e, xZ_e, xK_e, aN_e, aC_e, cR_e, cV_e, cA_e, cO_e, cN_e, bs_e, bn_e, zg_0, zg_S, sS_e, sX_e, sF_e, sG_e, sA_e, sE_e, sEo_e, sK_e, sQ_e, sI_e, sR_e, sV_e, sB_e, sC_e, sD_e, sN_e, sP_e, sY_e, st_0, st_S, zc_0, zc_S, r_eq, r_ne, r_lt, r_le, r_gt, r_ge, rb_ite]
  by_cases h : 1 ≤ k <;> by_cases h2 : k ≤ 99 <;> simp [h, h2, xC_e, xL_e, xU_e, xB_e, xD_e, xF_e, xG_e, xA_e, xE_e, xH_e, xI_e, xZ_e, xK_e, aN_e, aC_e, cR_e, cV_e, cA_e, cO_e, cN_e, bs_e, bn_e, zg_0, zg_S, sS_e, sX_e, sF_e, sG_e, sA_e, sE_e, sEo_e, sK_e, sQ_e, sI_e, sR_e, sV_e, sB_e, sC_e, sD_e, sN_e, sP_e, sY_e, st_0, st_S, zc_0, zc_S]
theorem w_isWind (k : Int) (σ : zHp) : m_X8_isWind [k] σ = some (if 0 ≤ k ∧ k ≤ 39 then 1 else 0, σ) := by
  simp only [e_X8_isWind, d_X8_isWind, xC_e, xL_e, xU_e, xB_e, xD_e, xF_e, xG_e, xA_e, xE_e, xH_e, xI_e, xZ_e, xK_e, aN_e, aC_e, cR_e, cV_e, cA_e, cO_e, cN_e, bs_e, bn_e, zg_0, zg_S, sS_e, sX_e, sF_e, sG_e, sA_e, sE_e, sEo_e, sK_e, sQ_e, sI_e, sR_e, sV_e, sB_e, sC_e, sD_e, sN_e, sP_e, sY_e, st_0, st_S, zc_0, zc_S, r_eq, r_ne, r_lt, r_le, r_gt, r_ge, rb_ite]
  by_cases h : 0 ≤ k <;> by_cases h2 : k ≤ 39 <;> simp [h, h2, xC_e, xL_e, xU_e, xB_e, xD_e, xF_e, xG_e, xA_e, xE_e, xH_e, xI_e, xZ_e, xK_e, aN_e, aC_e, cR_e, cV_e, cA_e, cO_e, cN_e, bs_e, bn_e, zg_0, zg_S, sS_e, sX_e, sF_e, sG_e, sA_e, sE_e, sEo_e, sK_e, sQ_e, sI_e, sR_e, sV_e, sB_e, sC_e, sD_e, sN_e, sP_e, sY_e, st_0, st_S, zc_0, zc_S]
theorem w_isOneOfTwo (k : Int) (σ : zHp) : m_X8_isOneOfTwo [k] σ = some (if 0 ≤ k ∧ k ≤ 1 then 1 else 0, σ) := by
  simp only [e_X8_isOneOfTwo, d_X8_isOneOfTwo, xC_e, xL_e, xU_e, xB_e, xD_e, xF_e, xG_e, xA_e, xE_e, xH_e, xI_e, xZ_e, xK_e, aN_e, aC_e, cR_e, cV_e, cA_e, cO_e, cN_e, bs_e, bn_e, zg_0, zg_S, sS_e, sX_e, sF_e, sG_e, sA_e, sE_e, sEo_e, sK_e, sQ_e, sI_e, sR_e, sV_e, sB_e, sC_e, sD_e, sN_e, sP_e, sY_e, st_0, st_S, zc_0, zc_S, r_eq, r_ne, r_lt, r_le, r_gt, r_ge, rb_ite]
  by_cases h : k = 0
  · simp [h, xC_e, xL_e, xU_e, xB_e, xD_e, xF_e, xG_e, xA_e, xE_e, xH_e, xI_e, xZ_e, xK_e, aN_e, aC_e, cR_e, cV_e, cA_e, cO_e, cN_e, bs_e, bn_e, zg_0, zg_S, sS_e, sX_e, sF_e, sG_e, sA_e, sE_e, sEo_e, sK_e, sQ_e, sI_e, sR_e, sV_e, sB_e, sC_e, sD_e, sN_e, sP_e, sY_e, st_0, st_S, zc_0, zc_S]
  · by_cases h2 : k = 1
    · simp [h2, xC_e, xL_e, xU_e, xB_e, xD_e, xF_e, xG_e, xA_e, xE_e, xH_e, xI_e, xZ_e, xK_e, aN_e, aC_e, cR_e, cV_e, cA_e, cO_e, cN_e, bs_e, bn_e, zg_0, zg_S, sS_e, sX_e, sF_e, sG_e, sA_e, sE_e, sEo_e, sK_e, sQ_e, sI_e, sR_e, sV_e, sB_e, sC_e, sD_e, sN_e, sP_e, sY_e, st_0, st_S, zc_0, zc_S]
    · have h3 : ¬ (0 ≤ k ∧ k ≤ 1) := by omega
      simp [h, h2, h3, xC_e, xL_e, xU_e, xB_e, xD_e, xF_e, xG_e, xA_e, xE_e, xH_e, xI_e, xZ_e, xK_e, aN_e, aC_e, cR_e, cV_e, cA_e, cO_e, cN_e, bs_e, bn_e, zg_0, zg_S, sS_e, sX_e, sF_e, sG_e, sA_e, sE_e, sEo_e, sK_e, sQ_e, sI_e, sR_e, sV_e, sB_e, sC_e, sD_e, sN_e, sP_e, sY_e, st_0, st_S, zc_0, zc_S]
theorem w_faulty (n : Int) (h0 : 0 ≤ n) (h1 : n ≤ 10) (σ : zHp) : m_X8_faulty [0, n] σ = some (-10 - n, zput σ 0 8 n) := by
  have e : o_isub (-10) n = -10 - n := w32_id ⟨by omega, by omega⟩
  simp only [e_X8_faulty, d_X8_faulty, xC_e, xL_e, xU_e, xB_e, xD_e, xF_e, xG_e, xA_e, xE_e, xH_e, xI_e, xZ_e, xK_e, aN_e, aC_e, cR_e, cV_e, cA_e, cO_e, cN_e, bs_e, bn_e, zg_0, zg_S, sS_e, sX_e, sF_e, sG_e, sA_e, sE_e, sEo_e, sK_e, sQ_e, sI_e, sR_e, sV_e, sB_e, sC_e, sD_e, sN_e, sP_e, sY_e, st_0, st_S, zc_0, zc_S, e]
  simp [xC_e, xL_e, xU_e, xB_e, xD_e, xF_e, xG_e, xA_e, xE_e, xH_e, xI_e, xZ_e, xK_e, aN_e, aC_e, cR_e, cV_e, cA_e, cO_e, cN_e, bs_e, bn_e, zg_0, zg_S, sS_e, sX_e, sF_e, sG_e, sA_e, sE_e, sEo_e, sK_e, sQ_e, sI_e, sR_e, sV_e, sB_e, sC_e, sD_e, sN_e, sP_e, sY_e, st_0, st_S, zc_0, zc_S]
theorem v_within (a lo hi : Int) (σ : zHp) : m_X9_within [a, lo, hi] σ = some (if lo ≤ a ∧ a ≤ hi then 1 else 0, σ) := by
  simp only [e_X9_within, d_X9_within, xC_e, xL_e, xU_e, xB_e, xD_e, xF_e, xG_e, xA_e, xE_e, xH_e, xI_e, xZ_e, xK_e, aN_e, aC_e, cR_e, cV_e, cA_e, cO_e, cN_e, bs_e, bn_e, zg_0, zg_S, sS_e, sX_e, sF_e, sG_e, sA_e, sE_e, sEo_e, sK_e, sQ_e, sI_e, sR_e, sV_e, sB_e, sC_e, sD_e, sN_e, sP_e, sY_e, st_0, st_S, zc_0, zc_S, r_eq, r_ne, r_lt, r_le, r_gt, r_ge, rb_ite]
  by_cases h : lo ≤ a <;> by_cases h2 : a ≤ hi <;> simp [h, h2, xC_e, xL_e, xU_e, xB_e, xD_e, xF_e, xG_e, xA_e, xE_e, xH_e, xI_e, xZ_e, xK_e, aN_e, aC_e, cR_e, cV_e, cA_e, cO_e, cN_e, bs_e, bn_e, zg_0, zg_S, sS_e, sX_e, sF_e, sG_e, sA_e, sE_e, sEo_e, sK_e, sQ_e, sI_e, sR_e, sV_e, sB_e, sC_e, sD_e, sN_e, sP_e, sY_e, st_0, st_S, zc_0, zc_S]
theorem v_isSheet (k : Int) (σ : zHp) : m_X9_isSheet [k] σ = some (if 0 ≤ k ∧ k < 4 then 1 else 0, σ) := by
  have e : (0 ≤ k ∧ k ≤ 3) ↔ (0 ≤ k ∧ k < 4) := by omega
  simp only [e_X9_isSheet, d_X9_isSheet, xC_e, xL_e, xU_e, xB_e, xD_e, xF_e, xG_e, xA_e, xE_e, xH_e, xI_e, xZ_e, xK_e, aN_e, aC_e, cR_e, cV_e, cA_e, cO_e, cN_e, bs_e, bn_e, zg_0, zg_S, sS_e, sX_e, sF_e, sG_e, sA_e, sE_e, sEo_e, sK_e, sQ_e, sI_e, sR_e, sV_e, sB_e, sC_e, sD_e, sN_e, sP_e, sY_e, st_0, st_S, zc_0, zc_S, v_within, e]
  rfl
theorem v_isSort (k : Int) (σ : zHp) : m_X9_isSort [k] σ = some (if 0 ≤ k ∧ k ≤ 2 then 1 else 0, σ) := by
  simp only [e_X9_isSort, d_X9_isSort, xC_e, xL_e, xU_e, xB_e, xD_e, xF_e, xG_e, xA_e, xE_e, xH_e, xI_e, xZ_e, xK_e, aN_e, aC_e, cR_e, cV_e, cA_e, cO_e, cN_e, bs_e, bn_e, zg_0, zg_S, sS_e, sX_e, sF_e, sG_e, sA_e, sE_e, sEo_e, sK_e, sQ_e, sI_e, sR_e, sV_e, sB_e, sC_e, sD_e, sN_e, sP_e, sY_e, st_0, st_S, zc_0, zc_S, v_within]
  rfl
theorem v_isWeight (k : Int) (σ : zHp) : m_X9_isWeight [k] σ = some (if 1 ≤ k ∧ k ≤ 99 then 1 else 0, σ) := by
  simp only [e_X9_isWeight, d_X9_isWeight, xC_e, xL_e, xU_e, xB_e, xD_e, xF_e, xG_e, xA_e, xE_e, xH_e, xI_e, xZ_e, xK_e, aN_e, aC_e, cR_e, cV_e, cA_e, cO_e, cN_e, bs_e, bn_e, zg_0, zg_S, sS_e, sX_e, sF_e, sG_e, sA_e, sE_e, sEo_e, sK_e, sQ_e, sI_e, sR_e, sV_e, sB_e, sC_e, sD_e, sN_e, sP_e, sY_e, st_0, st_S, zc_0, zc_S, v_within]
  rfl
theorem v_isWind (k : Int) (σ : zHp) : m_X9_isWind [k] σ = some (if 0 ≤ k ∧ k ≤ 39 then 1 else 0, σ) := by
  simp only [e_X9_isWind, d_X9_isWind, xC_e, xL_e, xU_e, xB_e, xD_e, xF_e, xG_e, xA_e, xE_e, xH_e, xI_e, xZ_e, xK_e, aN_e, aC_e, cR_e, cV_e, cA_e, cO_e, cN_e, bs_e, bn_e, zg_0, zg_S, sS_e, sX_e, sF_e, sG_e, sA_e, sE_e, sEo_e, sK_e, sQ_e, sI_e, sR_e, sV_e, sB_e, sC_e, sD_e, sN_e, sP_e, sY_e, st_0, st_S, zc_0, zc_S, v_within]
  rfl
theorem v_all (σ : zHp) : m_X9_all [37] σ = some (w32 (σ 37 5 * σ 37 6), σ) := by
  simp only [e_X9_all, d_X9_all, xC_e, xL_e, xU_e, xB_e, xD_e, xF_e, xG_e, xA_e, xE_e, xH_e, xI_e, xZ_e, xK_e, aN_e, aC_e, cR_e, cV_e, cA_e, cO_e, cN_e, bs_e, bn_e, zg_0, zg_S, sS_e, sX_e, sF_e, sG_e, sA_e, sE_e, sEo_e, sK_e, sQ_e, sI_e, sR_e, sV_e, sB_e, sC_e, sD_e, sN_e, sP_e, sY_e, st_0, st_S, zc_0, zc_S, o_imul]
  rfl
theorem v_isCell (c : Int) (σ : zHp) : m_X9_isCell [37, c] σ = some (if 0 ≤ c ∧ c < w32 (σ 37 5 * σ 37 6) then 1 else 0, σ) := by
  simp only [e_X9_isCell, d_X9_isCell, xC_e, xL_e, xU_e, xB_e, xD_e, xF_e, xG_e, xA_e, xE_e, xH_e, xI_e, xZ_e, xK_e, aN_e, aC_e, cR_e, cV_e, cA_e, cO_e, cN_e, bs_e, bn_e, zg_0, zg_S, sS_e, sX_e, sF_e, sG_e, sA_e, sE_e, sEo_e, sK_e, sQ_e, sI_e, sR_e, sV_e, sB_e, sC_e, sD_e, sN_e, sP_e, sY_e, st_0, st_S, zc_0, zc_S, r_eq, r_ne, r_lt, r_le, r_gt, r_ge, rb_ite, v_all]
  by_cases h : 0 ≤ c <;> by_cases h2 : c < w32 (σ 37 5 * σ 37 6) <;> simp [h, h2, xC_e, xL_e, xU_e, xB_e, xD_e, xF_e, xG_e, xA_e, xE_e, xH_e, xI_e, xZ_e, xK_e, aN_e, aC_e, cR_e, cV_e, cA_e, cO_e, cN_e, bs_e, bn_e, zg_0, zg_S, sS_e, sX_e, sF_e, sG_e, sA_e, sE_e, sEo_e, sK_e, sQ_e, sI_e, sR_e, sV_e, sB_e, sC_e, sD_e, sN_e, sP_e, sY_e, st_0, st_S, zc_0, zc_S]
theorem v_isBell (b : Int) (σ : zHp) : m_X9_isBell [37, b] σ = some (if 0 ≤ b ∧ b < σ 37 14 then 1 else 0, σ) := by
  simp only [e_X9_isBell, d_X9_isBell, xC_e, xL_e, xU_e, xB_e, xD_e, xF_e, xG_e, xA_e, xE_e, xH_e, xI_e, xZ_e, xK_e, aN_e, aC_e, cR_e, cV_e, cA_e, cO_e, cN_e, bs_e, bn_e, zg_0, zg_S, sS_e, sX_e, sF_e, sG_e, sA_e, sE_e, sEo_e, sK_e, sQ_e, sI_e, sR_e, sV_e, sB_e, sC_e, sD_e, sN_e, sP_e, sY_e, st_0, st_S, zc_0, zc_S, r_eq, r_ne, r_lt, r_le, r_gt, r_ge, rb_ite]
  by_cases h : 0 ≤ b <;> by_cases h2 : b < σ 37 14 <;> simp [h, h2, xC_e, xL_e, xU_e, xB_e, xD_e, xF_e, xG_e, xA_e, xE_e, xH_e, xI_e, xZ_e, xK_e, aN_e, aC_e, cR_e, cV_e, cA_e, cO_e, cN_e, bs_e, bn_e, zg_0, zg_S, sS_e, sX_e, sF_e, sG_e, sA_e, sE_e, sEo_e, sK_e, sQ_e, sI_e, sR_e, sV_e, sB_e, sC_e, sD_e, sN_e, sP_e, sY_e, st_0, st_S, zc_0, zc_S]
theorem v_fails (n : Int) (h0 : 0 ≤ n) (h1 : n ≤ 10) (σ : zHp) : m_X9_fails [37, n] σ = some (-10 - n, zput σ 37 0 n) := by
  have e : o_isub (-10) n = -10 - n := w32_id ⟨by omega, by omega⟩
  simp only [e_X9_fails, d_X9_fails, xC_e, xL_e, xU_e, xB_e, xD_e, xF_e, xG_e, xA_e, xE_e, xH_e, xI_e, xZ_e, xK_e, aN_e, aC_e, cR_e, cV_e, cA_e, cO_e, cN_e, bs_e, bn_e, zg_0, zg_S, sS_e, sX_e, sF_e, sG_e, sA_e, sE_e, sEo_e, sK_e, sQ_e, sI_e, sR_e, sV_e, sB_e, sC_e, sD_e, sN_e, sP_e, sY_e, st_0, st_S, zc_0, zc_S, e]
  simp [xC_e, xL_e, xU_e, xB_e, xD_e, xF_e, xG_e, xA_e, xE_e, xH_e, xI_e, xZ_e, xK_e, aN_e, aC_e, cR_e, cV_e, cA_e, cO_e, cN_e, bs_e, bn_e, zg_0, zg_S, sS_e, sX_e, sF_e, sG_e, sA_e, sE_e, sEo_e, sK_e, sQ_e, sI_e, sR_e, sV_e, sB_e, sC_e, sD_e, sN_e, sP_e, sY_e, st_0, st_S, zc_0, zc_S]
theorem v_lost (n : Int) (σ : zHp) : m_X9_lost [37, n] σ = some (-9223372036854775808, zput σ 37 0 n) := by
  simp only [e_X9_lost, d_X9_lost, xC_e, xL_e, xU_e, xB_e, xD_e, xF_e, xG_e, xA_e, xE_e, xH_e, xI_e, xZ_e, xK_e, aN_e, aC_e, cR_e, cV_e, cA_e, cO_e, cN_e, bs_e, bn_e, zg_0, zg_S, sS_e, sX_e, sF_e, sG_e, sA_e, sE_e, sEo_e, sK_e, sQ_e, sI_e, sR_e, sV_e, sB_e, sC_e, sD_e, sN_e, sP_e, sY_e, st_0, st_S, zc_0, zc_S]
  simp [xC_e, xL_e, xU_e, xB_e, xD_e, xF_e, xG_e, xA_e, xE_e, xH_e, xI_e, xZ_e, xK_e, aN_e, aC_e, cR_e, cV_e, cA_e, cO_e, cN_e, bs_e, bn_e, zg_0, zg_S, sS_e, sX_e, sF_e, sG_e, sA_e, sE_e, sEo_e, sK_e, sQ_e, sI_e, sR_e, sV_e, sB_e, sC_e, sD_e, sN_e, sP_e, sY_e, st_0, st_S, zc_0, zc_S]
/-! places that no later answer looks at -/
def zfree (a b : Int) : Bool := decide ((a = 10 ∧ b = 5) ∨ a = 12 ∨ a = 13 ∨ (a = 19 ∧ (b = 5 ∨ b = 6)) ∨ a = 20 ∨ a = 21 ∨ a = 23 ∨ a = 24 ∨ (a = 25 ∧ (b = 4 ∨ b = 5)) ∨ a = 26 ∨ a = 27 ∨ (a = 37 ∧ (b = 10 ∨ b = 11 ∨ b = 12 ∨ b = 18 ∨ b = 19 ∨ b = 22)) ∨ a = 43 ∨ a = 47 ∨ a = 48 ∨ a = 53 ∨ a = 54 ∨ a = 55 ∨ a = 56)
def zSame (σ τ : zHp) : Prop := ∀ a b : Int, zfree a b = false → τ a b = σ a b
theorem zSame.rf (σ : zHp) : zSame σ σ := fun _ _ _ => rfl
theorem zSame.tr {σ τ υ : zHp} (h1 : zSame σ τ) (h2 : zSame τ υ) : zSame σ υ := fun a b h => (h2 a b h).trans (h1 a b h)
theorem zSame.put {σ τ : zHp} {o i v : Int} (h : zSame σ τ) (hf : zfree o i = true) : zSame σ (zput τ o i v) := by
  intro a b hb
  unfold zput
  rw [if_neg, h a b hb]
  rintro ⟨rfl, rfl⟩
  rw [hf] at hb
  cases hb
/-- the walks between cells look at the land alone -/
theorem zRo_eq {σ τ : zHp} (h : τ 1 1 = σ 1 1) (f t : Int) : zRo τ f t = zRo σ f t := by unfold zRo; rw [h]
theorem zCo_eq {σ τ : zHp} (h : τ 1 1 = σ 1 1) (f t : Int) : zCo τ f t = zCo σ f t := by unfold zCo; rw [h]
theorem zLen_eq {σ τ : zHp} (h : τ 1 1 = σ 1 1) (f t : Int) : zLen τ f t = zLen σ f t := by unfold zLen; rw [zRo_eq h, zCo_eq h]
theorem zBt_eq {σ τ : zHp} (h : τ 1 1 = σ 1 1) (f t k : Int) : zBt τ f t k = zBt σ f t k := by unfold zBt; rw [zRo_eq h, zCo_eq h, zLen_eq h, h]
theorem zDim_eq {σ τ : zHp} (h : τ 1 1 = σ 1 1) (h2 : ∀ k, τ 2 k = σ 2 k) (h3 : ∀ k, τ 42 k = σ 42 k) (kind f t : Int) : ∀ n, zDim τ kind f t n = zDim σ kind f t n
  | 0 => rfl
  | n + 1 => by
    unfold zDim
    rw [zDim_eq h h2 h3 kind f t n, zBt_eq h, h2, h2, h2, h3]
theorem zDn_eq {σ τ : zHp} (h : τ 1 1 = σ 1 1) (h2 : ∀ k, τ 2 k = σ 2 k) (h3 : ∀ k, τ 42 k = σ 42 k) (kind f t : Int) : zDn τ kind f t = zDn σ kind f t := by
  unfold zDn
  rw [zDim_eq h h2 h3, zLen_eq h]
  unfold zFar
  rw [zRo_eq h, zCo_eq h]
theorem zInv_same {σ τ : zHp} (ho : zOk τ) (hs : zSame σ τ) (h : zInv σ) : zInv τ := by
  obtain ⟨-, hF, hL, hH, hB, hP, hE, hN, hC, hR, hS⟩ := h
  have s1 : ∀ k : Int, τ 1 k = σ 1 k := fun k => hs 1 k rfl
  have s2 : ∀ k : Int, τ 2 k = σ 2 k := fun k => hs 2 k rfl
  have s3 : ∀ k : Int, τ 3 k = σ 3 k := fun k => hs 3 k rfl
  have s4 : ∀ k : Int, τ 4 k = σ 4 k := fun k => hs 4 k rfl
  have s5 : ∀ k : Int, τ 5 k = σ 5 k := fun k => hs 5 k rfl
  have s6 : ∀ k : Int, τ 6 k = σ 6 k := fun k => hs 6 k rfl
  have s7 : ∀ k : Int, τ 7 k = σ 7 k := fun k => hs 7 k rfl
  have s8 : ∀ k : Int, τ 8 k = σ 8 k := fun k => hs 8 k rfl
  have s9 : ∀ k : Int, τ 9 k = σ 9 k := fun k => hs 9 k rfl
  have s11 : ∀ k : Int, τ 11 k = σ 11 k := fun k => hs 11 k rfl
  have s41 : ∀ k : Int, τ 41 k = σ 41 k := fun k => hs 41 k rfl
  have s42 : ∀ k : Int, τ 42 k = σ 42 k := fun k => hs 42 k rfl
  refine ⟨ho, ?_, ?_, ?_, ?_, ?_, ?_, ?_, ?_, ?_, ?_⟩
  · unfold zIF at hF ⊢
    rw [hs 0 8 rfl, hs 0 9 rfl, hs 37 0 rfl, hs 37 1 rfl]; exact hF
  · unfold zIL at hL ⊢
    rw [s1, s1, s1, hs 37 5 rfl, hs 37 6 rfl]; exact hL
  · intro c h0 h1
    rw [s1] at h1
    rw [s1, s2, s3, s4, s41]; exact hH c h0 h1
  · intro h h0 h1 c hc
    rw [s1, s2, s5]; exact hB h h0 h1 c hc
  · intro c hc
    rw [s1, s1, s42]; exact hP c hc
  · unfold zIE at hE ⊢
    rw [hs 10 2 rfl, hs 37 7 rfl]; exact hE
  · unfold zIN at hN ⊢
    rw [hs 37 14 rfl, s6]
    refine ⟨hN.1, hN.2.1, hN.2.2.1, fun b h0 h1 => ?_⟩
    rw [s7, s8, s9, s1, hs 44 b rfl, hs 45 b rfl, hs 46 b rfl]
    exact hN.2.2.2 b h0 h1
  · intro b c h0 h1 h2 h3
    rw [s6] at h1
    rw [s1] at h3
    rw [s11, s7, s8, zDn_eq (s1 1) s2 s42]
    exact hC b c h0 h1 h2 h3
  · unfold zIR at hR ⊢
    rw [hs 14 2 rfl, hs 37 23 rfl]
    refine ⟨hR.1, hR.2.1, hR.2.2.1, fun k h0 h1 => ?_⟩
    rw [s1, s6, hs 15 k rfl, hs 16 k rfl, hs 17 k rfl, hs 18 k rfl, hs 49 k rfl, hs 50 k rfl, hs 51 k rfl, hs 52 k rfl]
    exact hR.2.2.2 k h0 h1
  · intro k h0 h1
    have hk : ∀ i : Int, τ (29 + 2 * k) i = σ (29 + 2 * k) i ∧ τ (29 + 2 * k + 1) i = σ (29 + 2 * k + 1) i := by
      intro i
      rcases (show k = 0 ∨ k = 1 ∨ k = 2 ∨ k = 3 by omega) with rfl | rfl | rfl | rfl
      · exact ⟨hs 29 i rfl, hs 30 i rfl⟩
      · exact ⟨hs 31 i rfl, hs 32 i rfl⟩
      · exact ⟨hs 33 i rfl, hs 34 i rfl⟩
      · exact ⟨hs 35 i rfl, hs 36 i rfl⟩
    obtain ⟨q1, q2, q3, q4, q5⟩ := hS k h0 h1
    refine ⟨?_, ?_, ?_, ?_, ?_⟩
    · rw [(hk 1).1, (hk 2).1, hs 38 k rfl]; exact q1
    · rw [(hk 3).1, hs 39 k rfl]; exact q2
    · rw [hs 39 k rfl]; exact q3
    · rw [hs 39 k rfl]; exact q4
    · intro i i0 i1
      rw [(hk i).2, hs 40 _ rfl]; exact q5 i i0 i1
/-- how many cells: the same on both sides -/
theorem zN_eq {σ : zHp} (h : zIL σ) : w32 (σ 37 5 * σ 37 6) = σ 1 2 ∧ 0 ≤ σ 1 2 ∧ σ 1 2 ≤ 30 := by
  obtain ⟨h1, h2, h3, h4⟩ := h
  rw [h2, h3, h4]
  rcases h1 with ⟨q1, q2⟩ | ⟨q1, q2, q3, q4⟩
  · rw [q1, q2]; exact ⟨rfl, by decide, by decide⟩
  · have b1 : 0 ≤ σ 1 0 * σ 1 1 := Int.mul_nonneg (by omega) (by omega)
    have b2 : σ 1 0 * σ 1 1 ≤ 5 * 6 := Int.mul_le_mul q2 q4 (by omega) (by omega)
    exact ⟨w32_id ⟨by omega, by omega⟩, b1, by omega⟩
