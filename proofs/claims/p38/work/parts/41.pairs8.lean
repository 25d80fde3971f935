theorem zput_y {σ : zHp} {o i v a b : Int} (h : a = o ∧ b = i) : zput σ o i v a b = v := if_pos h
theorem w_hasNumbers (o i n : Int) (σ : zHp) (h0 : 0 ≤ σ o 3) (h1 : σ o 3 ≤ 60) : m_X6_hasNumbers [o, i, n] σ = some (if 0 ≤ i ∧ 0 ≤ n ∧ i ≤ σ o 3 ∧ n ≤ σ o 3 - i then 1 else 0, σ) := by
  simp only [e_X6_hasNumbers, d_X6_hasNumbers, xC_e, xL_e, xU_e, xB_e, xD_e, xF_e, xG_e, xA_e, xE_e, xH_e, xI_e, xZ_e, xK_e, aN_e, aC_e, cR_e, cV_e, cA_e, cO_e, cN_e, bs_e, bn_e, zg_0, zg_S, sS_e, sX_e, sF_e, sG_e, sA_e, sE_e, sEo_e, sK_e, sQ_e, sI_e, sR_e, sV_e, sB_e, sC_e, sD_e, sN_e, st_0, st_S, zc_0, zc_S, r_eq, r_ne, r_lt, r_le, r_gt, r_ge, rb_ite, rb_0, rb_1]
  by_cases a : 0 ≤ n
  · by_cases b : 0 ≤ i
    · by_cases c : i ≤ σ o 3
      · have e : o_isub (σ o 3) i = σ o 3 - i := w32_id ⟨by omega, by omega⟩
        by_cases d : n ≤ σ o 3 - i <;> simp [a, b, c, d, e, xC_e, xL_e, xU_e, xB_e, xD_e, xF_e, xG_e, xA_e, xE_e, xH_e, xI_e, xZ_e, xK_e, aN_e, aC_e, cR_e, cV_e, cA_e, cO_e, cN_e, bs_e, bn_e, zg_0, zg_S, sS_e, sX_e, sF_e, sG_e, sA_e, sE_e, sEo_e, sK_e, sQ_e, sI_e, sR_e, sV_e, sB_e, sC_e, sD_e, sN_e, st_0, st_S, zc_0, zc_S]
      · simp [a, b, c, xC_e, xL_e, xU_e, xB_e, xD_e, xF_e, xG_e, xA_e, xE_e, xH_e, xI_e, xZ_e, xK_e, aN_e, aC_e, cR_e, cV_e, cA_e, cO_e, cN_e, bs_e, bn_e, zg_0, zg_S, sS_e, sX_e, sF_e, sG_e, sA_e, sE_e, sEo_e, sK_e, sQ_e, sI_e, sR_e, sV_e, sB_e, sC_e, sD_e, sN_e, st_0, st_S, zc_0, zc_S]
    · simp [a, b, xC_e, xL_e, xU_e, xB_e, xD_e, xF_e, xG_e, xA_e, xE_e, xH_e, xI_e, xZ_e, xK_e, aN_e, aC_e, cR_e, cV_e, cA_e, cO_e, cN_e, bs_e, bn_e, zg_0, zg_S, sS_e, sX_e, sF_e, sG_e, sA_e, sE_e, sEo_e, sK_e, sQ_e, sI_e, sR_e, sV_e, sB_e, sC_e, sD_e, sN_e, st_0, st_S, zc_0, zc_S]
  · simp [a, xC_e, xL_e, xU_e, xB_e, xD_e, xF_e, xG_e, xA_e, xE_e, xH_e, xI_e, xZ_e, xK_e, aN_e, aC_e, cR_e, cV_e, cA_e, cO_e, cN_e, bs_e, bn_e, zg_0, zg_S, sS_e, sX_e, sF_e, sG_e, sA_e, sE_e, sEo_e, sK_e, sQ_e, sI_e, sR_e, sV_e, sB_e, sC_e, sD_e, sN_e, st_0, st_S, zc_0, zc_S]
theorem w_hasNumbers_t {o i n : Int} {σ : zHp} (h0 : 0 ≤ σ o 3 ∧ σ o 3 ≤ 60) (h : 0 ≤ i ∧ 0 ≤ n ∧ i ≤ σ o 3 ∧ n ≤ σ o 3 - i) : m_X6_hasNumbers [o, i, n] σ = some (1, σ) := by rw [w_hasNumbers _ _ _ _ h0.1 h0.2, if_pos h]
theorem w_hasNumbers_f {o i n : Int} {σ : zHp} (h0 : 0 ≤ σ o 3 ∧ σ o 3 ≤ 60) (h : ¬ (0 ≤ i ∧ 0 ≤ n ∧ i ≤ σ o 3 ∧ n ≤ σ o 3 - i)) : m_X6_hasNumbers [o, i, n] σ = some (0, σ) := by rw [w_hasNumbers _ _ _ _ h0.1 h0.2, if_neg h]
