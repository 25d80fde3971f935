theorem w_tiOf {υ : zHp} {k x : Int} (hk : 0 ≤ k ∧ k < 30) (h : υ 2 k = x) (hx : 0 ≤ x ∧ x ≤ 9) : m_X3_titheOf [1, k] υ = some (10 - x, υ) := by
  have e : o_isub 10 x = 10 - x := w32_id ⟨by omega, by omega⟩
  simp [e_X3_titheOf, d_X3_titheOf, xC_e, xL_e, xU_e, xB_e, xD_e, xF_e, xG_e, xA_e, xE_e, xH_e, xI_e, xZ_e, xK_e, aN_e, aC_e, cR_e, cV_e, cA_e, cO_e, cN_e, bs_e, bn_e, zg_0, zg_S, sS_e, sX_e, sF_e, sG_e, sA_e, sE_e, sEo_e, sK_e, sQ_e, sI_e, sR_e, sV_e, sB_e, sC_e, sD_e, sN_e, st_0, st_S, zc_0, zc_S, hk, h, e]
