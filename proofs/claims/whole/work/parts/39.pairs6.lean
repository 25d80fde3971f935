theorem w_cut (o v : Int) (σ : zHp) : m_X6_cut [o, v] σ = some (if σ o 2 = 0 then zi2b v else if σ o 2 = 1 then zi2s v else v, σ) := by
  simp only [e_X6_cut, d_X6_cut, xC_e, xL_e, xU_e, xB_e, xD_e, xF_e, xG_e, xA_e, xE_e, xH_e, xI_e, xZ_e, xK_e, aN_e, aC_e, cR_e, cV_e, cA_e, cO_e, cN_e, bs_e, bn_e, zg_0, zg_S, sS_e, sX_e, sF_e, sG_e, sA_e, sE_e, sEo_e, sK_e, sQ_e, sI_e, sR_e, sV_e, sB_e, sC_e, sD_e, sN_e, sP_e, sY_e, st_0, st_S, zc_0, zc_S, r_eq, r_ne, r_lt, r_le, r_gt, r_ge, rb_ite, rb_0, rb_1]
  by_cases h : σ o 2 = 0
  · simp [h, xC_e, xL_e, xU_e, xB_e, xD_e, xF_e, xG_e, xA_e, xE_e, xH_e, xI_e, xZ_e, xK_e, aN_e, aC_e, cR_e, cV_e, cA_e, cO_e, cN_e, bs_e, bn_e, zg_0, zg_S, sS_e, sX_e, sF_e, sG_e, sA_e, sE_e, sEo_e, sK_e, sQ_e, sI_e, sR_e, sV_e, sB_e, sC_e, sD_e, sN_e, sP_e, sY_e, st_0, st_S, zc_0, zc_S]
  · by_cases h2 : σ o 2 = 1 <;> simp [h, h2, xC_e, xL_e, xU_e, xB_e, xD_e, xF_e, xG_e, xA_e, xE_e, xH_e, xI_e, xZ_e, xK_e, aN_e, aC_e, cR_e, cV_e, cA_e, cO_e, cN_e, bs_e, bn_e, zg_0, zg_S, sS_e, sX_e, sF_e, sG_e, sA_e, sE_e, sEo_e, sK_e, sQ_e, sI_e, sR_e, sV_e, sB_e, sC_e, sD_e, sN_e, sP_e, sY_e, st_0, st_S, zc_0, zc_S]
theorem zp26 : zp_26 zInv := by
  intro k i v hk hi hv σ hI
  have hS := zI10 hI
  have ha : zOkA [0, 0, 0] [k, i, v] := ⟨hk, hi, hv, trivial⟩
  by_cases h : 0 ≤ k ∧ k < 4
  case neg =>
    refine zqf k_X8_put k_X9_put hI ha (r := -1) (x := 0) ?_ (fun τ hτ => ?_)
    · simp [e_X8_put, d_X8_put, xC_e, xL_e, xU_e, xB_e, xD_e, xF_e, xG_e, xA_e, xE_e, xH_e, xI_e, xZ_e, xK_e, aN_e, aC_e, cR_e, cV_e, cA_e, cO_e, cN_e, bs_e, bn_e, zg_0, zg_S, sS_e, sX_e, sF_e, sG_e, sA_e, sE_e, sEo_e, sK_e, sQ_e, sI_e, sR_e, sV_e, sB_e, sC_e, sD_e, sN_e, sP_e, sY_e, st_0, st_S, zc_0, zc_S, r_eq, r_ne, r_lt, r_le, r_gt, r_ge, rb_ite, rb_0, rb_1, w_isSheet_f h]
    · simp [e_X9_put, d_X9_put, xC_e, xL_e, xU_e, xB_e, xD_e, xF_e, xG_e, xA_e, xE_e, xH_e, xI_e, xZ_e, xK_e, aN_e, aC_e, cR_e, cV_e, cA_e, cO_e, cN_e, bs_e, bn_e, zg_0, zg_S, sS_e, sX_e, sF_e, sG_e, sA_e, sE_e, sEo_e, sK_e, sQ_e, sI_e, sR_e, sV_e, sB_e, sC_e, sD_e, sN_e, sP_e, sY_e, st_0, st_S, zc_0, zc_S, r_eq, r_ne, r_lt, r_le, r_gt, r_ge, rb_ite, rb_0, rb_1, v_isSheet_f h]
  have z8 : ∀ (v a b : Int), a ≠ 0 → zput σ 0 8 v a b = σ a b := fun v a b h => zput_o h b
  have o0 : 29 + 2 * k ≠ 0 := by omega
  rcases zSh hS h with ⟨p1, p2, p3, p4, p5⟩ | ⟨p1, p2⟩
  case inr =>
    refine zqf k_X8_put k_X9_put hI ha (r := -11) (x := 1) ?_ (fun τ hτ => ?_)
    · simp [e_X8_put, d_X8_put, xC_e, xL_e, xU_e, xB_e, xD_e, xF_e, xG_e, xA_e, xE_e, xH_e, xI_e, xZ_e, xK_e, aN_e, aC_e, cR_e, cV_e, cA_e, cO_e, cN_e, bs_e, bn_e, zg_0, zg_S, sS_e, sX_e, sF_e, sG_e, sA_e, sE_e, sEo_e, sK_e, sQ_e, sI_e, sR_e, sV_e, sB_e, sC_e, sD_e, sN_e, sP_e, sY_e, st_0, st_S, zc_0, zc_S, r_eq, r_ne, r_lt, r_le, r_gt, r_ge, rb_ite, rb_0, rb_1, w_isSheet_t h, h, z8 _ _ _ o0, p1, w_faulty, zput_put]
    · have e38 : zput τ 37 0 0 38 k = -9 := by rw [zput_o (by decide), hτ _ _ (by omega)]; exact p2
      simp [e_X9_put, d_X9_put, xC_e, xL_e, xU_e, xB_e, xD_e, xF_e, xG_e, xA_e, xE_e, xH_e, xI_e, xZ_e, xK_e, aN_e, aC_e, cR_e, cV_e, cA_e, cO_e, cN_e, bs_e, bn_e, zg_0, zg_S, sS_e, sX_e, sF_e, sG_e, sA_e, sE_e, sEo_e, sK_e, sQ_e, sI_e, sR_e, sV_e, sB_e, sC_e, sD_e, sN_e, sP_e, sY_e, st_0, st_S, zc_0, zc_S, r_eq, r_ne, r_lt, r_le, r_gt, r_ge, rb_ite, rb_0, rb_1, v_isSheet_t h, h, e38, v_fails, zput_put]
  obtain ⟨-, q2, q3, q4, q5⟩ := hS k h.1 h.2
  have key : ∀ τ : zHp, (∀ a b : Int, ¬ (a = 0 ∧ b = 8) → τ a b = σ a b) → zput τ 37 0 0 38 k = σ (29 + 2 * k) 2 ∧ zput τ 37 0 0 39 k = σ (29 + 2 * k) 3 := by
    intro τ hτ
    refine ⟨?_, ?_⟩
    · rw [zput_o (by decide), hτ _ _ (by omega), p2]
    · rw [zput_o (by decide), hτ _ _ (by omega), q2]
  have n9 : ¬ σ (29 + 2 * k) 2 = -9 := by omega
  have el : o_isub (σ (29 + 2 * k) 3) 1 = σ (29 + 2 * k) 3 - 1 := w32_id ⟨by omega, by omega⟩
  by_cases hi2 : 0 ≤ i ∧ i < σ (29 + 2 * k) 3
  case neg =>
    refine zqf k_X8_put k_X9_put hI ha (r := -13) (x := 3) ?_ (fun τ hτ => ?_)
    · have w : ∀ τ : zHp, τ (29 + 2 * k) 3 = σ (29 + 2 * k) 3 → m_X6_hasNumber [29 + 2 * k, i] τ = some (0, τ) := fun τ h => w_hasNumber_f (by rw [h]; exact hi2)
      simp [e_X8_put, d_X8_put, xC_e, xL_e, xU_e, xB_e, xD_e, xF_e, xG_e, xA_e, xE_e, xH_e, xI_e, xZ_e, xK_e, aN_e, aC_e, cR_e, cV_e, cA_e, cO_e, cN_e, bs_e, bn_e, zg_0, zg_S, sS_e, sX_e, sF_e, sG_e, sA_e, sE_e, sEo_e, sK_e, sQ_e, sI_e, sR_e, sV_e, sB_e, sC_e, sD_e, sN_e, sP_e, sY_e, st_0, st_S, zc_0, zc_S, r_eq, r_ne, r_lt, r_le, r_gt, r_ge, rb_ite, rb_0, rb_1, w_isSheet_t h, h, z8 _ _ _ o0, p1, w_faulty, zput_put, w]
    · obtain ⟨k1, k2⟩ := key τ hτ
      have w : ¬ (0 ≤ i ∧ i ≤ σ (29 + 2 * k) 3 - 1) := by omega
      simp [e_X9_put, d_X9_put, xC_e, xL_e, xU_e, xB_e, xD_e, xF_e, xG_e, xA_e, xE_e, xH_e, xI_e, xZ_e, xK_e, aN_e, aC_e, cR_e, cV_e, cA_e, cO_e, cN_e, bs_e, bn_e, zg_0, zg_S, sS_e, sX_e, sF_e, sG_e, sA_e, sE_e, sEo_e, sK_e, sQ_e, sI_e, sR_e, sV_e, sB_e, sC_e, sD_e, sN_e, sP_e, sY_e, st_0, st_S, zc_0, zc_S, r_eq, r_ne, r_lt, r_le, r_gt, r_ge, rb_ite, rb_0, rb_1, v_isSheet_t h, h, k1, n9, k2, el, v_within_f w, v_fails, zput_put]
  have i6 : 0 ≤ i ∧ i < 60 := by omega
  have e6 : o_iadd (o_imul 60 k) i = 60 * k + i := by
    have a1 : o_imul 60 k = 60 * k := w32_id ⟨by omega, by omega⟩
    rw [a1]
    exact w32_id ⟨by omega, by omega⟩
  have b6 : 0 ≤ 60 * k + i ∧ 60 * k + i < 240 := by omega
  generalize hx : (if σ (29 + 2 * k) 2 = 0 then zi2b v else if σ (29 + 2 * k) 2 = 1 then zi2s v else v) = x
  have h1 : m_X8_put [0, k, i, v] σ = some (1, zput (zput σ 0 8 0) (29 + 2 * k + 1) i x) := by
    have w : ∀ τ : zHp, τ (29 + 2 * k) 3 = σ (29 + 2 * k) 3 → m_X6_hasNumber [29 + 2 * k, i] τ = some (1, τ) := fun τ h => w_hasNumber_t (by rw [h]; exact hi2)
    simp [e_X8_put, d_X8_put, xC_e, xL_e, xU_e, xB_e, xD_e, xF_e, xG_e, xA_e, xE_e, xH_e, xI_e, xZ_e, xK_e, aN_e, aC_e, cR_e, cV_e, cA_e, cO_e, cN_e, bs_e, bn_e, zg_0, zg_S, sS_e, sX_e, sF_e, sG_e, sA_e, sE_e, sEo_e, sK_e, sQ_e, sI_e, sR_e, sV_e, sB_e, sC_e, sD_e, sN_e, sP_e, sY_e, st_0, st_S, zc_0, zc_S, r_eq, r_ne, r_lt, r_le, r_gt, r_ge, rb_ite, rb_0, rb_1, w_isSheet_t h, h, z8 _ _ _ o0, p1, w_cut, w, i6, hx]
  generalize hτ : zput (zput σ 0 8 0) (29 + 2 * k + 1) i x = τ at h1
  have e : ∀ a b, a ≠ 0 → a ≠ 29 + 2 * k + 1 → τ a b = σ a b := fun a b h h' => by rw [← hτ, zput_o h', zput_o h]
  have h2 : m_X9_put [37, k, i, v] τ = some (1, zput (zput τ 37 0 0) 40 (60 * k + i) x) := by
    have k1 : zput τ 37 0 0 38 k = σ (29 + 2 * k) 2 := by rw [zput_o (by decide), e _ _ (by decide) (by omega), p2]
    have k2 : zput τ 37 0 0 39 k = σ (29 + 2 * k) 3 := by rw [zput_o (by decide), e _ _ (by decide) (by omega), q2]
    have w : 0 ≤ i ∧ i ≤ σ (29 + 2 * k) 3 - 1 := by omega
    rw [← hx]
    rcases (show σ (29 + 2 * k) 2 = 0 ∨ σ (29 + 2 * k) 2 = 1 ∨ σ (29 + 2 * k) 2 = 2 by omega) with s | s | s
    · rw [s] at k1
      simp [e_X9_put, d_X9_put, xC_e, xL_e, xU_e, xB_e, xD_e, xF_e, xG_e, xA_e, xE_e, xH_e, xI_e, xZ_e, xK_e, aN_e, aC_e, cR_e, cV_e, cA_e, cO_e, cN_e, bs_e, bn_e, zg_0, zg_S, sS_e, sX_e, sF_e, sG_e, sA_e, sE_e, sEo_e, sK_e, sQ_e, sI_e, sR_e, sV_e, sB_e, sC_e, sD_e, sN_e, sP_e, sY_e, st_0, st_S, zc_0, zc_S, r_eq, r_ne, r_lt, r_le, r_gt, r_ge, rb_ite, rb_0, rb_1, v_isSheet_t h, h, k1, k2, el, v_within_t w, e6, b6, s]
    · rw [s] at k1
      simp [e_X9_put, d_X9_put, xC_e, xL_e, xU_e, xB_e, xD_e, xF_e, xG_e, xA_e, xE_e, xH_e, xI_e, xZ_e, xK_e, aN_e, aC_e, cR_e, cV_e, cA_e, cO_e, cN_e, bs_e, bn_e, zg_0, zg_S, sS_e, sX_e, sF_e, sG_e, sA_e, sE_e, sEo_e, sK_e, sQ_e, sI_e, sR_e, sV_e, sB_e, sC_e, sD_e, sN_e, sP_e, sY_e, st_0, st_S, zc_0, zc_S, r_eq, r_ne, r_lt, r_le, r_gt, r_ge, rb_ite, rb_0, rb_1, v_isSheet_t h, h, k1, k2, el, v_within_t w, e6, b6, s]
    · rw [s] at k1
      simp [e_X9_put, d_X9_put, xC_e, xL_e, xU_e, xB_e, xD_e, xF_e, xG_e, xA_e, xE_e, xH_e, xI_e, xZ_e, xK_e, aN_e, aC_e, cR_e, cV_e, cA_e, cO_e, cN_e, bs_e, bn_e, zg_0, zg_S, sS_e, sX_e, sF_e, sG_e, sA_e, sE_e, sEo_e, sK_e, sQ_e, sI_e, sR_e, sV_e, sB_e, sC_e, sD_e, sN_e, sP_e, sY_e, st_0, st_S, zc_0, zc_S, r_eq, r_ne, r_lt, r_le, r_gt, r_ge, rb_ite, rb_0, rb_1, v_isSheet_t h, h, k1, k2, el, v_within_t w, e6, b6, s]
  have o1 := zOk_of k_X8_put hI.1 h1 ⟨zthis, ha⟩
  have o2 := zOk_of k_X9_put o1 h2 ⟨zthat, ha⟩
  refine ⟨_, _, _, h1, h2, zInv_S o2 hI (fun a b g1 g2 g3 g4 => ?_) ?_ ?_⟩
  · rw [← hτ]
    unfold zput
    rw [if_neg (by omega), if_neg (by omega), if_neg (by omega), if_neg (by omega)]
  · rw [← hτ]
    have : (0 : Int) ≠ 29 + 2 * k + 1 := by omega
    simp [zput, this]
  · intro j j0 j1
    obtain ⟨s1, s2, s3, s4, s5⟩ := hS j j0 j1
    have e38 : ∀ b, b ≠ 0 → zput (zput τ 37 0 0) 40 (60 * k + i) x 37 b = τ 37 b := fun b hb => by rw [zput_o (by decide), zput_i hb]
    have ea : ∀ a b, a ≠ 0 → a ≠ 37 → a ≠ 40 → a ≠ 29 + 2 * k + 1 → zput (zput τ 37 0 0) 40 (60 * k + i) x a b = σ a b := fun a b n0 n1 n2 n3 => by rw [zput_o n2, zput_o n1, e a b n0 n3]
    refine ⟨?_, ?_, ?_, ?_, fun b b0 b1 => ?_⟩
    · rw [ea _ _ (by omega) (by omega) (by omega) (by omega), ea _ _ (by omega) (by omega) (by omega) (by omega), ea _ _ (by omega) (by omega) (by omega) (by omega)]; exact s1
    · rw [ea _ _ (by omega) (by omega) (by omega) (by omega), ea _ _ (by omega) (by omega) (by omega) (by omega)]; exact s2
    · rw [ea _ _ (by omega) (by omega) (by omega) (by omega)]; exact s3
    · rw [ea _ _ (by omega) (by omega) (by omega) (by omega)]; exact s4
    · by_cases hj : j = k
      · subst hj
        by_cases hb : b = i
        · subst hb
          rw [zput_self, zput_o (by omega), zput_o (by omega), ← hτ, zput_self]
        · rw [zput_i (by omega), zput_o (by decide), zput_o (by omega), zput_o (by omega), e _ _ (by decide) (by omega), ← hτ, zput_i hb, zput_o (by omega)]
          exact s5 b b0 b1
      · rw [zput_i (by omega), zput_o (by decide), zput_o (by omega), zput_o (by omega), e _ _ (by decide) (by omega), e _ _ (by omega) (by omega)]
        exact s5 b b0 b1
