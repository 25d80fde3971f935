theorem zI3 {σ : zHp} (h : zInv σ) : zIN σ := h.2.2.2.2.2.2.2.1
theorem zp29 : zp_29 zInv := by
  intro b hb σ hI
  have hN := zI3 hI
  by_cases h : 0 ≤ b ∧ b < σ 6 0
  case neg =>
    have h' : ¬ (0 ≤ b ∧ b < σ 37 14) := by rw [hN.1]; exact h
    refine zq (ts := [0]) k_X8_tell k_X9_tell hI ⟨hb, trivial⟩ (r := -1) (σ1 := σ) (σ2 := σ) ?_ ?_ (zSame.rf σ) (zSame.rf σ)
    · simp [e_X8_tell, d_X8_tell, xC_e, xL_e, xU_e, xB_e, xD_e, xF_e, xG_e, xA_e, xE_e, xH_e, xI_e, xZ_e, xK_e, aN_e, aC_e, cR_e, cV_e, cA_e, cO_e, cN_e, bs_e, bn_e, zg_0, zg_S, sS_e, sX_e, sF_e, sG_e, sA_e, sE_e, sEo_e, sK_e, sQ_e, sI_e, sR_e, sV_e, sB_e, sC_e, sD_e, sN_e, sP_e, sY_e, st_0, st_S, zc_0, zc_S, r_eq, r_ne, r_lt, r_le, r_gt, r_ge, rb_ite, rb_0, rb_1, w_isBell_f h]
    · simp [e_X9_tell, d_X9_tell, xC_e, xL_e, xU_e, xB_e, xD_e, xF_e, xG_e, xA_e, xE_e, xH_e, xI_e, xZ_e, xK_e, aN_e, aC_e, cR_e, cV_e, cA_e, cO_e, cN_e, bs_e, bn_e, zg_0, zg_S, sS_e, sX_e, sF_e, sG_e, sA_e, sE_e, sEo_e, sK_e, sQ_e, sI_e, sR_e, sV_e, sB_e, sC_e, sD_e, sN_e, sP_e, sY_e, st_0, st_S, zc_0, zc_S, r_eq, r_ne, r_lt, r_le, r_gt, r_ge, rb_ite, rb_0, rb_1, v_isBell_f h']
  have hb6 : 0 ≤ b ∧ b < 6 := by have := hN.2.2.1; omega
  have hb7 : 0 ≤ b ∧ b < 7 := by omega
  obtain ⟨n1, n2, n3⟩ := hN.2.2.2 b h.1 h.2
  have key : ∀ τ : zHp, (∀ x y : Int, ¬ (x = 0 ∧ (y = 8 ∨ y = 9)) → τ x y = σ x y) → (0 ≤ b ∧ b < τ 37 14) ∧ τ 44 b = σ 7 b ∧ τ 46 b = σ 9 b ∧ τ 37 1 = σ 0 9 ∧ zput τ 37 0 (τ 37 0) = τ := by
    intro τ hτ
    rw [hτ 37 14 (by omega), hτ 44 b (by omega), hτ 46 b (by omega), hτ 37 1 (by omega), zput_id, hN.1]
    exact ⟨h, n1.1, n3.1, hI.2.1.2.symm, rfl⟩
  have hz : zput σ 0 8 (σ 0 8) = σ := zput_id σ 0 8
  rcases (show σ 7 b = 0 ∨ σ 7 b = 1 ∨ σ 7 b = 2 by omega) with hk | hk | hk
  · refine zqF (ts := [0]) k_X8_tell k_X9_tell hI ⟨hb, trivial⟩ (r := σ 9 b) (x1 := σ 0 8) (x2 := σ 37 0) (y1 := z31 (σ 0 9) 1) (y2 := z31 (σ 0 9) 1) ?_ (fun τ hτ => ?_) hI.2.1.1 rfl
    · rw [hz]
      simp [e_X8_tell, d_X8_tell, xC_e, xL_e, xU_e, xB_e, xD_e, xF_e, xG_e, xA_e, xE_e, xH_e, xI_e, xZ_e, xK_e, aN_e, aC_e, cR_e, cV_e, cA_e, cO_e, cN_e, bs_e, bn_e, zg_0, zg_S, sS_e, sX_e, sF_e, sG_e, sA_e, sE_e, sEo_e, sK_e, sQ_e, sI_e, sR_e, sV_e, sB_e, sC_e, sD_e, sN_e, sP_e, sY_e, st_0, st_S, zc_0, zc_S, r_eq, r_ne, r_lt, r_le, r_gt, r_ge, rb_ite, rb_0, rb_1, w_isBell_t h, hk, hb6, w_bellBody b hb6, z31]
    · obtain ⟨k1, k2, k3, k4, k5⟩ := key τ hτ
      rw [show σ 37 0 = τ 37 0 from (hτ 37 0 (by omega)).symm, k5]
      simp [e_X9_tell, d_X9_tell, xC_e, xL_e, xU_e, xB_e, xD_e, xF_e, xG_e, xA_e, xE_e, xH_e, xI_e, xZ_e, xK_e, aN_e, aC_e, cR_e, cV_e, cA_e, cO_e, cN_e, bs_e, bn_e, zg_0, zg_S, sS_e, sX_e, sF_e, sG_e, sA_e, sE_e, sEo_e, sK_e, sQ_e, sI_e, sR_e, sV_e, sB_e, sC_e, sD_e, sN_e, sP_e, sY_e, st_0, st_S, zc_0, zc_S, r_eq, r_ne, r_lt, r_le, r_gt, r_ge, rb_ite, rb_0, rb_1, v_isBell_t k1, hk, hb7, k2, k3, k4, v_begins, z31]
  · have e9 : o_iadd (σ 9 b) 100 = σ 9 b + 100 := w32_id ⟨by omega, by omega⟩
    refine zqF (ts := [0]) k_X8_tell k_X9_tell hI ⟨hb, trivial⟩ (r := σ 9 b + 100) (x1 := σ 0 8) (x2 := σ 37 0) (y1 := z31 (z31 (σ 0 9) 2) 1) (y2 := z31 (z31 (σ 0 9) 2) 1) ?_ (fun τ hτ => ?_) hI.2.1.1 rfl
    · rw [hz]
      simp [e_X8_tell, d_X8_tell, xC_e, xL_e, xU_e, xB_e, xD_e, xF_e, xG_e, xA_e, xE_e, xH_e, xI_e, xZ_e, xK_e, aN_e, aC_e, cR_e, cV_e, cA_e, cO_e, cN_e, bs_e, bn_e, zg_0, zg_S, sS_e, sX_e, sF_e, sG_e, sA_e, sE_e, sEo_e, sK_e, sQ_e, sI_e, sR_e, sV_e, sB_e, sC_e, sD_e, sN_e, sP_e, sY_e, st_0, st_S, zc_0, zc_S, r_eq, r_ne, r_lt, r_le, r_gt, r_ge, rb_ite, rb_0, rb_1, w_isBell_t h, hk, hb6, w_tenorBody b hb6, e9]
    · obtain ⟨k1, k2, k3, k4, k5⟩ := key τ hτ
      rw [show σ 37 0 = τ 37 0 from (hτ 37 0 (by omega)).symm, k5]
      simp [e_X9_tell, d_X9_tell, xC_e, xL_e, xU_e, xB_e, xD_e, xF_e, xG_e, xA_e, xE_e, xH_e, xI_e, xZ_e, xK_e, aN_e, aC_e, cR_e, cV_e, cA_e, cO_e, cN_e, bs_e, bn_e, zg_0, zg_S, sS_e, sX_e, sF_e, sG_e, sA_e, sE_e, sEo_e, sK_e, sQ_e, sI_e, sR_e, sV_e, sB_e, sC_e, sD_e, sN_e, sP_e, sY_e, st_0, st_S, zc_0, zc_S, r_eq, r_ne, r_lt, r_le, r_gt, r_ge, rb_ite, rb_0, rb_1, v_isBell_t k1, hk, hb7, k2, k3, k4, v_begins, z31, e9, zput_self, zput_put]
  · have e9 : o_iadd (o_iadd (σ 9 b) 100) (σ 9 b) = 2 * σ 9 b + 100 := by
      have e1 : o_iadd (σ 9 b) 100 = σ 9 b + 100 := w32_id ⟨by omega, by omega⟩
      rw [e1]
      have e2 : o_iadd (σ 9 b + 100) (σ 9 b) = σ 9 b + 100 + σ 9 b := w32_id ⟨by omega, by omega⟩
      rw [e2]; omega
    have e8 : o_iadd (o_imul 2 (σ 9 b)) 100 = 2 * σ 9 b + 100 := by
      have e1 : o_imul 2 (σ 9 b) = 2 * σ 9 b := w32_id ⟨by omega, by omega⟩
      rw [e1]
      exact w32_id ⟨by omega, by omega⟩
    refine zqF (ts := [0]) k_X8_tell k_X9_tell hI ⟨hb, trivial⟩ (r := 2 * σ 9 b + 100) (x1 := σ 0 8) (x2 := σ 37 0) (y1 := z31 (z31 (z31 (z31 (σ 0 9) 3) 2) 1) 1) (y2 := z31 (z31 (z31 (z31 (σ 0 9) 3) 2) 1) 1) ?_ (fun τ hτ => ?_) hI.2.1.1 rfl
    · rw [hz]
      simp [e_X8_tell, d_X8_tell, xC_e, xL_e, xU_e, xB_e, xD_e, xF_e, xG_e, xA_e, xE_e, xH_e, xI_e, xZ_e, xK_e, aN_e, aC_e, cR_e, cV_e, cA_e, cO_e, cN_e, bs_e, bn_e, zg_0, zg_S, sS_e, sX_e, sF_e, sG_e, sA_e, sE_e, sEo_e, sK_e, sQ_e, sI_e, sR_e, sV_e, sB_e, sC_e, sD_e, sN_e, sP_e, sY_e, st_0, st_S, zc_0, zc_S, r_eq, r_ne, r_lt, r_le, r_gt, r_ge, rb_ite, rb_0, rb_1, w_isBell_t h, hk, hb6, w_greatBody b hb6, e9]
    · obtain ⟨k1, k2, k3, k4, k5⟩ := key τ hτ
      rw [show σ 37 0 = τ 37 0 from (hτ 37 0 (by omega)).symm, k5]
      simp [e_X9_tell, d_X9_tell, xC_e, xL_e, xU_e, xB_e, xD_e, xF_e, xG_e, xA_e, xE_e, xH_e, xI_e, xZ_e, xK_e, aN_e, aC_e, cR_e, cV_e, cA_e, cO_e, cN_e, bs_e, bn_e, zg_0, zg_S, sS_e, sX_e, sF_e, sG_e, sA_e, sE_e, sEo_e, sK_e, sQ_e, sI_e, sR_e, sV_e, sB_e, sC_e, sD_e, sN_e, sP_e, sY_e, st_0, st_S, zc_0, zc_S, r_eq, r_ne, r_lt, r_le, r_gt, r_ge, rb_ite, rb_0, rb_1, v_isBell_t k1, hk, hb7, k2, k3, k4, v_begins, z31, e8, zput_self, zput_put]
theorem zp30 : zp_30 zInv := by
  intro b hb σ hI
  have hN := zI3 hI
  by_cases h : 0 ≤ b ∧ b < σ 6 0
  case neg =>
    have h' : ¬ (0 ≤ b ∧ b < σ 37 14) := by rw [hN.1]; exact h
    refine zq (ts := [0]) k_X8_bless k_X9_bless hI ⟨hb, trivial⟩ (r := -1) (σ1 := σ) (σ2 := σ) ?_ ?_ (zSame.rf σ) (zSame.rf σ)
    · simp [e_X8_bless, d_X8_bless, xC_e, xL_e, xU_e, xB_e, xD_e, xF_e, xG_e, xA_e, xE_e, xH_e, xI_e, xZ_e, xK_e, aN_e, aC_e, cR_e, cV_e, cA_e, cO_e, cN_e, bs_e, bn_e, zg_0, zg_S, sS_e, sX_e, sF_e, sG_e, sA_e, sE_e, sEo_e, sK_e, sQ_e, sI_e, sR_e, sV_e, sB_e, sC_e, sD_e, sN_e, sP_e, sY_e, st_0, st_S, zc_0, zc_S, r_eq, r_ne, r_lt, r_le, r_gt, r_ge, rb_ite, rb_0, rb_1, w_isBell_f h]
    · simp [e_X9_bless, d_X9_bless, xC_e, xL_e, xU_e, xB_e, xD_e, xF_e, xG_e, xA_e, xE_e, xH_e, xI_e, xZ_e, xK_e, aN_e, aC_e, cR_e, cV_e, cA_e, cO_e, cN_e, bs_e, bn_e, zg_0, zg_S, sS_e, sX_e, sF_e, sG_e, sA_e, sE_e, sEo_e, sK_e, sQ_e, sI_e, sR_e, sV_e, sB_e, sC_e, sD_e, sN_e, sP_e, sY_e, st_0, st_S, zc_0, zc_S, r_eq, r_ne, r_lt, r_le, r_gt, r_ge, rb_ite, rb_0, rb_1, v_isBell_f h']
  have hb6 : 0 ≤ b ∧ b < 6 := by have := hN.2.2.1; omega
  have hb7 : 0 ≤ b ∧ b < 7 := by omega
  obtain ⟨n1, n2, n3⟩ := hN.2.2.2 b h.1 h.2
  have key : ∀ τ : zHp, (∀ x y : Int, ¬ (x = 0 ∧ (y = 8 ∨ y = 9)) → τ x y = σ x y) → (0 ≤ b ∧ b < τ 37 14) ∧ τ 44 b = σ 7 b ∧ τ 37 1 = σ 0 9 ∧ zput τ 37 0 (τ 37 0) = τ := by
    intro τ hτ
    rw [hτ 37 14 (by omega), hτ 44 b (by omega), hτ 37 1 (by omega), zput_id, hN.1]
    exact ⟨h, n1.1, hI.2.1.2.symm, rfl⟩
  have hz : zput σ 0 8 (σ 0 8) = σ := zput_id σ 0 8
  by_cases hk : σ 7 b = 2
  · refine zqF (ts := [0]) k_X8_bless k_X9_bless hI ⟨hb, trivial⟩ (r := 60) (x1 := σ 0 8) (x2 := σ 37 0) (y1 := z31 (σ 0 9) 5) (y2 := z31 (σ 0 9) 5) ?_ (fun τ hτ => ?_) hI.2.1.1 rfl
    · rw [hz]
      simp [e_X8_bless, d_X8_bless, xC_e, xL_e, xU_e, xB_e, xD_e, xF_e, xG_e, xA_e, xE_e, xH_e, xI_e, xZ_e, xK_e, aN_e, aC_e, cR_e, cV_e, cA_e, cO_e, cN_e, bs_e, bn_e, zg_0, zg_S, sS_e, sX_e, sF_e, sG_e, sA_e, sE_e, sEo_e, sK_e, sQ_e, sI_e, sR_e, sV_e, sB_e, sC_e, sD_e, sN_e, sP_e, sY_e, st_0, st_S, zc_0, zc_S, r_eq, r_ne, r_lt, r_le, r_gt, r_ge, rb_ite, rb_0, rb_1, w_isBell_t h, hk, hb6, e_X8_greatBlessing, d_X8_greatBlessing, w_mark, z31]
    · obtain ⟨k1, k2, k4, k5⟩ := key τ hτ
      rw [show σ 37 0 = τ 37 0 from (hτ 37 0 (by omega)).symm, k5]
      have e : ∀ v, zput τ 37 1 v 44 b = τ 44 b := fun v => zput_o (by decide) b
      simp [e_X9_bless, d_X9_bless, xC_e, xL_e, xU_e, xB_e, xD_e, xF_e, xG_e, xA_e, xE_e, xH_e, xI_e, xZ_e, xK_e, aN_e, aC_e, cR_e, cV_e, cA_e, cO_e, cN_e, bs_e, bn_e, zg_0, zg_S, sS_e, sX_e, sF_e, sG_e, sA_e, sE_e, sEo_e, sK_e, sQ_e, sI_e, sR_e, sV_e, sB_e, sC_e, sD_e, sN_e, sP_e, sY_e, st_0, st_S, zc_0, zc_S, r_eq, r_ne, r_lt, r_le, r_gt, r_ge, rb_ite, rb_0, rb_1, v_isBell_t k1, hk, hb7, k2, k4, v_begins, z31, e]
  · refine zqF (ts := [0]) k_X8_bless k_X9_bless hI ⟨hb, trivial⟩ (r := b) (x1 := σ 0 8) (x2 := σ 37 0) (y1 := z31 (σ 0 9) 4) (y2 := z31 (σ 0 9) 4) ?_ (fun τ hτ => ?_) hI.2.1.1 rfl
    · rw [hz]
      simp [e_X8_bless, d_X8_bless, xC_e, xL_e, xU_e, xB_e, xD_e, xF_e, xG_e, xA_e, xE_e, xH_e, xI_e, xZ_e, xK_e, aN_e, aC_e, cR_e, cV_e, cA_e, cO_e, cN_e, bs_e, bn_e, zg_0, zg_S, sS_e, sX_e, sF_e, sG_e, sA_e, sE_e, sEo_e, sK_e, sQ_e, sI_e, sR_e, sV_e, sB_e, sC_e, sD_e, sN_e, sP_e, sY_e, st_0, st_S, zc_0, zc_S, r_eq, r_ne, r_lt, r_le, r_gt, r_ge, rb_ite, rb_0, rb_1, w_isBell_t h, hk, hb6, e_X8_lentBody, d_X8_lentBody, w_mark, z31]
    · obtain ⟨k1, k2, k4, k5⟩ := key τ hτ
      rw [show σ 37 0 = τ 37 0 from (hτ 37 0 (by omega)).symm, k5]
      have e : ∀ v, zput τ 37 1 v 44 b = τ 44 b := fun v => zput_o (by decide) b
      simp [e_X9_bless, d_X9_bless, xC_e, xL_e, xU_e, xB_e, xD_e, xF_e, xG_e, xA_e, xE_e, xH_e, xI_e, xZ_e, xK_e, aN_e, aC_e, cR_e, cV_e, cA_e, cO_e, cN_e, bs_e, bn_e, zg_0, zg_S, sS_e, sX_e, sF_e, sG_e, sA_e, sE_e, sEo_e, sK_e, sQ_e, sI_e, sR_e, sV_e, sB_e, sC_e, sD_e, sN_e, sP_e, sY_e, st_0, st_S, zc_0, zc_S, r_eq, r_ne, r_lt, r_le, r_gt, r_ge, rb_ite, rb_0, rb_1, v_isBell_t k1, hk, hb7, k2, k4, v_begins, z31, e]
theorem zp31 : zp_31 zInv := by
  intro b k hb hkr σ hI
  have hN := zI3 hI
  have hz : ∀ τ : zHp, zput τ 0 9 (σ 0 9) = zput τ 0 9 (σ 0 9) := fun _ => rfl
  have hy : ∀ v, zput (zput σ 0 8 v) 0 9 (σ 0 9) = zput σ 0 8 v := by
    intro v
    have : σ 0 9 = zput σ 0 8 v 0 9 := by simp [zput]
    rw [this, zput_id]
  have hy2 : ∀ (τ : zHp) (v : Int), zput (zput τ 37 0 v) 37 1 (τ 37 1) = zput τ 37 0 v := by
    intro τ v
    have : τ 37 1 = zput τ 37 0 v 37 1 := by simp [zput]
    rw [this, zput_id]
  have e7 : ∀ v, zput σ 0 8 v 7 b = σ 7 b := fun v => zput_o (by decide) b
  have e6 : ∀ v, zput σ 0 8 v 6 0 = σ 6 0 := fun v => zput_o (by decide) _
  by_cases h : 0 ≤ b ∧ b < σ 6 0
  case neg =>
    have h' : ¬ (0 ≤ b ∧ b < zput σ 0 8 0 6 0) := by rw [e6]; exact h
    refine zqF (ts := [0, 0]) k_X8_as k_X9_as hI ⟨hb, hkr, trivial⟩ (r := -1) (x1 := 0) (x2 := 0) (y1 := σ 0 9) (y2 := σ 37 1) ?_ (fun τ hτ => ?_) rfl hI.2.1.2
    · rw [hy]
      simp [e_X8_as, d_X8_as, xC_e, xL_e, xU_e, xB_e, xD_e, xF_e, xG_e, xA_e, xE_e, xH_e, xI_e, xZ_e, xK_e, aN_e, aC_e, cR_e, cV_e, cA_e, cO_e, cN_e, bs_e, bn_e, zg_0, zg_S, sS_e, sX_e, sF_e, sG_e, sA_e, sE_e, sEo_e, sK_e, sQ_e, sI_e, sR_e, sV_e, sB_e, sC_e, sD_e, sN_e, sP_e, sY_e, st_0, st_S, zc_0, zc_S, r_eq, r_ne, r_lt, r_le, r_gt, r_ge, rb_ite, rb_0, rb_1, w_isBell_f h']
    · have h'' : ¬ (0 ≤ b ∧ b < zput τ 37 0 0 37 14) := by
        rw [zput_i (by decide), hτ 37 14 (by omega), hN.1]; exact h
      rw [show σ 37 1 = τ 37 1 from (hτ 37 1 (by omega)).symm, hy2]
      simp [e_X9_as, d_X9_as, xC_e, xL_e, xU_e, xB_e, xD_e, xF_e, xG_e, xA_e, xE_e, xH_e, xI_e, xZ_e, xK_e, aN_e, aC_e, cR_e, cV_e, cA_e, cO_e, cN_e, bs_e, bn_e, zg_0, zg_S, sS_e, sX_e, sF_e, sG_e, sA_e, sE_e, sEo_e, sK_e, sQ_e, sI_e, sR_e, sV_e, sB_e, sC_e, sD_e, sN_e, sP_e, sY_e, st_0, st_S, zc_0, zc_S, r_eq, r_ne, r_lt, r_le, r_gt, r_ge, rb_ite, rb_0, rb_1, v_isBell_f h'']
  have hb6 : 0 ≤ b ∧ b < 6 := by have := hN.2.2.1; omega
  have hb7 : 0 ≤ b ∧ b < 7 := by omega
  obtain ⟨n1, n2, n3⟩ := hN.2.2.2 b h.1 h.2
  have h' : 0 ≤ b ∧ b < zput σ 0 8 0 6 0 := by rw [e6]; exact h
  have key : ∀ τ : zHp, (∀ x y : Int, ¬ (x = 0 ∧ (y = 8 ∨ y = 9)) → τ x y = σ x y) → (0 ≤ b ∧ b < zput τ 37 0 0 37 14) ∧ zput τ 37 0 0 44 b = σ 7 b := by
    intro τ hτ
    rw [zput_i (by decide), zput_o (by decide), hτ 37 14 (by omega), hτ 44 b (by omega), hN.1]
    exact ⟨h, n1.1⟩
  by_cases w : 0 ≤ k ∧ k ≤ 2
  case neg =>
    refine zqF (ts := [0, 0]) k_X8_as k_X9_as hI ⟨hb, hkr, trivial⟩ (r := -2) (x1 := 0) (x2 := 0) (y1 := σ 0 9) (y2 := σ 37 1) ?_ (fun τ hτ => ?_) rfl hI.2.1.2
    · rw [hy]
      simp [e_X8_as, d_X8_as, xC_e, xL_e, xU_e, xB_e, xD_e, xF_e, xG_e, xA_e, xE_e, xH_e, xI_e, xZ_e, xK_e, aN_e, aC_e, cR_e, cV_e, cA_e, cO_e, cN_e, bs_e, bn_e, zg_0, zg_S, sS_e, sX_e, sF_e, sG_e, sA_e, sE_e, sEo_e, sK_e, sQ_e, sI_e, sR_e, sV_e, sB_e, sC_e, sD_e, sN_e, sP_e, sY_e, st_0, st_S, zc_0, zc_S, r_eq, r_ne, r_lt, r_le, r_gt, r_ge, rb_ite, rb_0, rb_1, w_isBell_t h', w_isKind_f w]
    · obtain ⟨k1, k2⟩ := key τ hτ
      rw [show σ 37 1 = τ 37 1 from (hτ 37 1 (by omega)).symm, hy2]
      simp [e_X9_as, d_X9_as, xC_e, xL_e, xU_e, xB_e, xD_e, xF_e, xG_e, xA_e, xE_e, xH_e, xI_e, xZ_e, xK_e, aN_e, aC_e, cR_e, cV_e, cA_e, cO_e, cN_e, bs_e, bn_e, zg_0, zg_S, sS_e, sX_e, sF_e, sG_e, sA_e, sE_e, sEo_e, sK_e, sQ_e, sI_e, sR_e, sV_e, sB_e, sC_e, sD_e, sN_e, sP_e, sY_e, st_0, st_S, zc_0, zc_S, r_eq, r_ne, r_lt, r_le, r_gt, r_ge, rb_ite, rb_0, rb_1, v_isBell_t k1, v_within_f w]
  by_cases hk : σ 7 b < k
  · have hk2 : ¬ k ≤ σ 7 b := by omega
    refine zqF (ts := [0, 0]) k_X8_as k_X9_as hI ⟨hb, hkr, trivial⟩ (r := -12) (x1 := 2) (x2 := 2) (y1 := σ 0 9) (y2 := σ 37 1) ?_ (fun τ hτ => ?_) rfl hI.2.1.2
    · rw [hy]
      simp [e_X8_as, d_X8_as, xC_e, xL_e, xU_e, xB_e, xD_e, xF_e, xG_e, xA_e, xE_e, xH_e, xI_e, xZ_e, xK_e, aN_e, aC_e, cR_e, cV_e, cA_e, cO_e, cN_e, bs_e, bn_e, zg_0, zg_S, sS_e, sX_e, sF_e, sG_e, sA_e, sE_e, sEo_e, sK_e, sQ_e, sI_e, sR_e, sV_e, sB_e, sC_e, sD_e, sN_e, sP_e, sY_e, st_0, st_S, zc_0, zc_S, r_eq, r_ne, r_lt, r_le, r_gt, r_ge, rb_ite, rb_0, rb_1, w_isBell_t h', w_isKind_t w, hb6, e7, hk, w_faulty, zput_put]
    · obtain ⟨k1, k2⟩ := key τ hτ
      rw [show σ 37 1 = τ 37 1 from (hτ 37 1 (by omega)).symm, hy2]
      simp [e_X9_as, d_X9_as, xC_e, xL_e, xU_e, xB_e, xD_e, xF_e, xG_e, xA_e, xE_e, xH_e, xI_e, xZ_e, xK_e, aN_e, aC_e, cR_e, cV_e, cA_e, cO_e, cN_e, bs_e, bn_e, zg_0, zg_S, sS_e, sX_e, sF_e, sG_e, sA_e, sE_e, sEo_e, sK_e, sQ_e, sI_e, sR_e, sV_e, sB_e, sC_e, sD_e, sN_e, sP_e, sY_e, st_0, st_S, zc_0, zc_S, r_eq, r_ne, r_lt, r_le, r_gt, r_ge, rb_ite, rb_0, rb_1, v_isBell_t k1, v_within_t w, hb7, k2, hk2, v_fails, zput_put]
  · have hk2 : k ≤ σ 7 b := by omega
    refine zqF (ts := [0, 0]) k_X8_as k_X9_as hI ⟨hb, hkr, trivial⟩ (r := 1) (x1 := 0) (x2 := 0) (y1 := σ 0 9) (y2 := σ 37 1) ?_ (fun τ hτ => ?_) rfl hI.2.1.2
    · rw [hy]
      simp [e_X8_as, d_X8_as, xC_e, xL_e, xU_e, xB_e, xD_e, xF_e, xG_e, xA_e, xE_e, xH_e, xI_e, xZ_e, xK_e, aN_e, aC_e, cR_e, cV_e, cA_e, cO_e, cN_e, bs_e, bn_e, zg_0, zg_S, sS_e, sX_e, sF_e, sG_e, sA_e, sE_e, sEo_e, sK_e, sQ_e, sI_e, sR_e, sV_e, sB_e, sC_e, sD_e, sN_e, sP_e, sY_e, st_0, st_S, zc_0, zc_S, r_eq, r_ne, r_lt, r_le, r_gt, r_ge, rb_ite, rb_0, rb_1, w_isBell_t h', w_isKind_t w, hb6, e7, hk]
    · obtain ⟨k1, k2⟩ := key τ hτ
      rw [show σ 37 1 = τ 37 1 from (hτ 37 1 (by omega)).symm, hy2]
      simp [e_X9_as, d_X9_as, xC_e, xL_e, xU_e, xB_e, xD_e, xF_e, xG_e, xA_e, xE_e, xH_e, xI_e, xZ_e, xK_e, aN_e, aC_e, cR_e, cV_e, cA_e, cO_e, cN_e, bs_e, bn_e, zg_0, zg_S, sS_e, sX_e, sF_e, sG_e, sA_e, sE_e, sEo_e, sK_e, sQ_e, sI_e, sR_e, sV_e, sB_e, sC_e, sD_e, sN_e, sP_e, sY_e, st_0, st_S, zc_0, zc_S, r_eq, r_ne, r_lt, r_le, r_gt, r_ge, rb_ite, rb_0, rb_1, v_isBell_t k1, v_within_t w, hb7, k2, hk2]
