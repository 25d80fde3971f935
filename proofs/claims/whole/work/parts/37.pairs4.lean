/-- the reports alone -/
theorem zInv_R {σ τ : zHp} (ho : zOk τ) (h : zInv σ) (e : ∀ a b : Int, ¬ (a = 14 ∧ b = 2) → ¬ (a = 37 ∧ b = 23) → ¬ (15 ≤ a ∧ a ≤ 18) → ¬ (49 ≤ a ∧ a ≤ 52) → τ a b = σ a b) (hR' : zIR τ) : zInv τ := by
  obtain ⟨-, hF, hL, hH, hB, hP, hE, hN, hC, hR, hS⟩ := h
  refine ⟨ho, zIF_c hF ?_ ?_ ?_ ?_, zIL_c hL ?_ ?_ ?_ ?_ ?_, zIH_c hH ?_ ?_ ?_ ?_ ?_ ?_, zIB_c hB ?_ ?_ ?_, zIP_c hP ?_ ?_ ?_, zIE_c hE ?_ ?_, zIN_c hN ?_ ?_ ?_ ?_ ?_ ?_ ?_ ?_ ?_, zIC_c hC ?_ ?_ ?_ ?_ ?_ ?_ ?_ ?_, hR', zIS_c hS ?_ ?_ ?_ ?_⟩ <;> (intros; apply e <;> omega)
/-- sheets and faults alone -/
theorem zInv_S {σ τ : zHp} (ho : zOk τ) (h : zInv σ) (e : ∀ a b : Int, ¬ (a = 0 ∧ b = 8) → ¬ (a = 37 ∧ b = 0) → ¬ (29 ≤ a ∧ a ≤ 36) → ¬ (38 ≤ a ∧ a ≤ 40) → τ a b = σ a b) (e1 : τ 37 0 = τ 0 8) (hS' : zIS τ) : zInv τ := by
  obtain ⟨-, hF, hL, hH, hB, hP, hE, hN, hC, hR, hS⟩ := h
  have hF' : zIF τ := ⟨e1.symm, by rw [e 0 9 (by omega) (by omega) (by omega) (by omega), e 37 1 (by omega) (by omega) (by omega) (by omega)]; exact hF.2⟩
  refine ⟨ho, hF', zIL_c hL ?_ ?_ ?_ ?_ ?_, zIH_c hH ?_ ?_ ?_ ?_ ?_ ?_, zIB_c hB ?_ ?_ ?_, zIP_c hP ?_ ?_ ?_, zIE_c hE ?_ ?_, zIN_c hN ?_ ?_ ?_ ?_ ?_ ?_ ?_ ?_ ?_, zIC_c hC ?_ ?_ ?_ ?_ ?_ ?_ ?_ ?_, zIR_c hR ?_ ?_ ?_ ?_ ?_ ?_ ?_ ?_ ?_ ?_ ?_ ?_, hS'⟩ <;> (intros; apply e <;> omega)
theorem zI9 {σ : zHp} (h : zInv σ) : zIR σ := h.2.2.2.2.2.2.2.2.2.1
theorem zI10 {σ : zHp} (h : zInv σ) : zIS σ := h.2.2.2.2.2.2.2.2.2.2
theorem zp17 : zp_17 zInv := by
  intro v hv σ hI
  obtain ⟨r1, r2, r3, r4⟩ := zI9 hI
  by_cases h : 0 ≤ v ∧ v ≤ σ 14 2
  case neg =>
    have h' : ¬ (0 ≤ v ∧ v ≤ σ 37 23) := by rw [r1]; exact h
    refine zq (ts := [0]) k_X8_back k_X9_back hI ⟨hv, trivial⟩ (r := -2) (σ1 := σ) (σ2 := σ) ?_ ?_ (zSame.rf σ) (zSame.rf σ)
    · by_cases q : v < 0
      · simp [e_X8_back, d_X8_back, xC_e, xL_e, xU_e, xB_e, xD_e, xF_e, xG_e, xA_e, xE_e, xH_e, xI_e, xZ_e, xK_e, aN_e, aC_e, cR_e, cV_e, cA_e, cO_e, cN_e, bs_e, bn_e, zg_0, zg_S, sS_e, sX_e, sF_e, sG_e, sA_e, sE_e, sEo_e, sK_e, sQ_e, sI_e, sR_e, sV_e, sB_e, sC_e, sD_e, sN_e, sP_e, sY_e, st_0, st_S, zc_0, zc_S, r_eq, r_ne, r_lt, r_le, r_gt, r_ge, rb_ite, rb_0, rb_1, q]
      · have q2 : v > σ 14 2 := by omega
        simp [e_X8_back, d_X8_back, xC_e, xL_e, xU_e, xB_e, xD_e, xF_e, xG_e, xA_e, xE_e, xH_e, xI_e, xZ_e, xK_e, aN_e, aC_e, cR_e, cV_e, cA_e, cO_e, cN_e, bs_e, bn_e, zg_0, zg_S, sS_e, sX_e, sF_e, sG_e, sA_e, sE_e, sEo_e, sK_e, sQ_e, sI_e, sR_e, sV_e, sB_e, sC_e, sD_e, sN_e, sP_e, sY_e, st_0, st_S, zc_0, zc_S, r_eq, r_ne, r_lt, r_le, r_gt, r_ge, rb_ite, rb_0, rb_1, q, q2]
    · simp [e_X9_back, d_X9_back, xC_e, xL_e, xU_e, xB_e, xD_e, xF_e, xG_e, xA_e, xE_e, xH_e, xI_e, xZ_e, xK_e, aN_e, aC_e, cR_e, cV_e, cA_e, cO_e, cN_e, bs_e, bn_e, zg_0, zg_S, sS_e, sX_e, sF_e, sG_e, sA_e, sE_e, sEo_e, sK_e, sQ_e, sI_e, sR_e, sV_e, sB_e, sC_e, sD_e, sN_e, sP_e, sY_e, st_0, st_S, zc_0, zc_S, r_eq, r_ne, r_lt, r_le, r_gt, r_ge, rb_ite, rb_0, rb_1, v_within_f h']
  have e1 : o_isub (σ 14 2) v = σ 14 2 - v := w32_id ⟨by omega, by omega⟩
  have h1 : m_X8_back [0, v] σ = some (σ 14 2 - v, zput σ 14 2 (σ 14 2 - v)) := by
    have q : ¬ v < 0 := by omega
    have q2 : ¬ v > σ 14 2 := by omega
    simp [e_X8_back, d_X8_back, xC_e, xL_e, xU_e, xB_e, xD_e, xF_e, xG_e, xA_e, xE_e, xH_e, xI_e, xZ_e, xK_e, aN_e, aC_e, cR_e, cV_e, cA_e, cO_e, cN_e, bs_e, bn_e, zg_0, zg_S, sS_e, sX_e, sF_e, sG_e, sA_e, sE_e, sEo_e, sK_e, sQ_e, sI_e, sR_e, sV_e, sB_e, sC_e, sD_e, sN_e, sP_e, sY_e, st_0, st_S, zc_0, zc_S, r_eq, r_ne, r_lt, r_le, r_gt, r_ge, rb_ite, rb_0, rb_1, q, q2, e1, zput_self]
  have h2 : m_X9_back [37, v] (zput σ 14 2 (σ 14 2 - v)) = some (σ 14 2 - v, zput (zput σ 14 2 (σ 14 2 - v)) 37 23 (σ 14 2 - v)) := by
    have q : zput σ 14 2 (σ 14 2 - v) 37 23 = σ 14 2 := by rw [zput_o (by decide)]; exact r1
    have h' : 0 ≤ v ∧ v ≤ zput σ 14 2 (σ 14 2 - v) 37 23 := by rw [q]; exact h
    simp [e_X9_back, d_X9_back, xC_e, xL_e, xU_e, xB_e, xD_e, xF_e, xG_e, xA_e, xE_e, xH_e, xI_e, xZ_e, xK_e, aN_e, aC_e, cR_e, cV_e, cA_e, cO_e, cN_e, bs_e, bn_e, zg_0, zg_S, sS_e, sX_e, sF_e, sG_e, sA_e, sE_e, sEo_e, sK_e, sQ_e, sI_e, sR_e, sV_e, sB_e, sC_e, sD_e, sN_e, sP_e, sY_e, st_0, st_S, zc_0, zc_S, r_eq, r_ne, r_lt, r_le, r_gt, r_ge, rb_ite, rb_0, rb_1, v_within_t h, q, e1, zput_self]
  have o1 := zOk_of k_X8_back hI.1 h1 ⟨zthis, hv, trivial⟩
  have o2 := zOk_of k_X9_back o1 h2 ⟨zthat, hv, trivial⟩
  refine ⟨_, _, _, h1, h2, zInv_R o2 hI (fun a b q1 q2 _ _ => ?_) ?_⟩
  · unfold zput
    rw [if_neg q2, if_neg q1]
  · have a1 : zput (zput σ 14 2 (σ 14 2 - v)) 37 23 (σ 14 2 - v) 14 2 = σ 14 2 - v := by simp [zput]
    have a2 : zput (zput σ 14 2 (σ 14 2 - v)) 37 23 (σ 14 2 - v) 37 23 = σ 14 2 - v := by simp [zput]
    refine ⟨by rw [a1, a2], by rw [a1]; omega, by rw [a1]; omega, fun k k0 k1 => ?_⟩
    rw [a1] at k1
    have := r4 k k0 (by omega)
    simpa [zput] using this
theorem zp16 : zp_16 zInv := by
  intro c w l t hc hw hl ht σ hI
  obtain ⟨r1, r2, r3, r4⟩ := zI9 hI
  have hN := zI3 hI
  have nN := zN_eq hI.2.2.1
  have ha : zOkA [0, 0, 0, 0] [c, w, l, t] := ⟨hc, hw, hl, ht, trivial⟩
  by_cases g : (0 ≤ c ∧ c < σ 1 2) ∧ (0 ≤ l ∧ l < σ 6 0) ∧ (0 ≤ t ∧ t < σ 6 0) ∧ l ≠ t
  case neg =>
    refine zq k_X8_report k_X9_report hI ha (r := -1) (σ1 := σ) (σ2 := σ) ?_ ?_ (zSame.rf σ) (zSame.rf σ)
    · by_cases g1 : 0 ≤ c ∧ c < σ 1 2
      · by_cases g2 : 0 ≤ l ∧ l < σ 6 0
        · by_cases g3 : 0 ≤ t ∧ t < σ 6 0
          · have g4 : l = t := Decidable.byContradiction fun q => g ⟨g1, g2, g3, q⟩
            subst g4
            simp [e_X8_report, d_X8_report, xC_e, xL_e, xU_e, xB_e, xD_e, xF_e, xG_e, xA_e, xE_e, xH_e, xI_e, xZ_e, xK_e, aN_e, aC_e, cR_e, cV_e, cA_e, cO_e, cN_e, bs_e, bn_e, zg_0, zg_S, sS_e, sX_e, sF_e, sG_e, sA_e, sE_e, sEo_e, sK_e, sQ_e, sI_e, sR_e, sV_e, sB_e, sC_e, sD_e, sN_e, sP_e, sY_e, st_0, st_S, zc_0, zc_S, r_eq, r_ne, r_lt, r_le, r_gt, r_ge, rb_ite, rb_0, rb_1, w_isCell_t g1, w_isBell_t g2]
          · simp [e_X8_report, d_X8_report, xC_e, xL_e, xU_e, xB_e, xD_e, xF_e, xG_e, xA_e, xE_e, xH_e, xI_e, xZ_e, xK_e, aN_e, aC_e, cR_e, cV_e, cA_e, cO_e, cN_e, bs_e, bn_e, zg_0, zg_S, sS_e, sX_e, sF_e, sG_e, sA_e, sE_e, sEo_e, sK_e, sQ_e, sI_e, sR_e, sV_e, sB_e, sC_e, sD_e, sN_e, sP_e, sY_e, st_0, st_S, zc_0, zc_S, r_eq, r_ne, r_lt, r_le, r_gt, r_ge, rb_ite, rb_0, rb_1, w_isCell_t g1, w_isBell_t g2, w_isBell_f g3]
        · simp [e_X8_report, d_X8_report, xC_e, xL_e, xU_e, xB_e, xD_e, xF_e, xG_e, xA_e, xE_e, xH_e, xI_e, xZ_e, xK_e, aN_e, aC_e, cR_e, cV_e, cA_e, cO_e, cN_e, bs_e, bn_e, zg_0, zg_S, sS_e, sX_e, sF_e, sG_e, sA_e, sE_e, sEo_e, sK_e, sQ_e, sI_e, sR_e, sV_e, sB_e, sC_e, sD_e, sN_e, sP_e, sY_e, st_0, st_S, zc_0, zc_S, r_eq, r_ne, r_lt, r_le, r_gt, r_ge, rb_ite, rb_0, rb_1, w_isCell_t g1, w_isBell_f g2]
      · simp [e_X8_report, d_X8_report, xC_e, xL_e, xU_e, xB_e, xD_e, xF_e, xG_e, xA_e, xE_e, xH_e, xI_e, xZ_e, xK_e, aN_e, aC_e, cR_e, cV_e, cA_e, cO_e, cN_e, bs_e, bn_e, zg_0, zg_S, sS_e, sX_e, sF_e, sG_e, sA_e, sE_e, sEo_e, sK_e, sQ_e, sI_e, sR_e, sV_e, sB_e, sC_e, sD_e, sN_e, sP_e, sY_e, st_0, st_S, zc_0, zc_S, r_eq, r_ne, r_lt, r_le, r_gt, r_ge, rb_ite, rb_0, rb_1, w_isCell_f g1]
    · by_cases g1 : 0 ≤ c ∧ c < σ 1 2
      · have g1' : 0 ≤ c ∧ c < w32 (σ 37 5 * σ 37 6) := by rw [nN.1]; exact g1
        by_cases g2 : 0 ≤ l ∧ l < σ 6 0
        · have g2' : 0 ≤ l ∧ l < σ 37 14 := by rw [hN.1]; exact g2
          by_cases g3 : 0 ≤ t ∧ t < σ 6 0
          · have g4 : l = t := Decidable.byContradiction fun q => g ⟨g1, g2, g3, q⟩
            subst g4
            simp [e_X9_report, d_X9_report, xC_e, xL_e, xU_e, xB_e, xD_e, xF_e, xG_e, xA_e, xE_e, xH_e, xI_e, xZ_e, xK_e, aN_e, aC_e, cR_e, cV_e, cA_e, cO_e, cN_e, bs_e, bn_e, zg_0, zg_S, sS_e, sX_e, sF_e, sG_e, sA_e, sE_e, sEo_e, sK_e, sQ_e, sI_e, sR_e, sV_e, sB_e, sC_e, sD_e, sN_e, sP_e, sY_e, st_0, st_S, zc_0, zc_S, r_eq, r_ne, r_lt, r_le, r_gt, r_ge, rb_ite, rb_0, rb_1, v_isCell_t g1', v_isBell_t g2']
          · have g3' : ¬ (0 ≤ t ∧ t < σ 37 14) := by rw [hN.1]; exact g3
            simp [e_X9_report, d_X9_report, xC_e, xL_e, xU_e, xB_e, xD_e, xF_e, xG_e, xA_e, xE_e, xH_e, xI_e, xZ_e, xK_e, aN_e, aC_e, cR_e, cV_e, cA_e, cO_e, cN_e, bs_e, bn_e, zg_0, zg_S, sS_e, sX_e, sF_e, sG_e, sA_e, sE_e, sEo_e, sK_e, sQ_e, sI_e, sR_e, sV_e, sB_e, sC_e, sD_e, sN_e, sP_e, sY_e, st_0, st_S, zc_0, zc_S, r_eq, r_ne, r_lt, r_le, r_gt, r_ge, rb_ite, rb_0, rb_1, v_isCell_t g1', v_isBell_t g2', v_isBell_f g3']
        · have g2' : ¬ (0 ≤ l ∧ l < σ 37 14) := by rw [hN.1]; exact g2
          simp [e_X9_report, d_X9_report, xC_e, xL_e, xU_e, xB_e, xD_e, xF_e, xG_e, xA_e, xE_e, xH_e, xI_e, xZ_e, xK_e, aN_e, aC_e, cR_e, cV_e, cA_e, cO_e, cN_e, bs_e, bn_e, zg_0, zg_S, sS_e, sX_e, sF_e, sG_e, sA_e, sE_e, sEo_e, sK_e, sQ_e, sI_e, sR_e, sV_e, sB_e, sC_e, sD_e, sN_e, sP_e, sY_e, st_0, st_S, zc_0, zc_S, r_eq, r_ne, r_lt, r_le, r_gt, r_ge, rb_ite, rb_0, rb_1, v_isCell_t g1', v_isBell_f g2']
      · have g1' : ¬ (0 ≤ c ∧ c < w32 (σ 37 5 * σ 37 6)) := by rw [nN.1]; exact g1
        simp [e_X9_report, d_X9_report, xC_e, xL_e, xU_e, xB_e, xD_e, xF_e, xG_e, xA_e, xE_e, xH_e, xI_e, xZ_e, xK_e, aN_e, aC_e, cR_e, cV_e, cA_e, cO_e, cN_e, bs_e, bn_e, zg_0, zg_S, sS_e, sX_e, sF_e, sG_e, sA_e, sE_e, sEo_e, sK_e, sQ_e, sI_e, sR_e, sV_e, sB_e, sC_e, sD_e, sN_e, sP_e, sY_e, st_0, st_S, zc_0, zc_S, r_eq, r_ne, r_lt, r_le, r_gt, r_ge, rb_ite, rb_0, rb_1, v_isCell_f g1']
  obtain ⟨g1, g2, g3, g4⟩ := g
  have g1' : 0 ≤ c ∧ c < w32 (σ 37 5 * σ 37 6) := by rw [nN.1]; exact g1
  have g2' : 0 ≤ l ∧ l < σ 37 14 := by rw [hN.1]; exact g2
  have g3' : 0 ≤ t ∧ t < σ 37 14 := by rw [hN.1]; exact g3
  by_cases wi : 0 ≤ w ∧ w ≤ 39
  case neg =>
    refine zq k_X8_report k_X9_report hI ha (r := -2) (σ1 := σ) (σ2 := σ) ?_ ?_ (zSame.rf σ) (zSame.rf σ)
    · simp [e_X8_report, d_X8_report, xC_e, xL_e, xU_e, xB_e, xD_e, xF_e, xG_e, xA_e, xE_e, xH_e, xI_e, xZ_e, xK_e, aN_e, aC_e, cR_e, cV_e, cA_e, cO_e, cN_e, bs_e, bn_e, zg_0, zg_S, sS_e, sX_e, sF_e, sG_e, sA_e, sE_e, sEo_e, sK_e, sQ_e, sI_e, sR_e, sV_e, sB_e, sC_e, sD_e, sN_e, sP_e, sY_e, st_0, st_S, zc_0, zc_S, r_eq, r_ne, r_lt, r_le, r_gt, r_ge, rb_ite, rb_0, rb_1, w_isCell_t g1, w_isBell_t g2, w_isBell_t g3, g4, w_isWind_f wi]
    · simp [e_X9_report, d_X9_report, xC_e, xL_e, xU_e, xB_e, xD_e, xF_e, xG_e, xA_e, xE_e, xH_e, xI_e, xZ_e, xK_e, aN_e, aC_e, cR_e, cV_e, cA_e, cO_e, cN_e, bs_e, bn_e, zg_0, zg_S, sS_e, sX_e, sF_e, sG_e, sA_e, sE_e, sEo_e, sK_e, sQ_e, sI_e, sR_e, sV_e, sB_e, sC_e, sD_e, sN_e, sP_e, sY_e, st_0, st_S, zc_0, zc_S, r_eq, r_ne, r_lt, r_le, r_gt, r_ge, rb_ite, rb_0, rb_1, v_isCell_t g1', v_isBell_t g2', v_isBell_t g3', g4, v_isWind_f wi]
  by_cases n : σ 14 2 = 10
  case pos =>
    refine zq k_X8_report k_X9_report hI ha (r := -4) (σ1 := σ) (σ2 := σ) ?_ ?_ (zSame.rf σ) (zSame.rf σ)
    · simp [e_X8_report, d_X8_report, xC_e, xL_e, xU_e, xB_e, xD_e, xF_e, xG_e, xA_e, xE_e, xH_e, xI_e, xZ_e, xK_e, aN_e, aC_e, cR_e, cV_e, cA_e, cO_e, cN_e, bs_e, bn_e, zg_0, zg_S, sS_e, sX_e, sF_e, sG_e, sA_e, sE_e, sEo_e, sK_e, sQ_e, sI_e, sR_e, sV_e, sB_e, sC_e, sD_e, sN_e, sP_e, sY_e, st_0, st_S, zc_0, zc_S, r_eq, r_ne, r_lt, r_le, r_gt, r_ge, rb_ite, rb_0, rb_1, w_isCell_t g1, w_isBell_t g2, w_isBell_t g3, g4, w_isWind_t wi, n]
    · simp [e_X9_report, d_X9_report, xC_e, xL_e, xU_e, xB_e, xD_e, xF_e, xG_e, xA_e, xE_e, xH_e, xI_e, xZ_e, xK_e, aN_e, aC_e, cR_e, cV_e, cA_e, cO_e, cN_e, bs_e, bn_e, zg_0, zg_S, sS_e, sX_e, sF_e, sG_e, sA_e, sE_e, sEo_e, sK_e, sQ_e, sI_e, sR_e, sV_e, sB_e, sC_e, sD_e, sN_e, sP_e, sY_e, st_0, st_S, zc_0, zc_S, r_eq, r_ne, r_lt, r_le, r_gt, r_ge, rb_ite, rb_0, rb_1, v_isCell_t g1', v_isBell_t g2', v_isBell_t g3', g4, v_isWind_t wi, r1, n]
  have n9 : 0 ≤ σ 14 2 ∧ σ 14 2 < 10 := by omega
  have n8 : ¬ σ 14 2 ≥ 10 := by omega
  have e1 : o_iadd (σ 14 2) 1 = σ 14 2 + 1 := w32_id ⟨by omega, by omega⟩
  have e2 : o_isub (σ 14 2 + 1) 1 = σ 14 2 := by
    have : o_isub (σ 14 2 + 1) 1 = σ 14 2 + 1 - 1 := w32_id ⟨by omega, by omega⟩
    omega
  have h1 : m_X8_report [0, c, w, l, t] σ = some (σ 14 2, zput (zput (zput (zput (zput σ 15 (σ 14 2) c) 16 (σ 14 2) w) 17 (σ 14 2) l) 18 (σ 14 2) t) 14 2 (σ 14 2 + 1)) := by
    simp [e_X8_report, d_X8_report, xC_e, xL_e, xU_e, xB_e, xD_e, xF_e, xG_e, xA_e, xE_e, xH_e, xI_e, xZ_e, xK_e, aN_e, aC_e, cR_e, cV_e, cA_e, cO_e, cN_e, bs_e, bn_e, zg_0, zg_S, sS_e, sX_e, sF_e, sG_e, sA_e, sE_e, sEo_e, sK_e, sQ_e, sI_e, sR_e, sV_e, sB_e, sC_e, sD_e, sN_e, sP_e, sY_e, st_0, st_S, zc_0, zc_S, r_eq, r_ne, r_lt, r_le, r_gt, r_ge, rb_ite, rb_0, rb_1, w_isCell_t g1, w_isBell_t g2, w_isBell_t g3, g4, w_isWind_t wi, n8, e_X4_add, d_X4_add, n9, e1]
  generalize hτ : zput (zput (zput (zput (zput σ 15 (σ 14 2) c) 16 (σ 14 2) w) 17 (σ 14 2) l) 18 (σ 14 2) t) 14 2 (σ 14 2 + 1) = τ at h1
  have t37 : ∀ k, τ 37 k = σ 37 k := by intro k; rw [← hτ]; simp [zput]
  have h2 : m_X9_report [37, c, w, l, t] τ = some (σ 14 2, zput (zput (zput (zput (zput τ 49 (σ 14 2) c) 50 (σ 14 2) w) 51 (σ 14 2) l) 52 (σ 14 2) t) 37 23 (σ 14 2 + 1)) := by
    have g1' : 0 ≤ c ∧ c < w32 (τ 37 5 * τ 37 6) := by rw [t37, t37]; exact g1'
    have g2' : 0 ≤ l ∧ l < τ 37 14 := by rw [t37]; exact g2'
    have g3' : 0 ≤ t ∧ t < τ 37 14 := by rw [t37]; exact g3'
    have q : τ 37 23 = σ 14 2 := by rw [t37]; exact r1
    have z : ∀ (o i v : Int), o ≠ 37 → zput τ o i v 37 23 = σ 14 2 := fun o i v ho => by rw [zput_o (by omega), q]
    have z2 : ∀ (υ : zHp) (o i v : Int), o ≠ 37 → zput υ o i v 37 23 = υ 37 23 := fun υ o i v ho => by rw [zput_o (by omega)]
    simp [e_X9_report, d_X9_report, xC_e, xL_e, xU_e, xB_e, xD_e, xF_e, xG_e, xA_e, xE_e, xH_e, xI_e, xZ_e, xK_e, aN_e, aC_e, cR_e, cV_e, cA_e, cO_e, cN_e, bs_e, bn_e, zg_0, zg_S, sS_e, sX_e, sF_e, sG_e, sA_e, sE_e, sEo_e, sK_e, sQ_e, sI_e, sR_e, sV_e, sB_e, sC_e, sD_e, sN_e, sP_e, sY_e, st_0, st_S, zc_0, zc_S, r_eq, r_ne, r_lt, r_le, r_gt, r_ge, rb_ite, rb_0, rb_1, v_isCell_t g1', v_isBell_t g2', v_isBell_t g3', g4, v_isWind_t wi, q, n, n9, e1, z2, zput_self, e2]
  have o1 := zOk_of k_X8_report hI.1 h1 ⟨zthis, ha⟩
  have o2 := zOk_of k_X9_report o1 h2 ⟨zthat, ha⟩
  refine ⟨_, _, _, h1, h2, zInv_R o2 hI (fun a b q1 q2 q3 q4 => ?_) ?_⟩
  · rw [← hτ]
    unfold zput
    rw [if_neg q2, if_neg (by omega), if_neg (by omega), if_neg (by omega), if_neg (by omega), if_neg q1, if_neg (by omega), if_neg (by omega), if_neg (by omega), if_neg (by omega)]
  · subst hτ
    refine ⟨by simp [zput], by simp [zput]; omega, by simp [zput]; omega, fun k k0 k1 => ?_⟩
    have k1' : k < σ 14 2 + 1 := by simpa [zput] using k1
    by_cases hk : k = σ 14 2
    · subst hk
      simp [zput]
      omega
    · have := r4 k k0 (by omega)
      simpa [zput, hk] using this
