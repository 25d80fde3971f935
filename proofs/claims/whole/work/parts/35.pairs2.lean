/-- fault, trace -/
theorem zInv_F {σ τ : zHp} (ho : zOk τ) (h : zInv σ) (e : ∀ a b : Int, ¬ (a = 0 ∧ (b = 8 ∨ b = 9)) → ¬ (a = 37 ∧ (b = 0 ∨ b = 1)) → τ a b = σ a b) (e1 : τ 37 0 = τ 0 8) (e2 : τ 37 1 = τ 0 9) : zInv τ := by
  obtain ⟨-, hF, hL, hH, hB, hP, hE, hN, hC, hR, hS⟩ := h
  have hF' : zIF τ := ⟨e1.symm, e2.symm⟩
  refine ⟨ho, hF', zIL_c hL ?_ ?_ ?_ ?_ ?_, zIH_c hH ?_ ?_ ?_ ?_ ?_ ?_, zIB_c hB ?_ ?_ ?_, zIP_c hP ?_ ?_ ?_, zIE_c hE ?_ ?_, zIN_c hN ?_ ?_ ?_ ?_ ?_ ?_ ?_ ?_ ?_, zIC_c hC ?_ ?_ ?_ ?_ ?_ ?_ ?_ ?_, zIR_c hR ?_ ?_ ?_ ?_ ?_ ?_ ?_ ?_ ?_ ?_ ?_ ?_, zIS_c hS ?_ ?_ ?_ ?_⟩ <;> (intros; apply e <;> omega)
theorem zp5 : zp_5 zInv := by
  intro b k hb hk σ hI
  have hN := hI.2.2.2.2.2.2.2.1
  by_cases h : 0 ≤ b ∧ b < σ 6 0
  case neg =>
    have h' : ¬ (0 ≤ b ∧ b < σ 37 14) := by rw [hN.1]; exact h
    refine zq (ts := [0, 0]) k_X8_ofBell k_X9_ofBell hI ⟨hb, hk, trivial⟩ (r := -1) (σ1 := σ) (σ2 := σ) ?_ ?_ (zSame.rf σ) (zSame.rf σ)
    · simp [e_X8_ofBell, d_X8_ofBell, xC_e, xL_e, xU_e, xB_e, xD_e, xF_e, xG_e, xA_e, xE_e, xH_e, xI_e, xZ_e, xK_e, aN_e, aC_e, cR_e, cV_e, cA_e, cO_e, cN_e, bs_e, bn_e, zg_0, zg_S, sS_e, sX_e, sF_e, sG_e, sA_e, sE_e, sEo_e, sK_e, sQ_e, sI_e, sR_e, sV_e, sB_e, sC_e, sD_e, sN_e, sP_e, sY_e, st_0, st_S, zc_0, zc_S, r_eq, r_ne, r_lt, r_le, r_gt, r_ge, rb_ite, rb_0, rb_1, w_isBell_f h]
    · simp [e_X9_ofBell, d_X9_ofBell, xC_e, xL_e, xU_e, xB_e, xD_e, xF_e, xG_e, xA_e, xE_e, xH_e, xI_e, xZ_e, xK_e, aN_e, aC_e, cR_e, cV_e, cA_e, cO_e, cN_e, bs_e, bn_e, zg_0, zg_S, sS_e, sX_e, sF_e, sG_e, sA_e, sE_e, sEo_e, sK_e, sQ_e, sI_e, sR_e, sV_e, sB_e, sC_e, sD_e, sN_e, sP_e, sY_e, st_0, st_S, zc_0, zc_S, r_eq, r_ne, r_lt, r_le, r_gt, r_ge, rb_ite, rb_0, rb_1, v_isBell_f h']
  case pos =>
    have hb6 : 0 ≤ b ∧ b < 6 := by have := hN.2.2.1; omega
    have hb7 : 0 ≤ b ∧ b < 7 := by omega
    obtain ⟨n1, n2, n3⟩ := hN.2.2.2 b h.1 h.2
    refine zq (ts := [0, 0]) k_X8_ofBell k_X9_ofBell hI ⟨hb, hk, trivial⟩ (r := if k = 0 then σ 7 b else if k = 1 then σ 8 b else if k = 2 then σ 9 b else -2) (σ1 := σ) (σ2 := σ) ?_ ?_ (zSame.rf σ) (zSame.rf σ)
    · simp only [e_X8_ofBell, d_X8_ofBell, xC_e, xL_e, xU_e, xB_e, xD_e, xF_e, xG_e, xA_e, xE_e, xH_e, xI_e, xZ_e, xK_e, aN_e, aC_e, cR_e, cV_e, cA_e, cO_e, cN_e, bs_e, bn_e, zg_0, zg_S, sS_e, sX_e, sF_e, sG_e, sA_e, sE_e, sEo_e, sK_e, sQ_e, sI_e, sR_e, sV_e, sB_e, sC_e, sD_e, sN_e, sP_e, sY_e, st_0, st_S, zc_0, zc_S, r_eq, r_ne, r_lt, r_le, r_gt, r_ge, rb_ite, rb_0, rb_1, w_isBell]
      rcases (show k = 0 ∨ k = 1 ∨ k = 2 ∨ k < 0 ∨ 3 ≤ k by omega) with rfl | rfl | rfl | hk | hk
      · simp [h, xC_e, xL_e, xU_e, xB_e, xD_e, xF_e, xG_e, xA_e, xE_e, xH_e, xI_e, xZ_e, xK_e, aN_e, aC_e, cR_e, cV_e, cA_e, cO_e, cN_e, bs_e, bn_e, zg_0, zg_S, sS_e, sX_e, sF_e, sG_e, sA_e, sE_e, sEo_e, sK_e, sQ_e, sI_e, sR_e, sV_e, sB_e, sC_e, sD_e, sN_e, sP_e, sY_e, st_0, st_S, zc_0, zc_S, zpick, hb6]
      · simp [h, xC_e, xL_e, xU_e, xB_e, xD_e, xF_e, xG_e, xA_e, xE_e, xH_e, xI_e, xZ_e, xK_e, aN_e, aC_e, cR_e, cV_e, cA_e, cO_e, cN_e, bs_e, bn_e, zg_0, zg_S, sS_e, sX_e, sF_e, sG_e, sA_e, sE_e, sEo_e, sK_e, sQ_e, sI_e, sR_e, sV_e, sB_e, sC_e, sD_e, sN_e, sP_e, sY_e, st_0, st_S, zc_0, zc_S, zpick, hb6]
      · simp [h, xC_e, xL_e, xU_e, xB_e, xD_e, xF_e, xG_e, xA_e, xE_e, xH_e, xI_e, xZ_e, xK_e, aN_e, aC_e, cR_e, cV_e, cA_e, cO_e, cN_e, bs_e, bn_e, zg_0, zg_S, sS_e, sX_e, sF_e, sG_e, sA_e, sE_e, sEo_e, sK_e, sQ_e, sI_e, sR_e, sV_e, sB_e, sC_e, sD_e, sN_e, sP_e, sY_e, st_0, st_S, zc_0, zc_S, zpick, hb6]
      · have n0 : ¬ k = 0 := by omega
        have n1 : ¬ k = 1 := by omega
        have n2 : ¬ k = 2 := by omega
        simp [h, xC_e, xL_e, xU_e, xB_e, xD_e, xF_e, xG_e, xA_e, xE_e, xH_e, xI_e, xZ_e, xK_e, aN_e, aC_e, cR_e, cV_e, cA_e, cO_e, cN_e, bs_e, bn_e, zg_0, zg_S, sS_e, sX_e, sF_e, sG_e, sA_e, sE_e, sEo_e, sK_e, sQ_e, sI_e, sR_e, sV_e, sB_e, sC_e, sD_e, sN_e, sP_e, sY_e, st_0, st_S, zc_0, zc_S, hk, n0, n1, n2]
      · have n0 : ¬ k = 0 := by omega
        have n1 : ¬ k = 1 := by omega
        have n2 : ¬ k = 2 := by omega
        have m1 : ¬ k - 1 = 0 := by omega
        have m2 : ¬ k - 1 - 1 = 0 := by omega
        have m3 : ¬ k < 0 := by omega
        simp [h, xC_e, xL_e, xU_e, xB_e, xD_e, xF_e, xG_e, xA_e, xE_e, xH_e, xI_e, xZ_e, xK_e, aN_e, aC_e, cR_e, cV_e, cA_e, cO_e, cN_e, bs_e, bn_e, zg_0, zg_S, sS_e, sX_e, sF_e, sG_e, sA_e, sE_e, sEo_e, sK_e, sQ_e, sI_e, sR_e, sV_e, sB_e, sC_e, sD_e, sN_e, sP_e, sY_e, st_0, st_S, zc_0, zc_S, zpick, n0, n1, n2, m1, m2, m3]
    · simp only [e_X9_ofBell, d_X9_ofBell, xC_e, xL_e, xU_e, xB_e, xD_e, xF_e, xG_e, xA_e, xE_e, xH_e, xI_e, xZ_e, xK_e, aN_e, aC_e, cR_e, cV_e, cA_e, cO_e, cN_e, bs_e, bn_e, zg_0, zg_S, sS_e, sX_e, sF_e, sG_e, sA_e, sE_e, sEo_e, sK_e, sQ_e, sI_e, sR_e, sV_e, sB_e, sC_e, sD_e, sN_e, sP_e, sY_e, st_0, st_S, zc_0, zc_S, r_eq, r_ne, r_lt, r_le, r_gt, r_ge, rb_ite, rb_0, rb_1, v_isBell, hN.1]
      by_cases k0 : k = 0
      · simp [h, xC_e, xL_e, xU_e, xB_e, xD_e, xF_e, xG_e, xA_e, xE_e, xH_e, xI_e, xZ_e, xK_e, aN_e, aC_e, cR_e, cV_e, cA_e, cO_e, cN_e, bs_e, bn_e, zg_0, zg_S, sS_e, sX_e, sF_e, sG_e, sA_e, sE_e, sEo_e, sK_e, sQ_e, sI_e, sR_e, sV_e, sB_e, sC_e, sD_e, sN_e, sP_e, sY_e, st_0, st_S, zc_0, zc_S, k0, hb7, n1.1]
      · by_cases k1 : k = 1
        · simp [h, xC_e, xL_e, xU_e, xB_e, xD_e, xF_e, xG_e, xA_e, xE_e, xH_e, xI_e, xZ_e, xK_e, aN_e, aC_e, cR_e, cV_e, cA_e, cO_e, cN_e, bs_e, bn_e, zg_0, zg_S, sS_e, sX_e, sF_e, sG_e, sA_e, sE_e, sEo_e, sK_e, sQ_e, sI_e, sR_e, sV_e, sB_e, sC_e, sD_e, sN_e, sP_e, sY_e, st_0, st_S, zc_0, zc_S, k1, hb7, n2.1]
        · by_cases k2 : k = 2
          · simp [h, xC_e, xL_e, xU_e, xB_e, xD_e, xF_e, xG_e, xA_e, xE_e, xH_e, xI_e, xZ_e, xK_e, aN_e, aC_e, cR_e, cV_e, cA_e, cO_e, cN_e, bs_e, bn_e, zg_0, zg_S, sS_e, sX_e, sF_e, sG_e, sA_e, sE_e, sEo_e, sK_e, sQ_e, sI_e, sR_e, sV_e, sB_e, sC_e, sD_e, sN_e, sP_e, sY_e, st_0, st_S, zc_0, zc_S, k2, hb7, n3.1]
          · simp [h, xC_e, xL_e, xU_e, xB_e, xD_e, xF_e, xG_e, xA_e, xE_e, xH_e, xI_e, xZ_e, xK_e, aN_e, aC_e, cR_e, cV_e, cA_e, cO_e, cN_e, bs_e, bn_e, zg_0, zg_S, sS_e, sX_e, sF_e, sG_e, sA_e, sE_e, sEo_e, sK_e, sQ_e, sI_e, sR_e, sV_e, sB_e, sC_e, sD_e, sN_e, sP_e, sY_e, st_0, st_S, zc_0, zc_S, k0, k1, k2, hb7]
/-- a bell's weight -/
theorem zInv_W {σ τ : zHp} {b v : Int} (ho : zOk τ) (h : zInv σ) (hv : 1 ≤ v ∧ v ≤ 99) (e : ∀ x k : Int, ¬ (x = 9 ∧ k = b) → ¬ (x = 46 ∧ k = b) → τ x k = σ x k) (e1 : τ 9 b = v) (e2 : τ 46 b = v) : zInv τ := by
  obtain ⟨-, hF, hL, hH, hB, hP, hE, hN, hC, hR, hS⟩ := h
  have hN' : zIN τ := by
    obtain ⟨p1, p2, p3, p4⟩ := hN
    have q1 : τ 37 14 = σ 37 14 := e 37 14 (by omega) (by omega)
    have q2 : τ 6 0 = σ 6 0 := e 6 0 (by omega) (by omega)
    refine ⟨by rw [q1, q2]; exact p1, by rw [q2]; exact p2, by rw [q2]; exact p3, fun k k0 k1 => ?_⟩
    rw [q2] at k1
    obtain ⟨r1, r2, r3⟩ := p4 k k0 k1
    rw [e 44 k (by omega) (by omega), e 7 k (by omega) (by omega), e 45 k (by omega) (by omega), e 8 k (by omega) (by omega), e 1 2 (by omega) (by omega)]
    refine ⟨r1, r2, ?_⟩
    by_cases hk : k = b
    · subst hk
      rw [e1, e2]; exact ⟨rfl, hv⟩
    · rw [e 46 k (by omega) (by omega), e 9 k (by omega) (by omega)]; exact r3
  refine ⟨ho, zIF_c hF ?_ ?_ ?_ ?_, zIL_c hL ?_ ?_ ?_ ?_ ?_, zIH_c hH ?_ ?_ ?_ ?_ ?_ ?_, zIB_c hB ?_ ?_ ?_, zIP_c hP ?_ ?_ ?_, zIE_c hE ?_ ?_, hN', zIC_c hC ?_ ?_ ?_ ?_ ?_ ?_ ?_ ?_, zIR_c hR ?_ ?_ ?_ ?_ ?_ ?_ ?_ ?_ ?_ ?_ ?_ ?_, zIS_c hS ?_ ?_ ?_ ?_⟩ <;> (intros; apply e <;> omega)
theorem zp6 : zp_6 zInv := by
  intro b v hb hv σ hI
  have hN := hI.2.2.2.2.2.2.2.1
  by_cases h : 0 ≤ b ∧ b < σ 6 0
  case neg =>
    have h' : ¬ (0 ≤ b ∧ b < σ 37 14) := by rw [hN.1]; exact h
    refine zq (ts := [0, 0]) k_X8_recast k_X9_recast hI ⟨hb, hv, trivial⟩ (r := -1) (σ1 := σ) (σ2 := σ) ?_ ?_ (zSame.rf σ) (zSame.rf σ)
    · simp [e_X8_recast, d_X8_recast, xC_e, xL_e, xU_e, xB_e, xD_e, xF_e, xG_e, xA_e, xE_e, xH_e, xI_e, xZ_e, xK_e, aN_e, aC_e, cR_e, cV_e, cA_e, cO_e, cN_e, bs_e, bn_e, zg_0, zg_S, sS_e, sX_e, sF_e, sG_e, sA_e, sE_e, sEo_e, sK_e, sQ_e, sI_e, sR_e, sV_e, sB_e, sC_e, sD_e, sN_e, sP_e, sY_e, st_0, st_S, zc_0, zc_S, r_eq, r_ne, r_lt, r_le, r_gt, r_ge, rb_ite, rb_0, rb_1, w_isBell_f h]
    · simp [e_X9_recast, d_X9_recast, xC_e, xL_e, xU_e, xB_e, xD_e, xF_e, xG_e, xA_e, xE_e, xH_e, xI_e, xZ_e, xK_e, aN_e, aC_e, cR_e, cV_e, cA_e, cO_e, cN_e, bs_e, bn_e, zg_0, zg_S, sS_e, sX_e, sF_e, sG_e, sA_e, sE_e, sEo_e, sK_e, sQ_e, sI_e, sR_e, sV_e, sB_e, sC_e, sD_e, sN_e, sP_e, sY_e, st_0, st_S, zc_0, zc_S, r_eq, r_ne, r_lt, r_le, r_gt, r_ge, rb_ite, rb_0, rb_1, v_isBell_f h']
  have hb6 : 0 ≤ b ∧ b < 6 := by have := hN.2.2.1; omega
  have hb7 : 0 ≤ b ∧ b < 7 := by omega
  obtain ⟨n1, n2, n3⟩ := hN.2.2.2 b h.1 h.2
  have h' : 0 ≤ b ∧ b < σ 37 14 := by rw [hN.1]; exact h
  by_cases w : 1 ≤ v ∧ v ≤ 99
  case neg =>
    refine zq (ts := [0, 0]) k_X8_recast k_X9_recast hI ⟨hb, hv, trivial⟩ (r := -2) (σ1 := σ) (σ2 := σ) ?_ ?_ (zSame.rf σ) (zSame.rf σ)
    · simp [e_X8_recast, d_X8_recast, xC_e, xL_e, xU_e, xB_e, xD_e, xF_e, xG_e, xA_e, xE_e, xH_e, xI_e, xZ_e, xK_e, aN_e, aC_e, cR_e, cV_e, cA_e, cO_e, cN_e, bs_e, bn_e, zg_0, zg_S, sS_e, sX_e, sF_e, sG_e, sA_e, sE_e, sEo_e, sK_e, sQ_e, sI_e, sR_e, sV_e, sB_e, sC_e, sD_e, sN_e, sP_e, sY_e, st_0, st_S, zc_0, zc_S, r_eq, r_ne, r_lt, r_le, r_gt, r_ge, rb_ite, rb_0, rb_1, w_isBell_t h, w_isWeight_f w]
    · simp [e_X9_recast, d_X9_recast, xC_e, xL_e, xU_e, xB_e, xD_e, xF_e, xG_e, xA_e, xE_e, xH_e, xI_e, xZ_e, xK_e, aN_e, aC_e, cR_e, cV_e, cA_e, cO_e, cN_e, bs_e, bn_e, zg_0, zg_S, sS_e, sX_e, sF_e, sG_e, sA_e, sE_e, sEo_e, sK_e, sQ_e, sI_e, sR_e, sV_e, sB_e, sC_e, sD_e, sN_e, sP_e, sY_e, st_0, st_S, zc_0, zc_S, r_eq, r_ne, r_lt, r_le, r_gt, r_ge, rb_ite, rb_0, rb_1, v_isBell_t h', v_isWeight_f w]
  have h1 : m_X8_recast [0, b, v] σ = some (σ 9 b, zput σ 9 b v) := by
    simp [e_X8_recast, d_X8_recast, xC_e, xL_e, xU_e, xB_e, xD_e, xF_e, xG_e, xA_e, xE_e, xH_e, xI_e, xZ_e, xK_e, aN_e, aC_e, cR_e, cV_e, cA_e, cO_e, cN_e, bs_e, bn_e, zg_0, zg_S, sS_e, sX_e, sF_e, sG_e, sA_e, sE_e, sEo_e, sK_e, sQ_e, sI_e, sR_e, sV_e, sB_e, sC_e, sD_e, sN_e, sP_e, sY_e, st_0, st_S, zc_0, zc_S, r_eq, r_ne, r_lt, r_le, r_gt, r_ge, rb_ite, rb_0, rb_1, w_isBell_t h, w_isWeight_t w, hb6]
  have h2 : m_X9_recast [37, b, v] (zput σ 9 b v) = some (σ 9 b, zput (zput σ 9 b v) 46 b v) := by
    have e1 : zput σ 9 b v 37 14 = σ 6 0 := by rw [zput_o (by decide)]; exact hN.1
    have h'' : 0 ≤ b ∧ b < zput σ 9 b v 37 14 := by rw [e1]; exact h
    have e2 : zput σ 9 b v 46 b = σ 9 b := by rw [zput_o (by decide)]; exact n3.1
    simp [e_X9_recast, d_X9_recast, xC_e, xL_e, xU_e, xB_e, xD_e, xF_e, xG_e, xA_e, xE_e, xH_e, xI_e, xZ_e, xK_e, aN_e, aC_e, cR_e, cV_e, cA_e, cO_e, cN_e, bs_e, bn_e, zg_0, zg_S, sS_e, sX_e, sF_e, sG_e, sA_e, sE_e, sEo_e, sK_e, sQ_e, sI_e, sR_e, sV_e, sB_e, sC_e, sD_e, sN_e, sP_e, sY_e, st_0, st_S, zc_0, zc_S, r_eq, r_ne, r_lt, r_le, r_gt, r_ge, rb_ite, rb_0, rb_1, v_isBell_t h'', e2, v_isWeight_t w, hb7]
  have o1 := zOk_of k_X8_recast hI.1 h1 ⟨zthis, hb, hv, trivial⟩
  have o2 := zOk_of k_X9_recast o1 h2 ⟨zthat, hb, hv, trivial⟩
  refine ⟨_, _, _, h1, h2, zInv_W (b := b) o2 hI w (fun x k q1 q2 => ?_) ?_ ?_⟩
  · unfold zput
    rw [if_neg q2, if_neg q1]
  · rw [zput_o (by decide), zput_self]
  · rw [zput_self]
theorem w_mark (n : Int) (σ : zHp) : m_X8_mark [0, n] σ = some (0, zput σ 0 9 (o_iadd (o_imul 31 (σ 0 9)) n)) := by
  simp [e_X8_mark, d_X8_mark, xC_e, xL_e, xU_e, xB_e, xD_e, xF_e, xG_e, xA_e, xE_e, xH_e, xI_e, xZ_e, xK_e, aN_e, aC_e, cR_e, cV_e, cA_e, cO_e, cN_e, bs_e, bn_e, zg_0, zg_S, sS_e, sX_e, sF_e, sG_e, sA_e, sE_e, sEo_e, sK_e, sQ_e, sI_e, sR_e, sV_e, sB_e, sC_e, sD_e, sN_e, sP_e, sY_e, st_0, st_S, zc_0, zc_S]
theorem v_begins (n : Int) (σ : zHp) : m_X9_begins [37, n] σ = some (0, zput σ 37 1 (o_iadd (o_imul 31 (σ 37 1)) n)) := by
  simp [e_X9_begins, d_X9_begins, xC_e, xL_e, xU_e, xB_e, xD_e, xF_e, xG_e, xA_e, xE_e, xH_e, xI_e, xZ_e, xK_e, aN_e, aC_e, cR_e, cV_e, cA_e, cO_e, cN_e, bs_e, bn_e, zg_0, zg_S, sS_e, sX_e, sF_e, sG_e, sA_e, sE_e, sEo_e, sK_e, sQ_e, sI_e, sR_e, sV_e, sB_e, sC_e, sD_e, sN_e, sP_e, sY_e, st_0, st_S, zc_0, zc_S]
theorem zput_put (σ : zHp) (o i v w : Int) : zput (zput σ o i v) o i w = zput σ o i w := by
  funext a b
  unfold zput
  split <;> rfl
theorem w_bellBody (b : Int) (h : 0 ≤ b ∧ b < 6) (σ : zHp) : m_X8_bellBody [0, b] σ = some (σ 9 b, zput σ 0 9 (o_iadd (o_imul 31 (σ 0 9)) 1)) := by
  have e : zput σ 0 9 (o_iadd (o_imul 31 (σ 0 9)) 1) 9 b = σ 9 b := zput_o (by decide) b
  simp [e_X8_bellBody, d_X8_bellBody, xC_e, xL_e, xU_e, xB_e, xD_e, xF_e, xG_e, xA_e, xE_e, xH_e, xI_e, xZ_e, xK_e, aN_e, aC_e, cR_e, cV_e, cA_e, cO_e, cN_e, bs_e, bn_e, zg_0, zg_S, sS_e, sX_e, sF_e, sG_e, sA_e, sE_e, sEo_e, sK_e, sQ_e, sI_e, sR_e, sV_e, sB_e, sC_e, sD_e, sN_e, sP_e, sY_e, st_0, st_S, zc_0, zc_S, w_mark, h, e]
def z31 (t n : Int) : Int := o_iadd (o_imul 31 t) n
theorem w_tenorBody (b : Int) (h : 0 ≤ b ∧ b < 6) (σ : zHp) : m_X8_tenorBody [0, b] σ = some (o_iadd (σ 9 b) 100, zput σ 0 9 (z31 (z31 (σ 0 9) 2) 1)) := by
  have e : ∀ v, zput σ 0 9 v 9 b = σ 9 b := fun v => zput_o (by decide) b
  simp [e_X8_tenorBody, d_X8_tenorBody, xC_e, xL_e, xU_e, xB_e, xD_e, xF_e, xG_e, xA_e, xE_e, xH_e, xI_e, xZ_e, xK_e, aN_e, aC_e, cR_e, cV_e, cA_e, cO_e, cN_e, bs_e, bn_e, zg_0, zg_S, sS_e, sX_e, sF_e, sG_e, sA_e, sE_e, sEo_e, sK_e, sQ_e, sI_e, sR_e, sV_e, sB_e, sC_e, sD_e, sN_e, sP_e, sY_e, st_0, st_S, zc_0, zc_S, w_mark, w_bellBody b h, h, e, zput_self, zput_put, z31]
theorem w_greatBody (b : Int) (h : 0 ≤ b ∧ b < 6) (σ : zHp) : m_X8_greatBody [0, b] σ = some (o_iadd (o_iadd (σ 9 b) 100) (σ 9 b), zput σ 0 9 (z31 (z31 (z31 (z31 (σ 0 9) 3) 2) 1) 1)) := by
  have e : ∀ v, zput σ 0 9 v 9 b = σ 9 b := fun v => zput_o (by decide) b
  simp [e_X8_greatBody, d_X8_greatBody, xC_e, xL_e, xU_e, xB_e, xD_e, xF_e, xG_e, xA_e, xE_e, xH_e, xI_e, xZ_e, xK_e, aN_e, aC_e, cR_e, cV_e, cA_e, cO_e, cN_e, bs_e, bn_e, zg_0, zg_S, sS_e, sX_e, sF_e, sG_e, sA_e, sE_e, sEo_e, sK_e, sQ_e, sI_e, sR_e, sV_e, sB_e, sC_e, sD_e, sN_e, sP_e, sY_e, st_0, st_S, zc_0, zc_S, w_mark, w_tenorBody b h, w_bellBody b h, h, e, zput_self, zput_put, z31]
/-- a pair that leaves fault and trace alike, and nothing else -/
theorem zqF {f g : List Int → zHp → Option (Int × zHp)} {as : List Int} {σ : zHp} {r x1 x2 y1 y2 : Int} {n1 n2 : MethodName} {w1 w2 : List Cond} {fr1 lo1 rt1 fr2 lo2 rt2 : Nat} {ts : List Nat} (k1 : zCon n1 w1 fr1 lo1 (10 :: ts) rt1 f) (k2 : zCon n2 w2 fr2 lo2 (47 :: ts) rt2 g) (hI : zInv σ) (ha : zOkA ts as)
    (h1 : f (0 :: as) σ = some (r, zput (zput σ 0 8 x1) 0 9 y1)) (h2 : ∀ τ, (∀ a b : Int, ¬ (a = 0 ∧ (b = 8 ∨ b = 9)) → τ a b = σ a b) → g (37 :: as) τ = some (r, zput (zput τ 37 0 x2) 37 1 y2)) (ex : x1 = x2) (ey : y1 = y2) : ∃ r σ1 σ2, f (0 :: as) σ = some (r, σ1) ∧ g (37 :: as) σ1 = some (r, σ2) ∧ zInv σ2 := by
  have h2 := h2 (zput (zput σ 0 8 x1) 0 9 y1) (fun a b hab => by
    unfold zput
    rw [if_neg (by omega), if_neg (by omega)])
  have o1 := zOk_of k1 hI.1 h1 ⟨zthis, ha⟩
  have o2 := zOk_of k2 o1 h2 ⟨zthat, ha⟩
  refine ⟨_, _, _, h1, h2, zInv_F o2 hI (fun a b q1 q2 => ?_) ?_ ?_⟩
  · unfold zput
    rw [if_neg (by omega), if_neg (by omega), if_neg (by omega), if_neg (by omega)]
  · simp [zput, ex]
  · simp [zput, ey]
theorem zput_id (σ : zHp) (o i : Int) : zput σ o i (σ o i) = σ := by
  funext a b
  unfold zput
  split
  · next h => rw [h.1, h.2]
  · rfl
