theorem zp4 : zp_4 zInv := by
  intro kd c w hkr hcr hwr σ hI
  have h := hI
  obtain ⟨-, hF, hL, hH, hB, hP, hE, hN, hC, hR, hS⟩ := h
  have nN := zN_eq hL
  have ha : zOkA [0, 0, 0] [kd, c, w] := ⟨hkr, hcr, hwr, trivial⟩
  by_cases g1 : 0 ≤ c ∧ c < σ 1 2
  case neg =>
    have g1' : ¬ (0 ≤ c ∧ c < w32 (σ 37 5 * σ 37 6)) := by rw [nN.1]; exact g1
    refine zq k_X8_bell k_X9_bell hI ha (r := -1) (σ1 := σ) (σ2 := σ) ?_ ?_ (zSame.rf σ) (zSame.rf σ)
    · simp [e_X8_bell, d_X8_bell, xC_e, xL_e, xU_e, xB_e, xD_e, xF_e, xG_e, xA_e, xE_e, xH_e, xI_e, xZ_e, xK_e, aN_e, aC_e, cR_e, cV_e, cA_e, cO_e, cN_e, bs_e, bn_e, zg_0, zg_S, sS_e, sX_e, sF_e, sG_e, sA_e, sE_e, sEo_e, sK_e, sQ_e, sI_e, sR_e, sV_e, sB_e, sC_e, sD_e, sN_e, sP_e, sY_e, st_0, st_S, zc_0, zc_S, r_eq, r_ne, r_lt, r_le, r_gt, r_ge, rb_ite, rb_0, rb_1, w_isCell_f g1]
    · simp [e_X9_bell, d_X9_bell, xC_e, xL_e, xU_e, xB_e, xD_e, xF_e, xG_e, xA_e, xE_e, xH_e, xI_e, xZ_e, xK_e, aN_e, aC_e, cR_e, cV_e, cA_e, cO_e, cN_e, bs_e, bn_e, zg_0, zg_S, sS_e, sX_e, sF_e, sG_e, sA_e, sE_e, sEo_e, sK_e, sQ_e, sI_e, sR_e, sV_e, sB_e, sC_e, sD_e, sN_e, sP_e, sY_e, st_0, st_S, zc_0, zc_S, r_eq, r_ne, r_lt, r_le, r_gt, r_ge, rb_ite, rb_0, rb_1, v_isCell_f g1']
  have g1' : 0 ≤ c ∧ c < w32 (σ 37 5 * σ 37 6) := by rw [nN.1]; exact g1
  by_cases g2 : (0 ≤ kd ∧ kd ≤ 2) ∧ 1 ≤ w ∧ w ≤ 99
  case neg =>
    refine zq k_X8_bell k_X9_bell hI ha (r := -2) (σ1 := σ) (σ2 := σ) ?_ ?_ (zSame.rf σ) (zSame.rf σ)
    · by_cases q : 0 ≤ kd ∧ kd ≤ 2
      · have q2 : ¬ (1 ≤ w ∧ w ≤ 99) := fun z => g2 ⟨q, z⟩
        simp [e_X8_bell, d_X8_bell, xC_e, xL_e, xU_e, xB_e, xD_e, xF_e, xG_e, xA_e, xE_e, xH_e, xI_e, xZ_e, xK_e, aN_e, aC_e, cR_e, cV_e, cA_e, cO_e, cN_e, bs_e, bn_e, zg_0, zg_S, sS_e, sX_e, sF_e, sG_e, sA_e, sE_e, sEo_e, sK_e, sQ_e, sI_e, sR_e, sV_e, sB_e, sC_e, sD_e, sN_e, sP_e, sY_e, st_0, st_S, zc_0, zc_S, r_eq, r_ne, r_lt, r_le, r_gt, r_ge, rb_ite, rb_0, rb_1, w_isCell_t g1, w_isKind_t q, w_isWeight_f q2]
      · simp [e_X8_bell, d_X8_bell, xC_e, xL_e, xU_e, xB_e, xD_e, xF_e, xG_e, xA_e, xE_e, xH_e, xI_e, xZ_e, xK_e, aN_e, aC_e, cR_e, cV_e, cA_e, cO_e, cN_e, bs_e, bn_e, zg_0, zg_S, sS_e, sX_e, sF_e, sG_e, sA_e, sE_e, sEo_e, sK_e, sQ_e, sI_e, sR_e, sV_e, sB_e, sC_e, sD_e, sN_e, sP_e, sY_e, st_0, st_S, zc_0, zc_S, r_eq, r_ne, r_lt, r_le, r_gt, r_ge, rb_ite, rb_0, rb_1, w_isCell_t g1, w_isKind_f q]
    · by_cases q : 0 ≤ kd ∧ kd ≤ 2
      · have q2 : ¬ (1 ≤ w ∧ w ≤ 99) := fun z => g2 ⟨q, z⟩
        simp [e_X9_bell, d_X9_bell, xC_e, xL_e, xU_e, xB_e, xD_e, xF_e, xG_e, xA_e, xE_e, xH_e, xI_e, xZ_e, xK_e, aN_e, aC_e, cR_e, cV_e, cA_e, cO_e, cN_e, bs_e, bn_e, zg_0, zg_S, sS_e, sX_e, sF_e, sG_e, sA_e, sE_e, sEo_e, sK_e, sQ_e, sI_e, sR_e, sV_e, sB_e, sC_e, sD_e, sN_e, sP_e, sY_e, st_0, st_S, zc_0, zc_S, r_eq, r_ne, r_lt, r_le, r_gt, r_ge, rb_ite, rb_0, rb_1, v_isCell_t g1', v_within_t q, v_isWeight_f q2]
      · simp [e_X9_bell, d_X9_bell, xC_e, xL_e, xU_e, xB_e, xD_e, xF_e, xG_e, xA_e, xE_e, xH_e, xI_e, xZ_e, xK_e, aN_e, aC_e, cR_e, cV_e, cA_e, cO_e, cN_e, bs_e, bn_e, zg_0, zg_S, sS_e, sX_e, sF_e, sG_e, sA_e, sE_e, sEo_e, sK_e, sQ_e, sI_e, sR_e, sV_e, sB_e, sC_e, sD_e, sN_e, sP_e, sY_e, st_0, st_S, zc_0, zc_S, r_eq, r_ne, r_lt, r_le, r_gt, r_ge, rb_ite, rb_0, rb_1, v_isCell_t g1', v_within_f q]
  obtain ⟨gk, gw⟩ := g2
  by_cases n6 : σ 6 0 = 6
  case pos =>
    refine zq k_X8_bell k_X9_bell hI ha (r := -4) (σ1 := σ) (σ2 := σ) ?_ ?_ (zSame.rf σ) (zSame.rf σ)
    · simp [e_X8_bell, d_X8_bell, xC_e, xL_e, xU_e, xB_e, xD_e, xF_e, xG_e, xA_e, xE_e, xH_e, xI_e, xZ_e, xK_e, aN_e, aC_e, cR_e, cV_e, cA_e, cO_e, cN_e, bs_e, bn_e, zg_0, zg_S, sS_e, sX_e, sF_e, sG_e, sA_e, sE_e, sEo_e, sK_e, sQ_e, sI_e, sR_e, sV_e, sB_e, sC_e, sD_e, sN_e, sP_e, sY_e, st_0, st_S, zc_0, zc_S, r_eq, r_ne, r_lt, r_le, r_gt, r_ge, rb_ite, rb_0, rb_1, w_isCell_t g1, w_isKind_t gk, w_isWeight_t gw, n6]
    · simp [e_X9_bell, d_X9_bell, xC_e, xL_e, xU_e, xB_e, xD_e, xF_e, xG_e, xA_e, xE_e, xH_e, xI_e, xZ_e, xK_e, aN_e, aC_e, cR_e, cV_e, cA_e, cO_e, cN_e, bs_e, bn_e, zg_0, zg_S, sS_e, sX_e, sF_e, sG_e, sA_e, sE_e, sEo_e, sK_e, sQ_e, sI_e, sR_e, sV_e, sB_e, sC_e, sD_e, sN_e, sP_e, sY_e, st_0, st_S, zc_0, zc_S, r_eq, r_ne, r_lt, r_le, r_gt, r_ge, rb_ite, rb_0, rb_1, v_isCell_t g1', v_within_t gk, v_isWeight_t gw, hN.1, n6]
  obtain ⟨m1, m2, m3, m4⟩ := hN
  have nb : 0 ≤ σ 6 0 ∧ σ 6 0 < 6 := by omega
  have nb7 : 0 ≤ σ 6 0 ∧ σ 6 0 < 7 := by omega
  have n6' : ¬ σ 6 0 ≥ 6 := by omega
  have e1 : o_iadd (σ 6 0) 1 = σ 6 0 + 1 := w32_id ⟨by omega, by omega⟩
  have e2 : o_isub (σ 6 0 + 1) 1 = σ 6 0 := by
    have : o_isub (σ 6 0 + 1) 1 = σ 6 0 + 1 - 1 := w32_id ⟨by omega, by omega⟩
    omega
  have ad : m_X1_add [6, kd, c, w] σ = some (σ 6 0, zput (zput (zput (zput σ 7 (σ 6 0) kd) 8 (σ 6 0) c) 9 (σ 6 0) w) 6 0 (σ 6 0 + 1)) := by
    simp [e_X1_add, d_X1_add, xC_e, xL_e, xU_e, xB_e, xD_e, xF_e, xG_e, xA_e, xE_e, xH_e, xI_e, xZ_e, xK_e, aN_e, aC_e, cR_e, cV_e, cA_e, cO_e, cN_e, bs_e, bn_e, zg_0, zg_S, sS_e, sX_e, sF_e, sG_e, sA_e, sE_e, sEo_e, sK_e, sQ_e, sI_e, sR_e, sV_e, sB_e, sC_e, sD_e, sN_e, sP_e, sY_e, st_0, st_S, zc_0, zc_S, nb, e1]
  generalize ha1 : zput (zput (zput (zput σ 7 (σ 6 0) kd) 8 (σ 6 0) c) 9 (σ 6 0) w) 6 0 (σ 6 0 + 1) = σa at ad
  have ea : ∀ a b, a ≠ 7 → a ≠ 8 → a ≠ 9 → a ≠ 6 → σa a b = σ a b := fun a b q1 q2 q3 q4 => by
    rw [← ha1, zput_o q4, zput_o q3, zput_o q2, zput_o q1]
  have a7 : σa 7 (σ 6 0) = kd := by rw [← ha1, zput_o (by decide), zput_o (by decide), zput_o (by decide), zput_self]
  have a8 : σa 8 (σ 6 0) = c := by rw [← ha1, zput_o (by decide), zput_o (by decide), zput_self]
  have a9 : σa 9 (σ 6 0) = w := by rw [← ha1, zput_o (by decide), zput_self]
  have a6 : σa 6 0 = σ 6 0 + 1 := by rw [← ha1, zput_self]
  have a7n : ∀ b, b ≠ σ 6 0 → σa 7 b = σ 7 b := fun b hb => by rw [← ha1, zput_o (by decide), zput_o (by decide), zput_o (by decide), zput_i hb]
  have a8n : ∀ b, b ≠ σ 6 0 → σa 8 b = σ 8 b := fun b hb => by rw [← ha1, zput_o (by decide), zput_o (by decide), zput_i hb, zput_o (by decide)]
  have a9n : ∀ b, b ≠ σ 6 0 → σa 9 b = σ 9 b := fun b hb => by rw [← ha1, zput_o (by decide), zput_i hb, zput_o (by decide), zput_o (by decide)]
  have hLa : zIL σa := zIL_c hL (ea 1 0 (by decide) (by decide) (by decide) (by decide)) (ea 1 1 (by decide) (by decide) (by decide) (by decide)) (ea 1 2 (by decide) (by decide) (by decide) (by decide)) (ea 37 5 (by decide) (by decide) (by decide) (by decide)) (ea 37 6 (by decide) (by decide) (by decide) (by decide))
  have hHa : zIH σa := zIH_c hH (ea 1 1 (by decide) (by decide) (by decide) (by decide)) (ea 1 2 (by decide) (by decide) (by decide) (by decide)) (fun k => ea 2 k (by decide) (by decide) (by decide) (by decide)) (fun k => ea 3 k (by decide) (by decide) (by decide) (by decide)) (fun k => ea 4 k (by decide) (by decide) (by decide) (by decide)) (fun k => ea 41 k (by decide) (by decide) (by decide) (by decide))
  have hBa : zIB σa := zIB_c hB (ea 1 2 (by decide) (by decide) (by decide) (by decide)) (fun k => ea 2 k (by decide) (by decide) (by decide) (by decide)) (fun k => ea 5 k (by decide) (by decide) (by decide) (by decide))
  have hPa : zIP σa := zIP_c hP (ea 1 2 (by decide) (by decide) (by decide) (by decide)) (ea 1 3 (by decide) (by decide) (by decide) (by decide)) (fun k => ea 42 k (by decide) (by decide) (by decide) (by decide))
  have en : σa 1 2 = σ 1 2 := ea 1 2 (by decide) (by decide) (by decide) (by decide)
  obtain ⟨τ, ht, tr⟩ := w_carry (ρ := σa) hLa hHa hBa rfl (fun _ => rfl) hPa nb (by rw [a7]; exact gk) (by rw [a8, en]; exact g1)
  obtain ⟨et, hr⟩ := tr
  have h1 : m_X8_bell [0, kd, c, w] σ = some (σ 6 0, τ) := by
    simp [e_X8_bell, d_X8_bell, xC_e, xL_e, xU_e, xB_e, xD_e, xF_e, xG_e, xA_e, xE_e, xH_e, xI_e, xZ_e, xK_e, aN_e, aC_e, cR_e, cV_e, cA_e, cO_e, cN_e, bs_e, bn_e, zg_0, zg_S, sS_e, sX_e, sF_e, sG_e, sA_e, sE_e, sEo_e, sK_e, sQ_e, sI_e, sR_e, sV_e, sB_e, sC_e, sD_e, sN_e, sP_e, sY_e, st_0, st_S, zc_0, zc_S, r_eq, r_ne, r_lt, r_le, r_gt, r_ge, rb_ite, rb_0, rb_1, w_isCell_t g1, w_isKind_t gk, w_isWeight_t gw, n6', ad, ht]
  have t37 : ∀ b, τ 37 b = σ 37 b := fun b => by rw [et _ _ (by omega), ea _ _ (by decide) (by decide) (by decide) (by decide)]
  have h2 : m_X9_bell [37, kd, c, w] τ = some (σ 6 0, zput (zput (zput (zput τ 44 (σ 6 0) kd) 45 (σ 6 0) c) 46 (σ 6 0) w) 37 14 (σ 6 0 + 1)) := by
    have g1'' : 0 ≤ c ∧ c < w32 (τ 37 5 * τ 37 6) := by rw [t37, t37]; exact g1'
    have q : τ 37 14 = σ 6 0 := by rw [t37]; exact m1
    have z2 : ∀ (υ : zHp) (o i v : Int), o ≠ 37 → zput υ o i v 37 14 = υ 37 14 := fun υ o i v ho => by rw [zput_o (by omega)]
    simp [e_X9_bell, d_X9_bell, xC_e, xL_e, xU_e, xB_e, xD_e, xF_e, xG_e, xA_e, xE_e, xH_e, xI_e, xZ_e, xK_e, aN_e, aC_e, cR_e, cV_e, cA_e, cO_e, cN_e, bs_e, bn_e, zg_0, zg_S, sS_e, sX_e, sF_e, sG_e, sA_e, sE_e, sEo_e, sK_e, sQ_e, sI_e, sR_e, sV_e, sB_e, sC_e, sD_e, sN_e, sP_e, sY_e, st_0, st_S, zc_0, zc_S, r_eq, r_ne, r_lt, r_le, r_gt, r_ge, rb_ite, rb_0, rb_1, v_isCell_t g1'', v_within_t gk, v_isWeight_t gw, q, n6, nb7, z2, e1, e2, zput_self]
  have o1 := zOk_of k_X8_bell hI.1 h1 ⟨zthis, ha⟩
  have o2 := zOk_of k_X9_bell o1 h2 ⟨zthat, ha⟩
  generalize hυ : zput (zput (zput (zput τ 44 (σ 6 0) kd) 45 (σ 6 0) c) 46 (σ 6 0) w) 37 14 (σ 6 0 + 1) = υ at h2 o2
  have eu : ∀ a b, ¬ (44 ≤ a ∧ a ≤ 46) → ¬ (a = 37 ∧ b = 14) → υ a b = τ a b := fun a b q1 q2 => by
    rw [← hυ, zput_n q2, zput_o (by omega), zput_o (by omega), zput_o (by omega)]
  have e : ∀ a b, ¬ (44 ≤ a ∧ a ≤ 46) → ¬ (a = 37 ∧ b = 14) → a ≠ 11 → a ≠ 7 → a ≠ 8 → a ≠ 9 → a ≠ 6 → υ a b = σ a b := fun a b q1 q2 q3 q4 q5 q6 q7 => by
    rw [eu a b q1 q2, et a b (by omega), ea a b q4 q5 q6 q7]
  have uk : ∀ a b, (a = 7 ∨ a = 8 ∨ a = 9 ∨ a = 6) → υ a b = σa a b := fun a b q => by
    rw [eu a b (by omega) (by omega), et a b (by omega)]
  refine ⟨_, _, _, h1, h2, ?_⟩
  have hN' : zIN υ := by
    have u6 : υ 6 0 = σ 6 0 + 1 := by rw [uk 6 0 (by omega), a6]
    refine ⟨?_, by omega, by omega, fun b b0 b1 => ?_⟩
    · rw [u6, ← hυ, zput_self]
    · rw [u6] at b1
      rw [e 1 2 (by omega) (by omega) (by decide) (by decide) (by decide) (by decide) (by decide), uk 7 b (by omega), uk 8 b (by omega), uk 9 b (by omega)]
      by_cases hb : b = σ 6 0
      · subst hb
        rw [a7, a8, a9, ← hυ]
        have x1 : zput (zput (zput (zput τ 44 (σ 6 0) kd) 45 (σ 6 0) c) 46 (σ 6 0) w) 37 14 (σ 6 0 + 1) 44 (σ 6 0) = kd := by rw [zput_o (by decide), zput_o (by decide), zput_o (by decide), zput_self]
        have x2 : zput (zput (zput (zput τ 44 (σ 6 0) kd) 45 (σ 6 0) c) 46 (σ 6 0) w) 37 14 (σ 6 0 + 1) 45 (σ 6 0) = c := by rw [zput_o (by decide), zput_o (by decide), zput_self]
        have x3 : zput (zput (zput (zput τ 44 (σ 6 0) kd) 45 (σ 6 0) c) 46 (σ 6 0) w) 37 14 (σ 6 0 + 1) 46 (σ 6 0) = w := by rw [zput_o (by decide), zput_self]
        exact ⟨⟨x1, gk⟩, ⟨x2, g1⟩, ⟨x3, gw⟩⟩
      · have x1 : υ 44 b = σ 44 b := by rw [← hυ, zput_o (by decide), zput_o (by decide), zput_o (by decide), zput_i hb, et _ _ (by omega), ea _ _ (by decide) (by decide) (by decide) (by decide)]
        have x2 : υ 45 b = σ 45 b := by rw [← hυ, zput_o (by decide), zput_o (by decide), zput_i hb, zput_o (by decide), et _ _ (by omega), ea _ _ (by decide) (by decide) (by decide) (by decide)]
        have x3 : υ 46 b = σ 46 b := by rw [← hυ, zput_o (by decide), zput_i hb, zput_o (by decide), zput_o (by decide), et _ _ (by omega), ea _ _ (by decide) (by decide) (by decide) (by decide)]
        rw [x1, x2, x3, a7n b hb, a8n b hb, a9n b hb]
        exact m4 b b0 (by omega)
  have hC' : zIC υ := by
    intro b k b0 b1 k0 k1
    rw [uk 6 0 (by omega), a6] at b1
    have u2 : υ 1 2 = σ 1 2 := e 1 2 (by omega) (by omega) (by decide) (by decide) (by decide) (by decide) (by decide)
    rw [u2] at k1
    have zd : ∀ kd f t, zDn υ kd f t = zDn σ kd f t := zDn_eq (e 1 1 (by omega) (by omega) (by decide) (by decide) (by decide) (by decide) (by decide)) (fun k => e 2 k (by omega) (by omega) (by decide) (by decide) (by decide) (by decide) (by decide)) (fun k => e 42 k (by omega) (by omega) (by decide) (by decide) (by decide) (by decide) (by decide))
    have zda : ∀ kd f t, zDn σa kd f t = zDn σ kd f t := zDn_eq (ea 1 1 (by decide) (by decide) (by decide) (by decide)) (fun k => ea 2 k (by decide) (by decide) (by decide) (by decide)) (fun k => ea 42 k (by decide) (by decide) (by decide) (by decide))
    rw [uk 7 b (by omega), uk 8 b (by omega), zd, eu 11 _ (by omega) (by omega)]
    by_cases hb : b = σ 6 0
    · subst hb
      have := hr k k0 (by rw [en]; exact k1)
      rw [zda] at this
      exact this
    · rw [et 11 _ (by omega), ea 11 _ (by decide) (by decide) (by decide) (by decide), a7n b hb, a8n b hb]
      exact hC b k b0 (by omega) k0 k1
  have hR' : zIR υ := by
    obtain ⟨q1, q2, q3, q4⟩ := hR
    have u14 : υ 14 2 = σ 14 2 := e 14 2 (by omega) (by omega) (by decide) (by decide) (by decide) (by decide) (by decide)
    refine ⟨?_, by omega, by omega, fun k k0 k1 => ?_⟩
    · rw [u14, e 37 23 (by omega) (by omega) (by decide) (by decide) (by decide) (by decide) (by decide)]; exact q1
    · have := q4 k k0 (by omega)
      rw [e 49 k (by omega) (by omega) (by decide) (by decide) (by decide) (by decide) (by decide), e 50 k (by omega) (by omega) (by decide) (by decide) (by decide) (by decide) (by decide), e 51 k (by omega) (by omega) (by decide) (by decide) (by decide) (by decide) (by decide), e 52 k (by omega) (by omega) (by decide) (by decide) (by decide) (by decide) (by decide), e 15 k (by omega) (by omega) (by decide) (by decide) (by decide) (by decide) (by decide), e 16 k (by omega) (by omega) (by decide) (by decide) (by decide) (by decide) (by decide), e 17 k (by omega) (by omega) (by decide) (by decide) (by decide) (by decide) (by decide), e 18 k (by omega) (by omega) (by decide) (by decide) (by decide) (by decide) (by decide), e 1 2 (by omega) (by omega) (by decide) (by decide) (by decide) (by decide) (by decide), uk 6 0 (by omega), a6]
      omega
  refine ⟨o2, zIF_c hF ?_ ?_ ?_ ?_, zIL_c hL ?_ ?_ ?_ ?_ ?_, zIH_c hH ?_ ?_ ?_ ?_ ?_ ?_, zIB_c hB ?_ ?_ ?_, zIP_c hP ?_ ?_ ?_, zIE_c hE ?_ ?_, hN', hC', hR', zIS_c hS ?_ ?_ ?_ ?_⟩ <;> (intros; apply e <;> omega)
