/-! what the class's other calls leave -/
theorem zpl_1 {σ : zHp} {c : Nat} : zpl σ (c : Int) = 1 ↔ zt (σ 1 3) c = true := by
  rw [zpl_n]
  by_cases q : zt (σ 1 3) c = true
  · rw [if_pos q]; exact ⟨fun _ => q, fun _ => rfl⟩
  · rw [if_neg q]; exact ⟨fun h => absurd h (by decide), fun h => absurd h q⟩
/-- planted bits lie in the land: all that zIP says -/
theorem zIP_i {σ : zHp} (h : ∀ c : Nat, c < 32 → zt (σ 1 3) c = true → (c : Int) < σ 1 2) : zIP σ := by
  intro c hc
  by_cases q : zt (σ 1 3) c = true
  · rw [q, decide_eq_true ⟨h c hc q, zpl_1.mpr q⟩]
  · rw [Bool.eq_false_iff.mpr q, decide_eq_false (fun z => q (zpl_1.mp z.2))]
theorem c_fault (σ : zHp) : m_X8_fault [0] σ = some (σ 0 8, σ) := by
  simp only [e_X8_fault, d_X8_fault, xC_e, xL_e, xU_e, xB_e, xD_e, xF_e, xG_e, xA_e, xE_e, xH_e, xI_e, xZ_e, xK_e, aN_e, aC_e, cR_e, cV_e, cA_e, cO_e, cN_e, bs_e, bn_e, zg_0, zg_S, sS_e, sX_e, sF_e, sG_e, sA_e, sE_e, sEo_e, sK_e, sQ_e, sI_e, sR_e, sV_e, sB_e, sC_e, sD_e, sN_e, st_0, st_S, zc_0, zc_S]; rfl
theorem c_ofBell2 {σ : zHp} {b : Int} (h : 0 ≤ b ∧ b < σ 6 0) (hb6 : 0 ≤ b ∧ b < 6) : m_X8_ofBell [0, b, 2] σ = some (σ 9 b, σ) := by
  simp only [e_X8_ofBell, d_X8_ofBell, xC_e, xL_e, xU_e, xB_e, xD_e, xF_e, xG_e, xA_e, xE_e, xH_e, xI_e, xZ_e, xK_e, aN_e, aC_e, cR_e, cV_e, cA_e, cO_e, cN_e, bs_e, bn_e, zg_0, zg_S, sS_e, sX_e, sF_e, sG_e, sA_e, sE_e, sEo_e, sK_e, sQ_e, sI_e, sR_e, sV_e, sB_e, sC_e, sD_e, sN_e, st_0, st_S, zc_0, zc_S, r_eq, r_ne, r_lt, r_le, r_gt, r_ge, rb_ite, rb_0, rb_1, w_isBell]
  simp [h, xC_e, xL_e, xU_e, xB_e, xD_e, xF_e, xG_e, xA_e, xE_e, xH_e, xI_e, xZ_e, xK_e, aN_e, aC_e, cR_e, cV_e, cA_e, cO_e, cN_e, bs_e, bn_e, zg_0, zg_S, sS_e, sX_e, sF_e, sG_e, sA_e, sE_e, sEo_e, sK_e, sQ_e, sI_e, sR_e, sV_e, sB_e, sC_e, sD_e, sN_e, st_0, st_S, zc_0, zc_S, zpick, hb6]
theorem c_sheet {σ : zHp} {k s n : Int} (h : 0 ≤ k ∧ k < 4) (hs2 : 0 ≤ s ∧ s ≤ 2) (hn : 0 ≤ n ∧ n ≤ 60) : m_X8_sheet [0, k, s, n] σ = some (1, zfill (zput (zput (zput (zput σ 0 8 0) (29 + 2 * k) 1 1) (29 + 2 * k) 2 s) (29 + 2 * k) 3 n) (29 + 2 * k + 1) 0 60 0) := by
  have n6 : ¬ n > 60 := by omega
  have n0 : ¬ n < 0 := by omega
  simp [e_X8_sheet, d_X8_sheet, xC_e, xL_e, xU_e, xB_e, xD_e, xF_e, xG_e, xA_e, xE_e, xH_e, xI_e, xZ_e, xK_e, aN_e, aC_e, cR_e, cV_e, cA_e, cO_e, cN_e, bs_e, bn_e, zg_0, zg_S, sS_e, sX_e, sF_e, sG_e, sA_e, sE_e, sEo_e, sK_e, sQ_e, sI_e, sR_e, sV_e, sB_e, sC_e, sD_e, sN_e, st_0, st_S, zc_0, zc_S, r_eq, r_ne, r_lt, r_le, r_gt, r_ge, rb_ite, rb_0, rb_1, w_isSheet_t h, w_isSort_t hs2, n6, n0, h, e_X6_renew, d_X6_renew, w_fill60]
theorem c_put {σ : zHp} {k i v x : Int} (h : 0 ≤ k ∧ k < 4) (p1 : σ (29 + 2 * k) 1 = 1) (hi2 : 0 ≤ i ∧ i < σ (29 + 2 * k) 3) (q3 : σ (29 + 2 * k) 3 ≤ 60) (hx : (if σ (29 + 2 * k) 2 = 0 then zi2b v else if σ (29 + 2 * k) 2 = 1 then zi2s v else v) = x) : m_X8_put [0, k, i, v] σ = some (1, zput (zput σ 0 8 0) (29 + 2 * k + 1) i x) := by
  have z8 : ∀ (v a b : Int), a ≠ 0 → zput σ 0 8 v a b = σ a b := fun v a b h => zput_o h b
  have o0 : 29 + 2 * k ≠ 0 := by omega
  have i6 : 0 ≤ i ∧ i < 60 := by omega
  have w : ∀ τ : zHp, τ (29 + 2 * k) 3 = σ (29 + 2 * k) 3 → m_X6_hasNumber [29 + 2 * k, i] τ = some (1, τ) := fun τ h => w_hasNumber_t (by rw [h]; exact hi2)
  simp [e_X8_put, d_X8_put, xC_e, xL_e, xU_e, xB_e, xD_e, xF_e, xG_e, xA_e, xE_e, xH_e, xI_e, xZ_e, xK_e, aN_e, aC_e, cR_e, cV_e, cA_e, cO_e, cN_e, bs_e, bn_e, zg_0, zg_S, sS_e, sX_e, sF_e, sG_e, sA_e, sE_e, sEo_e, sK_e, sQ_e, sI_e, sR_e, sV_e, sB_e, sC_e, sD_e, sN_e, st_0, st_S, zc_0, zc_S, r_eq, r_ne, r_lt, r_le, r_gt, r_ge, rb_ite, rb_0, rb_1, w_isSheet_t h, h, z8 _ _ _ o0, p1, w_cut, w, i6, hx]
theorem c_ear {σ : zHp} (hI : zInv σ) {v : Int} (hv : 0 ≤ v ∧ v ≤ 99) (hc : ¬ σ 1 2 = 0) : m_X8_ear [0, v] σ = some (σ 10 2, zput σ 10 2 v) ∧ zInv (zput σ 10 2 v) := by
  have q1 : ¬ v < 0 := by omega
  have q2 : ¬ v > 99 := by omega
  have h1 : m_X8_ear [0, v] σ = some (σ 10 2, zput σ 10 2 v) := by simp [e_X8_ear, d_X8_ear, xC_e, xL_e, xU_e, xB_e, xD_e, xF_e, xG_e, xA_e, xE_e, xH_e, xI_e, xZ_e, xK_e, aN_e, aC_e, cR_e, cV_e, cA_e, cO_e, cN_e, bs_e, bn_e, zg_0, zg_S, sS_e, sX_e, sF_e, sG_e, sA_e, sE_e, sEo_e, sK_e, sQ_e, sI_e, sR_e, sV_e, sB_e, sC_e, sD_e, sN_e, st_0, st_S, zc_0, zc_S, r_eq, r_ne, r_lt, r_le, r_gt, r_ge, rb_ite, rb_0, rb_1, q1, q2, hc]
  refine ⟨h1, ?_⟩
  have ho : zOk (zput σ 10 2 v) := zOk_of k_X8_ear hI.1 h1 ⟨zthis, ⟨by omega, by omega⟩, trivial⟩
  have e : ∀ a b : Int, ¬ (a = 10 ∧ b = 2) → zput σ 10 2 v a b = σ a b := fun a b h => zput_n h
  obtain ⟨-, hF, hL, hH, hB, hP, hE, hN, hC, hR, hS⟩ := hI
  refine ⟨ho, trivial, zIL_c hL (e 1 0 (by decide)) (e 1 1 (by decide)) (e 1 2 (by decide)) (e 1 0 (by decide)) (e 1 1 (by decide)), zIH_c hH (e 1 1 (by decide)) (e 1 2 (by decide)) (fun k => e 2 k (by omega)) (fun k => e 3 k (by omega)) (fun k => e 4 k (by omega)) (fun k => e 2 k (by omega)), zIB_c hB (e 1 2 (by decide)) (fun k => e 2 k (by omega)) (fun k => e 5 k (by omega)), zIP_c hP (e 1 2 (by decide)) (e 1 3 (by decide)) (zpl_c (e 1 3 (by decide))), ⟨rfl, by rw [zput_self]; exact hv.1, by rw [zput_self]; exact hv.2⟩, zIN_c hN (e 6 0 (by decide)) (e 6 0 (by decide)) (e 1 2 (by decide)) (fun k => e 7 k (by omega)) (fun k => e 8 k (by omega)) (fun k => e 9 k (by omega)) (fun k => e 7 k (by omega)) (fun k => e 8 k (by omega)) (fun k => e 9 k (by omega)), zIC_c hC (e 1 1 (by decide)) (e 1 2 (by decide)) (e 6 0 (by decide)) (fun k => e 2 k (by omega)) (fun k => e 7 k (by omega)) (fun k => e 8 k (by omega)) (fun k => e 11 k (by omega)) (zpl_c (e 1 3 (by decide))), trivial, zIS_c hS (fun o h1 h2 => e o 3 (by omega))⟩
theorem c_bell {σ : zHp} (hI : zInv σ) {kd c w : Int} (gk : 0 ≤ kd ∧ kd ≤ 2) (g1 : 0 ≤ c ∧ c < σ 1 2) (gw : 1 ≤ w ∧ w ≤ 99) (n6 : σ 6 0 < 6) :
    ∃ τ, m_X8_bell [0, kd, c, w] σ = some (σ 6 0, τ) ∧ zInv τ ∧ (∀ a b : Int, a ≠ 11 → a ≠ 7 → a ≠ 8 → a ≠ 9 → a ≠ 6 → τ a b = σ a b) ∧ τ 6 0 = σ 6 0 + 1 ∧ (τ 7 (σ 6 0) = kd ∧ τ 8 (σ 6 0) = c ∧ τ 9 (σ 6 0) = w) ∧ ∀ b : Int, b ≠ σ 6 0 → τ 7 b = σ 7 b ∧ τ 8 b = σ 8 b ∧ τ 9 b = σ 9 b := by
  have hI0 := hI.1
  obtain ⟨-, hF, hL, hH, hB, hP, hE, hN, hC, hR, hS⟩ := hI
  have nN := zN_eq hL
  obtain ⟨m1, m2, m3, m4⟩ := hN
  have nb : 0 ≤ σ 6 0 ∧ σ 6 0 < 6 := by omega
  have n6' : ¬ σ 6 0 ≥ 6 := by omega
  have e1 : o_iadd (σ 6 0) 1 = σ 6 0 + 1 := w32_id ⟨by omega, by omega⟩
  have e2 : o_isub (σ 6 0 + 1) 1 = σ 6 0 := by
    have : o_isub (σ 6 0 + 1) 1 = σ 6 0 + 1 - 1 := w32_id ⟨by omega, by omega⟩
    omega
  have ad : m_X1_add [6, kd, c, w] σ = some (σ 6 0, zput (zput (zput (zput σ 7 (σ 6 0) kd) 8 (σ 6 0) c) 9 (σ 6 0) w) 6 0 (σ 6 0 + 1)) := by
    simp [e_X1_add, d_X1_add, xC_e, xL_e, xU_e, xB_e, xD_e, xF_e, xG_e, xA_e, xE_e, xH_e, xI_e, xZ_e, xK_e, aN_e, aC_e, cR_e, cV_e, cA_e, cO_e, cN_e, bs_e, bn_e, zg_0, zg_S, sS_e, sX_e, sF_e, sG_e, sA_e, sE_e, sEo_e, sK_e, sQ_e, sI_e, sR_e, sV_e, sB_e, sC_e, sD_e, sN_e, st_0, st_S, zc_0, zc_S, nb, e1, e2]
  generalize ha1 : zput (zput (zput (zput σ 7 (σ 6 0) kd) 8 (σ 6 0) c) 9 (σ 6 0) w) 6 0 (σ 6 0 + 1) = σa at ad
  have ea : ∀ a b, a ≠ 7 → a ≠ 8 → a ≠ 9 → a ≠ 6 → σa a b = σ a b := fun a b q1 q2 q3 q4 => by
    rw [← ha1, zput_o q4, zput_o q3, zput_o q2, zput_o q1]
  have a7 : σa 7 (σ 6 0) = kd := by rw [← ha1, zput_o (by decide), zput_o (by decide), zput_o (by decide), zput_self]
  have a8 : σa 8 (σ 6 0) = c := by rw [← ha1, zput_o (by decide), zput_o (by decide), zput_self]
  have a9 : σa 9 (σ 6 0) = w := by rw [← ha1, zput_o (by decide), zput_self]
  have a6 : σa 6 0 = σ 6 0 + 1 := by rw [← ha1, zput_self]
  have a7n : ∀ b, b ≠ σ 6 0 → σa 7 b = σ 7 b := fun b hb => by rw [← ha1, zput_o (by decide), zput_o (by decide), zput_o (by decide), zput_i hb]
  have a8n : ∀ b, b ≠ σ 6 0 → σa 8 b = σ 8 b := fun b hb => by rw [← ha1, zput_o (by decide), zput_o (by decide), zput_i hb, zput_o (by decide)]
  have a9n : ∀ b, b ≠ σ 6 0 → σa 9 b = σ 9 b := fun b hb => by rw [← ha1, zput_o (by decide), zput_i hb, zput_o (by decide), zput_o (by decide)]
  have ea' : ∀ a b, a = 1 ∨ a = 2 ∨ a = 3 ∨ a = 4 ∨ a = 5 → σa a b = σ a b := fun a b h => ea a b (by omega) (by omega) (by omega) (by omega)
  have hLa : zIL σa := zIL_c hL (ea' 1 0 (by omega)) (ea' 1 1 (by omega)) (ea' 1 2 (by omega)) (ea' 1 0 (by omega)) (ea' 1 1 (by omega))
  have hHa : zIH σa := zIH_c hH (ea' 1 1 (by omega)) (ea' 1 2 (by omega)) (fun k => ea' 2 k (by omega)) (fun k => ea' 3 k (by omega)) (fun k => ea' 4 k (by omega)) (fun k => ea' 2 k (by omega))
  have hBa : zIB σa := zIB_c hB (ea' 1 2 (by omega)) (fun k => ea' 2 k (by omega)) (fun k => ea' 5 k (by omega))
  have hPa : zIP σa := zIP_c hP (ea' 1 2 (by omega)) (ea' 1 3 (by omega)) (zpl_c (ea' 1 3 (by omega)))
  have en : σa 1 2 = σ 1 2 := ea' 1 2 (by omega)
  obtain ⟨τ, ht, tr⟩ := w_carry (ρ := σa) hLa hHa hBa rfl (fun _ => rfl) hPa nb (by rw [a7]; exact gk) (by rw [a8, en]; exact g1)
  obtain ⟨et, hr⟩ := tr
  have h1 : m_X8_bell [0, kd, c, w] σ = some (σ 6 0, τ) := by
    simp [e_X8_bell, d_X8_bell, xC_e, xL_e, xU_e, xB_e, xD_e, xF_e, xG_e, xA_e, xE_e, xH_e, xI_e, xZ_e, xK_e, aN_e, aC_e, cR_e, cV_e, cA_e, cO_e, cN_e, bs_e, bn_e, zg_0, zg_S, sS_e, sX_e, sF_e, sG_e, sA_e, sE_e, sEo_e, sK_e, sQ_e, sI_e, sR_e, sV_e, sB_e, sC_e, sD_e, sN_e, st_0, st_S, zc_0, zc_S, r_eq, r_ne, r_lt, r_le, r_gt, r_ge, rb_ite, rb_0, rb_1, w_isCell_t g1, w_isKind_t gk, w_isWeight_t gw, n6', ad, ht]
  have o1 := zOk_of k_X8_bell hI0 h1 ⟨zthis, ⟨by omega, by omega⟩, ⟨by have := zN_eq hL; omega, by have := zN_eq hL; omega⟩, ⟨by omega, by omega⟩, trivial⟩
  have e : ∀ a b, a ≠ 11 → a ≠ 7 → a ≠ 8 → a ≠ 9 → a ≠ 6 → τ a b = σ a b := fun a b q3 q4 q5 q6 q7 => by
    rw [et a b (by omega), ea a b q4 q5 q6 q7]
  have uk : ∀ a b, a ≠ 11 → τ a b = σa a b := fun a b q => et a b (by omega)
  have u1 : ∀ a b, a = 1 ∨ a = 2 ∨ a = 3 ∨ a = 4 ∨ a = 5 ∨ a = 10 ∨ (29 ≤ a ∧ a ≤ 36) → τ a b = σ a b := fun a b h => e a b (by omega) (by omega) (by omega) (by omega) (by omega)
  refine ⟨τ, h1, ⟨o1, trivial, zIL_c hL (u1 1 0 (by omega)) (u1 1 1 (by omega)) (u1 1 2 (by omega)) (u1 1 0 (by omega)) (u1 1 1 (by omega)), zIH_c hH (u1 1 1 (by omega)) (u1 1 2 (by omega)) (fun k => u1 2 k (by omega)) (fun k => u1 3 k (by omega)) (fun k => u1 4 k (by omega)) (fun k => u1 2 k (by omega)), zIB_c hB (u1 1 2 (by omega)) (fun k => u1 2 k (by omega)) (fun k => u1 5 k (by omega)), zIP_c hP (u1 1 2 (by omega)) (u1 1 3 (by omega)) (zpl_c (u1 1 3 (by omega))), zIE_c hE (u1 10 2 (by omega)) (u1 10 2 (by omega)), ?_, ?_, trivial, zIS_c hS (fun o h1 h2 => u1 o 3 (by omega))⟩, e, ?_, ⟨?_, ?_, ?_⟩, fun b hb => ⟨?_, ?_, ?_⟩⟩
  · have u6 : τ 6 0 = σ 6 0 + 1 := by rw [uk 6 0 (by decide), a6]
    refine ⟨rfl, by omega, by omega, fun b b0 b1 => ?_⟩
    rw [u6] at b1
    rw [u1 1 2 (by omega), uk 7 b (by decide), uk 8 b (by decide), uk 9 b (by decide)]
    by_cases hb : b = σ 6 0
    · subst hb
      rw [a7, a8, a9]
      exact ⟨⟨rfl, gk⟩, ⟨rfl, g1⟩, ⟨rfl, gw⟩⟩
    · rw [a7n b hb, a8n b hb, a9n b hb]
      exact m4 b b0 (by omega)
  · intro b k b0 b1 k0 k1
    rw [uk 6 0 (by decide), a6] at b1
    rw [u1 1 2 (by omega)] at k1
    have zd : ∀ kd f t, zDn τ kd f t = zDn σ kd f t := zDn_eq (u1 1 1 (by omega)) (fun k => u1 2 k (by omega)) (zpl_c (u1 1 3 (by omega)))
    have zda : ∀ kd f t, zDn σa kd f t = zDn σ kd f t := zDn_eq (ea' 1 1 (by omega)) (fun k => ea' 2 k (by omega)) (zpl_c (ea' 1 3 (by omega)))
    rw [uk 7 b (by decide), uk 8 b (by decide), zd]
    by_cases hb : b = σ 6 0
    · subst hb
      have := hr k k0 (by rw [en]; exact k1)
      rw [zda] at this
      exact this
    · rw [et 11 _ (by omega), ea 11 _ (by decide) (by decide) (by decide) (by decide), a7n b hb, a8n b hb]
      exact hC b k b0 (by omega) k0 k1
  · rw [uk 6 0 (by decide), a6]
  · rw [uk 7 _ (by decide), a7]
  · rw [uk 8 _ (by decide), a8]
  · rw [uk 9 _ (by decide), a9]
  · rw [uk 7 _ (by decide), a7n b hb]
  · rw [uk 8 _ (by decide), a8n b hb]
  · rw [uk 9 _ (by decide), a9n b hb]
theorem c_plant1 {σ : zHp} (hI : zInv σ) {c : Int} (g1 : 0 ≤ c ∧ c < σ 1 2) (q : zpl σ c = 1) : m_X8_plant [0, c, 1] σ = some (0, σ) := by
  have nN := zN_eq hI.2.2.1
  have wp : m_X3_isPlanted [1, c] σ = some (1, σ) := by rw [w_isPlanted hI.2.2.2.2.2.1 nN.2.2 g1, if_pos q]
  simp [e_X8_plant, d_X8_plant, xC_e, xL_e, xU_e, xB_e, xD_e, xF_e, xG_e, xA_e, xE_e, xH_e, xI_e, xZ_e, xK_e, aN_e, aC_e, cR_e, cV_e, cA_e, cO_e, cN_e, bs_e, bn_e, zg_0, zg_S, sS_e, sX_e, sF_e, sG_e, sA_e, sE_e, sEo_e, sK_e, sQ_e, sI_e, sR_e, sV_e, sB_e, sC_e, sD_e, sN_e, st_0, st_S, zc_0, zc_S, r_eq, r_ne, r_lt, r_le, r_gt, r_ge, rb_ite, rb_0, rb_1, w_isCell_t g1, wp]
theorem c_plant0 {σ : zHp} (hI : zInv σ) {c : Int} (g1 : 0 ≤ c ∧ c < σ 1 2) (q : ¬ zpl σ c = 1) :
    ∃ τ, m_X8_plant [0, c, 1] σ = some (1, τ) ∧ zInv τ ∧ (∀ a b : Int, a ≠ 11 → ¬ (a = 1 ∧ b = 3) → τ a b = σ a b) ∧ τ 1 3 = zOr (σ 1 3) (zShl 1 c) := by
  have hI0 := hI.1
  obtain ⟨-, hF, hL, hH, hB, hP, hE, hN, hC, hR, hS⟩ := hI
  have nN := zN_eq hL
  have c32 : 0 ≤ c ∧ c < 32 := by omega
  have c30 : 0 ≤ c ∧ c < 30 := by omega
  have wp : m_X3_isPlanted [1, c] σ = some (0, σ) := by rw [w_isPlanted hP nN.2.2 g1, if_neg q]
  have bit : zt (σ 1 3) c.toNat = false := by
    rw [Bool.eq_false_iff]
    intro z
    refine q ?_
    unfold zpl
    rw [if_pos z]
  have hx0 : zXor (σ 1 3) (zShl 1 c) = zOr (σ 1 3) (zShl 1 c) := by
    refine zt_ext (z32_rt _) (z32_rt _) (fun i hi => ?_)
    rw [zt_xor, zt_or, zt_bit_i c32]
    by_cases ic : (i : Int) = c
    · have : i = c.toNat := by omega
      rw [this, bit]
      simp
    · rw [decide_eq_false ic, Bool.xor_false, Bool.or_false]
  generalize hx : zXor (σ 1 3) (zShl 1 c) = x at hx0
  generalize hσ : zput σ 1 3 x = σa
  have ea : ∀ a b, ¬ (a = 1 ∧ b = 3) → σa a b = σ a b := fun a b z => by rw [← hσ, zput_n z]
  have a13 : σa 1 3 = x := by rw [← hσ, zput_self]
  have hLa : zIL σa := zIL_c hL (ea 1 0 (by omega)) (ea 1 1 (by omega)) (ea 1 2 (by omega)) (ea 1 0 (by omega)) (ea 1 1 (by omega))
  have hHa : zIH σa := zIH_c hH (ea 1 1 (by omega)) (ea 1 2 (by omega)) (fun k => ea 2 k (by omega)) (fun k => ea 3 k (by omega)) (fun k => ea 4 k (by omega)) (fun k => ea 2 k (by omega))
  have hBa : zIB σa := zIB_c hB (ea 1 2 (by omega)) (fun k => ea 2 k (by omega)) (fun k => ea 5 k (by omega))
  have hPa : zIP σa := zIP_i (fun i hi h => by
    rw [a13, ← hx, zt_xor, zt_bit_i c32, hP i hi] at h
    rw [ea 1 2 (by omega)]
    by_cases ic : (i : Int) = c
    · rw [ic]; exact g1.2
    · rw [decide_eq_false ic, Bool.xor_false] at h
      exact (of_decide_eq_true h).1)
  obtain ⟨τ, ht, et, hr⟩ := w_carryAll (σ := σa) (ρ := σa) hLa hHa hBa rfl (fun k => rfl) hPa (by rw [ea 6 0 (by omega)]; exact ⟨hN.2.1, hN.2.2.1⟩) (fun b b0 b1 => by
    rw [ea 6 0 (by omega)] at b1
    rw [ea 7 b (by omega), ea 8 b (by omega), ea 1 2 (by omega)]
    obtain ⟨n1, n2, n3⟩ := hN.2.2.2 b b0 b1
    exact ⟨n1.2, n2.2⟩)
  have h1 : m_X8_plant [0, c, 1] σ = some (1, τ) := by
    simp [e_X8_plant, d_X8_plant, xC_e, xL_e, xU_e, xB_e, xD_e, xF_e, xG_e, xA_e, xE_e, xH_e, xI_e, xZ_e, xK_e, aN_e, aC_e, cR_e, cV_e, cA_e, cO_e, cN_e, bs_e, bn_e, zg_0, zg_S, sS_e, sX_e, sF_e, sG_e, sA_e, sE_e, sEo_e, sK_e, sQ_e, sI_e, sR_e, sV_e, sB_e, sC_e, sD_e, sN_e, st_0, st_S, zc_0, zc_S, r_eq, r_ne, r_lt, r_le, r_gt, r_ge, rb_ite, rb_0, rb_1, w_isCell_t g1, wp, hx, hσ, ht]
  have o1 := zOk_of k_X8_plant hI0 h1 ⟨zthis, ⟨by omega, by omega⟩, Or.inr rfl, trivial⟩
  have e : ∀ a b, a ≠ 11 → ¬ (a = 1 ∧ b = 3) → τ a b = σ a b := fun a b q2 q3 => by rw [et a b (by omega), ea a b q3]
  have t13 : τ 1 3 = x := by rw [et 1 3 (by omega), a13]
  have t13a : τ 1 3 = σa 1 3 := by rw [t13, a13]
  refine ⟨τ, h1, ⟨o1, trivial, zIL_c hL (e 1 0 (by decide) (by omega)) (e 1 1 (by decide) (by omega)) (e 1 2 (by decide) (by omega)) (e 1 0 (by decide) (by omega)) (e 1 1 (by decide) (by omega)), zIH_c hH (e 1 1 (by decide) (by omega)) (e 1 2 (by decide) (by omega)) (fun k => e 2 k (by decide) (by omega)) (fun k => e 3 k (by decide) (by omega)) (fun k => e 4 k (by decide) (by omega)) (fun k => e 2 k (by decide) (by omega)), zIB_c hB (e 1 2 (by decide) (by omega)) (fun k => e 2 k (by decide) (by omega)) (fun k => e 5 k (by decide) (by omega)), ?_, zIE_c hE (e 10 2 (by decide) (by omega)) (e 10 2 (by decide) (by omega)), zIN_c hN (e 6 0 (by decide) (by omega)) (e 6 0 (by decide) (by omega)) (e 1 2 (by decide) (by omega)) (fun k => e 7 k (by decide) (by omega)) (fun k => e 8 k (by decide) (by omega)) (fun k => e 9 k (by decide) (by omega)) (fun k => e 7 k (by decide) (by omega)) (fun k => e 8 k (by decide) (by omega)) (fun k => e 9 k (by decide) (by omega)), ?_, trivial, zIS_c hS (fun o h1 h2 => e o 3 (by omega) (by omega))⟩, e, by rw [t13, hx0]⟩
  · exact zIP_c hPa (by rw [e 1 2 (by decide) (by omega), ea 1 2 (by omega)]) t13a (zpl_c t13a)
  · intro b k b0 b1 k0 k1
    rw [e 6 0 (by decide) (by omega)] at b1
    rw [e 1 2 (by decide) (by omega)] at k1
    have := hr b k b0 (by rw [ea 6 0 (by omega)]; exact b1) k0 (by rw [ea 1 2 (by omega)]; exact k1)
    rw [ea 7 b (by omega), ea 8 b (by omega)] at this
    have zd : ∀ kd f t, zDn τ kd f t = zDn σa kd f t := zDn_eq (by rw [e 1 1 (by decide) (by omega), ea 1 1 (by omega)]) (fun k => by rw [e 2 k (by decide) (by omega), ea 2 k (by omega)]) (zpl_c t13a)
    rw [e 7 b (by decide) (by omega), e 8 b (by decide) (by omega), zd]
    exact this
