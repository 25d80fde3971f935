theorem zOk_of {y : MethodName} {ws : List Cond} {fr lo rt : Nat} {tys : List Nat} {m : List Int → zHp → Option (Int × zHp)} (k : zCon y ws fr lo tys rt m) {xs : List Int} {σ τ : zHp} {r : Int} (ho : zOk σ) (h : m xs σ = some (r, τ)) (ha : zOkA tys xs) : zOk τ := (k.1 xs σ r τ ho ha h).2
theorem zthis : inR 10 0 := ⟨rfl, by decide, by decide⟩
theorem zthat : inR 47 37 := ⟨rfl, by decide, by decide⟩
/-- a pair of calls that write scratch places alone -/
theorem zq {f g : List Int → zHp → Option (Int × zHp)} {as : List Int} {σ σ1 σ2 : zHp} {r : Int} {y1 y2 : MethodName} {w1 w2 : List Cond} {fr1 lo1 rt1 fr2 lo2 rt2 : Nat} {ts : List Nat} (k1 : zCon y1 w1 fr1 lo1 (10 :: ts) rt1 f) (k2 : zCon y2 w2 fr2 lo2 (47 :: ts) rt2 g) (hI : zInv σ) (ha : zOkA ts as)
    (h1 : f (0 :: as) σ = some (r, σ1)) (h2 : g (37 :: as) σ1 = some (r, σ2)) (s1 : zSame σ σ1) (s2 : zSame σ1 σ2) : ∃ r σ1 σ2, f (0 :: as) σ = some (r, σ1) ∧ g (37 :: as) σ1 = some (r, σ2) ∧ zInv σ2 :=
  have o1 := zOk_of k1 hI.1 h1 ⟨zthis, ha⟩
  have o2 := zOk_of k2 o1 h2 ⟨zthat, ha⟩
  ⟨r, σ1, σ2, h1, h2, zInv_same o2 (s1.tr s2) hI⟩
theorem zp32 : zp_32 zInv := by
  intro σ hI
  refine zq k_X8_trace k_X9_trace hI trivial (r := σ 0 9) (σ1 := σ) (σ2 := σ) ?_ ?_ (zSame.rf σ) (zSame.rf σ)
  · simp only [e_X8_trace, d_X8_trace, xC_e, xL_e, xU_e, xB_e, xD_e, xF_e, xG_e, xA_e, xE_e, xH_e, xI_e, xZ_e, xK_e, aN_e, aC_e, cR_e, cV_e, cA_e, cO_e, cN_e, bs_e, bn_e, zg_0, zg_S, sS_e, sX_e, sF_e, sG_e, sA_e, sE_e, sEo_e, sK_e, sQ_e, sI_e, sR_e, sV_e, sB_e, sC_e, sD_e, sN_e, sP_e, sY_e, st_0, st_S, zc_0, zc_S]; rfl
  · simp only [e_X9_trace, d_X9_trace, xC_e, xL_e, xU_e, xB_e, xD_e, xF_e, xG_e, xA_e, xE_e, xH_e, xI_e, xZ_e, xK_e, aN_e, aC_e, cR_e, cV_e, cA_e, cO_e, cN_e, bs_e, bn_e, zg_0, zg_S, sS_e, sX_e, sF_e, sG_e, sA_e, sE_e, sEo_e, sK_e, sQ_e, sI_e, sR_e, sV_e, sB_e, sC_e, sD_e, sN_e, sP_e, sY_e, st_0, st_S, zc_0, zc_S]
    rw [hI.2.1.2]; rfl
theorem zp33 : zp_33 zInv := by
  intro σ hI
  refine zq k_X8_fault k_X9_fault hI trivial (r := σ 0 8) (σ1 := σ) (σ2 := σ) ?_ ?_ (zSame.rf σ) (zSame.rf σ)
  · simp only [e_X8_fault, d_X8_fault, xC_e, xL_e, xU_e, xB_e, xD_e, xF_e, xG_e, xA_e, xE_e, xH_e, xI_e, xZ_e, xK_e, aN_e, aC_e, cR_e, cV_e, cA_e, cO_e, cN_e, bs_e, bn_e, zg_0, zg_S, sS_e, sX_e, sF_e, sG_e, sA_e, sE_e, sEo_e, sK_e, sQ_e, sI_e, sR_e, sV_e, sB_e, sC_e, sD_e, sN_e, sP_e, sY_e, st_0, st_S, zc_0, zc_S]; rfl
  · simp only [e_X9_fault, d_X9_fault, xC_e, xL_e, xU_e, xB_e, xD_e, xF_e, xG_e, xA_e, xE_e, xH_e, xI_e, xZ_e, xK_e, aN_e, aC_e, cR_e, cV_e, cA_e, cO_e, cN_e, bs_e, bn_e, zg_0, zg_S, sS_e, sX_e, sF_e, sG_e, sA_e, sE_e, sEo_e, sK_e, sQ_e, sI_e, sR_e, sV_e, sB_e, sC_e, sD_e, sN_e, sP_e, sY_e, st_0, st_S, zc_0, zc_S]
    rw [hI.2.1.1]; rfl
/-- once places are named that change, the rest as zInv wants it -/
theorem zInv_ear {σ τ : zHp} {v : Int} (ho : zOk τ) (hv : 0 ≤ v ∧ v ≤ 99) (h : zInv σ) (e : ∀ a b : Int, ¬ (a = 10 ∧ b = 2) → ¬ (a = 37 ∧ b = 7) → τ a b = σ a b) (e1 : τ 10 2 = v) (e2 : τ 37 7 = v) : zInv τ := by
  obtain ⟨-, hF, hL, hH, hB, hP, hE, hN, hC, hR, hS⟩ := h
  have E : ∀ a : Int, a ≠ 10 → a ≠ 37 → ∀ b, τ a b = σ a b := fun a h1 h2 b => e a b (by omega) (by omega)
  refine ⟨ho, zIF_c hF (E 0 (by decide) (by decide) 8) (E 0 (by decide) (by decide) 9) (e 37 0 (by decide) (by decide)) (e 37 1 (by decide) (by decide)), zIL_c hL (E 1 (by decide) (by decide) 0) (E 1 (by decide) (by decide) 1) (E 1 (by decide) (by decide) 2) (e 37 5 (by decide) (by decide)) (e 37 6 (by decide) (by decide)), zIH_c hH (E 1 (by decide) (by decide) 1) (E 1 (by decide) (by decide) 2) (E 2 (by decide) (by decide)) (E 3 (by decide) (by decide)) (E 4 (by decide) (by decide)) (E 41 (by decide) (by decide)),
    zIB_c hB (E 1 (by decide) (by decide) 2) (E 2 (by decide) (by decide)) (E 5 (by decide) (by decide)), zIP_c hP (E 1 (by decide) (by decide) 2) (E 1 (by decide) (by decide) 3) (E 42 (by decide) (by decide)), ?_, zIN_c hN (e 37 14 (by decide) (by decide)) (E 6 (by decide) (by decide) 0) (E 1 (by decide) (by decide) 2) (E 7 (by decide) (by decide)) (E 8 (by decide) (by decide)) (E 9 (by decide) (by decide)) (E 44 (by decide) (by decide)) (E 45 (by decide) (by decide)) (E 46 (by decide) (by decide)),
    zIC_c hC (E 1 (by decide) (by decide) 1) (E 1 (by decide) (by decide) 2) (E 6 (by decide) (by decide) 0) (E 2 (by decide) (by decide)) (E 7 (by decide) (by decide)) (E 8 (by decide) (by decide)) (E 11 (by decide) (by decide)) (E 42 (by decide) (by decide)),
    zIR_c hR (e 37 23 (by decide) (by decide)) (E 14 (by decide) (by decide) 2) (E 1 (by decide) (by decide) 2) (E 6 (by decide) (by decide) 0) (E 15 (by decide) (by decide)) (E 16 (by decide) (by decide)) (E 17 (by decide) (by decide)) (E 18 (by decide) (by decide)) (E 49 (by decide) (by decide)) (E 50 (by decide) (by decide)) (E 51 (by decide) (by decide)) (E 52 (by decide) (by decide)), zIS_c hS (fun o k h1 h2 => E o (by omega) (by omega) k) (E 38 (by decide) (by decide)) (E 39 (by decide) (by decide)) (E 40 (by decide) (by decide))⟩
  exact ⟨by rw [e1, e2], by rw [e1]; exact hv.1, by rw [e1]; exact hv.2⟩
theorem zp3 : zp_3 zInv := by
  intro v hv σ hI
  have hN := zN_eq hI.2.2.1
  by_cases hr : v < 0 ∨ v > 99
  · refine zq (ts := [0]) k_X8_ear k_X9_ear hI ⟨hv, trivial⟩ (r := -2) (σ1 := σ) (σ2 := σ) ?_ ?_ (zSame.rf σ) (zSame.rf σ)
    · simp only [e_X8_ear, d_X8_ear, xC_e, xL_e, xU_e, xB_e, xD_e, xF_e, xG_e, xA_e, xE_e, xH_e, xI_e, xZ_e, xK_e, aN_e, aC_e, cR_e, cV_e, cA_e, cO_e, cN_e, bs_e, bn_e, zg_0, zg_S, sS_e, sX_e, sF_e, sG_e, sA_e, sE_e, sEo_e, sK_e, sQ_e, sI_e, sR_e, sV_e, sB_e, sC_e, sD_e, sN_e, sP_e, sY_e, st_0, st_S, zc_0, zc_S, r_eq, r_ne, r_lt, r_le, r_gt, r_ge, rb_ite, rb_0, rb_1]
      by_cases h : v < 0
      · simp [h, xC_e, xL_e, xU_e, xB_e, xD_e, xF_e, xG_e, xA_e, xE_e, xH_e, xI_e, xZ_e, xK_e, aN_e, aC_e, cR_e, cV_e, cA_e, cO_e, cN_e, bs_e, bn_e, zg_0, zg_S, sS_e, sX_e, sF_e, sG_e, sA_e, sE_e, sEo_e, sK_e, sQ_e, sI_e, sR_e, sV_e, sB_e, sC_e, sD_e, sN_e, sP_e, sY_e, st_0, st_S, zc_0, zc_S]
      · have h2 : v > 99 := by omega
        simp [h, h2, xC_e, xL_e, xU_e, xB_e, xD_e, xF_e, xG_e, xA_e, xE_e, xH_e, xI_e, xZ_e, xK_e, aN_e, aC_e, cR_e, cV_e, cA_e, cO_e, cN_e, bs_e, bn_e, zg_0, zg_S, sS_e, sX_e, sF_e, sG_e, sA_e, sE_e, sEo_e, sK_e, sQ_e, sI_e, sR_e, sV_e, sB_e, sC_e, sD_e, sN_e, sP_e, sY_e, st_0, st_S, zc_0, zc_S]
    · have h3 : ¬ (0 ≤ v ∧ v ≤ 99) := by omega
      simp [e_X9_ear, d_X9_ear, xC_e, xL_e, xU_e, xB_e, xD_e, xF_e, xG_e, xA_e, xE_e, xH_e, xI_e, xZ_e, xK_e, aN_e, aC_e, cR_e, cV_e, cA_e, cO_e, cN_e, bs_e, bn_e, zg_0, zg_S, sS_e, sX_e, sF_e, sG_e, sA_e, sE_e, sEo_e, sK_e, sQ_e, sI_e, sR_e, sV_e, sB_e, sC_e, sD_e, sN_e, sP_e, sY_e, st_0, st_S, zc_0, zc_S, r_eq, r_ne, r_lt, r_le, r_gt, r_ge, rb_ite, rb_0, rb_1, v_within, h3]
  · have h3 : 0 ≤ v ∧ v ≤ 99 := by omega
    by_cases hc : σ 1 2 = 0
    · refine zq (ts := [0]) k_X8_ear k_X9_ear hI ⟨hv, trivial⟩ (r := -3) (σ1 := σ) (σ2 := σ) ?_ ?_ (zSame.rf σ) (zSame.rf σ)
      · have q1 : ¬ v < 0 := by omega
        have q2 : ¬ v > 99 := by omega
        simp [e_X8_ear, d_X8_ear, xC_e, xL_e, xU_e, xB_e, xD_e, xF_e, xG_e, xA_e, xE_e, xH_e, xI_e, xZ_e, xK_e, aN_e, aC_e, cR_e, cV_e, cA_e, cO_e, cN_e, bs_e, bn_e, zg_0, zg_S, sS_e, sX_e, sF_e, sG_e, sA_e, sE_e, sEo_e, sK_e, sQ_e, sI_e, sR_e, sV_e, sB_e, sC_e, sD_e, sN_e, sP_e, sY_e, st_0, st_S, zc_0, zc_S, r_eq, r_ne, r_lt, r_le, r_gt, r_ge, rb_ite, rb_0, rb_1, q1, q2, hc]
      · simp [e_X9_ear, d_X9_ear, xC_e, xL_e, xU_e, xB_e, xD_e, xF_e, xG_e, xA_e, xE_e, xH_e, xI_e, xZ_e, xK_e, aN_e, aC_e, cR_e, cV_e, cA_e, cO_e, cN_e, bs_e, bn_e, zg_0, zg_S, sS_e, sX_e, sF_e, sG_e, sA_e, sE_e, sEo_e, sK_e, sQ_e, sI_e, sR_e, sV_e, sB_e, sC_e, sD_e, sN_e, sP_e, sY_e, st_0, st_S, zc_0, zc_S, r_eq, r_ne, r_lt, r_le, r_gt, r_ge, rb_ite, rb_0, rb_1, v_within, h3, v_all, hN.1, hc]
    · have h1 : m_X8_ear [0, v] σ = some (σ 10 2, zput σ 10 2 v) := by
        have q1 : ¬ v < 0 := by omega
        have q2 : ¬ v > 99 := by omega
        simp [e_X8_ear, d_X8_ear, xC_e, xL_e, xU_e, xB_e, xD_e, xF_e, xG_e, xA_e, xE_e, xH_e, xI_e, xZ_e, xK_e, aN_e, aC_e, cR_e, cV_e, cA_e, cO_e, cN_e, bs_e, bn_e, zg_0, zg_S, sS_e, sX_e, sF_e, sG_e, sA_e, sE_e, sEo_e, sK_e, sQ_e, sI_e, sR_e, sV_e, sB_e, sC_e, sD_e, sN_e, sP_e, sY_e, st_0, st_S, zc_0, zc_S, r_eq, r_ne, r_lt, r_le, r_gt, r_ge, rb_ite, rb_0, rb_1, q1, q2, hc]
      have h2 : m_X9_ear [37, v] (zput σ 10 2 v) = some (σ 10 2, zput (zput σ 10 2 v) 37 7 v) := by
        have e1 : w32 (zput σ 10 2 v 37 5 * zput σ 10 2 v 37 6) = σ 1 2 := by
          rw [zput_o (by decide), zput_o (by decide)]; exact hN.1
        have e2 : zput σ 10 2 v 37 7 = σ 10 2 := by rw [zput_o (by decide)]; exact hI.2.2.2.2.2.2.1.1
        simp [e_X9_ear, d_X9_ear, xC_e, xL_e, xU_e, xB_e, xD_e, xF_e, xG_e, xA_e, xE_e, xH_e, xI_e, xZ_e, xK_e, aN_e, aC_e, cR_e, cV_e, cA_e, cO_e, cN_e, bs_e, bn_e, zg_0, zg_S, sS_e, sX_e, sF_e, sG_e, sA_e, sE_e, sEo_e, sK_e, sQ_e, sI_e, sR_e, sV_e, sB_e, sC_e, sD_e, sN_e, sP_e, sY_e, st_0, st_S, zc_0, zc_S, r_eq, r_ne, r_lt, r_le, r_gt, r_ge, rb_ite, rb_0, rb_1, v_within, h3, v_all, e1, e2, hc]
      have o1 := zOk_of k_X8_ear hI.1 h1 ⟨zthis, hv, trivial⟩
      have o2 := zOk_of k_X9_ear o1 h2 ⟨zthat, hv, trivial⟩
      refine ⟨_, _, _, h1, h2, zInv_ear o2 h3 hI (fun a b n1 n2 => ?_) ?_ ?_⟩
      · unfold zput
        rw [if_neg n2, if_neg n1]
      · rw [zput_o (by decide), zput_self]
      · rw [zput_self]
