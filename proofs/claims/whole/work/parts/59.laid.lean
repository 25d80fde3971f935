def zLy (σ τ : zHp) (w n : Int) : Prop := (∀ x y, ¬ (x = 47 ∨ x = 48) → ¬ (x = 37 ∧ (y = 18 ∨ y = 19)) → τ x y = σ x y) ∧ ∀ b c, 0 ≤ b → b < n → 0 ≤ c → c < σ 1 2 → τ 47 (30 * b + c) = zPu σ (σ 44 b) (σ 45 b) c w ∧ τ 48 (30 * b + c) = zQd σ (σ 44 b) (σ 45 b) c w
theorem v_layLoudBody {τ υ : zHp} {w b : Int} (h : m_X9_layOne [37, b, w] τ = some (0, υ)) : lf_X9_layLoud_1 [37, w, b] τ = some (0, [37, w, b], υ) := by
  simp [lf_X9_layLoud_1, xC_e, xL_e, xU_e, xB_e, xD_e, xF_e, xG_e, xA_e, xE_e, xH_e, xI_e, xZ_e, xK_e, aN_e, aC_e, cR_e, cV_e, cA_e, cO_e, cN_e, bs_e, bn_e, zg_0, zg_S, sS_e, sX_e, sF_e, sG_e, sA_e, sE_e, sEo_e, sK_e, sQ_e, sI_e, sR_e, sV_e, sB_e, sC_e, sD_e, sN_e, sP_e, sY_e, st_0, st_S, zc_0, zc_S, h]
theorem v_layLoudEval {σ τ : zHp} {w n : Int} (hl : sW lc_X9_layLoud_1 lf_X9_layLoud_1 ls_X9_layLoud_1 [37, w, 0] σ = some (0, [37, w, n], τ)) : m_X9_layLoud [37, w] σ = some (0, τ) := by
  simp [e_X9_layLoud, d_X9_layLoud, xC_e, xL_e, xU_e, xB_e, xD_e, xF_e, xG_e, xA_e, xE_e, xH_e, xI_e, xZ_e, xK_e, aN_e, aC_e, cR_e, cV_e, cA_e, cO_e, cN_e, bs_e, bn_e, zg_0, zg_S, sS_e, sX_e, sF_e, sG_e, sA_e, sE_e, sEo_e, sK_e, sQ_e, sI_e, sR_e, sV_e, sB_e, sC_e, sD_e, sN_e, sP_e, sY_e, st_0, st_S, zc_0, zc_S, hl]
theorem v_layLoud {σ : zHp} (hL : zIL σ) (hH : zIH σ) (hp : ∀ k : Int, 0 ≤ k → σ 42 k = 0 ∨ σ 42 k = 1) {w : Int} (hn : 0 ≤ σ 37 14 ∧ σ 37 14 ≤ 7) (hf : ∀ b : Int, 0 ≤ b → b < σ 37 14 → 0 ≤ σ 45 b ∧ σ 45 b < σ 1 2) (hw : 0 ≤ w ∧ w ≤ 39) : ∃ τ, m_X9_layLoud [37, w] σ = some (0, τ) ∧ zLy σ τ w (σ 37 14) := by
  have nN := zN_eq hL
  have nn : (((σ 37 14).toNat : Nat) : Int) = σ 37 14 := by omega
  have hl := zl_inv (c := lc_X9_layLoud_1) (f := lf_X9_layLoud_1) (s := ls_X9_layLoud_1) (fun k => [37, w, (k : Int)]) (fun k τ => zLy σ τ w (k : Int)) (σ 37 14).toNat (σ := σ)
    ⟨fun _ _ _ _ => rfl, fun b c h0 h1 => absurd h1 (by simp; omega)⟩
    (fun k τ hk hI => by
      have e := hI.1 37 14 (by omega) (by omega)
      have : (k : Int) < τ 37 14 := by omega
      simp only [lc_X9_layLoud_1, xC_e, xL_e, xU_e, xB_e, xD_e, xF_e, xG_e, xA_e, xE_e, xH_e, xI_e, xZ_e, xK_e, aN_e, aC_e, cR_e, cV_e, cA_e, cO_e, cN_e, bs_e, bn_e, zg_0, zg_S, sS_e, sX_e, sF_e, sG_e, sA_e, sE_e, sEo_e, sK_e, sQ_e, sI_e, sR_e, sV_e, sB_e, sC_e, sD_e, sN_e, sP_e, sY_e, st_0, st_S, zc_0, zc_S, r_lt]
      rw [decide_eq_true this])
    (fun k τ hk1 hI => by
      obtain ⟨e, hr⟩ := hI
      have n2 := e 1 2 (by omega) (by omega)
      have L' : zIL τ := zIL_c hL (e 1 0 (by omega) (by omega)) (e 1 1 (by omega) (by omega)) (e 1 2 (by omega) (by omega)) (e 37 5 (by omega) (by omega)) (e 37 6 (by omega) (by omega))
      have H' : zIH τ := zIH_c hH (e 1 1 (by omega) (by omega)) (e 1 2 (by omega) (by omega)) (fun k => e 2 k (by omega) (by omega)) (fun k => e 3 k (by omega) (by omega)) (fun k => e 4 k (by omega) (by omega)) (fun k => e 41 k (by omega) (by omega))
      obtain ⟨υ, hv, et, hq⟩ := v_layOne (σ := τ) L' H' (fun k hk => by rw [e 42 k (by omega) (by omega)]; exact hp k hk) (b := (k : Int)) (w := w) (by omega) (by rw [e 45 _ (by omega) (by omega), n2]; exact hf _ (by omega) (by omega)) hw
      refine ⟨0, [37, w, (k : Int)], υ, υ, v_layLoudBody hv, Or.inl rfl, ?_, ?_, ?_⟩
      · have e := zinc (k := k) (by omega)
        simp only [ls_X9_layLoud_1, xC_e, xL_e, xU_e, xB_e, xD_e, xF_e, xG_e, xA_e, xE_e, xH_e, xI_e, xZ_e, xK_e, aN_e, aC_e, cR_e, cV_e, cA_e, cO_e, cN_e, bs_e, bn_e, zg_0, zg_S, sS_e, sX_e, sF_e, sG_e, sA_e, sE_e, sEo_e, sK_e, sQ_e, sI_e, sR_e, sV_e, sB_e, sC_e, sD_e, sN_e, sP_e, sY_e, st_0, st_S, zc_0, zc_S, e]
      · intro x y h1 h2
        rw [et x y (by omega) h2, e x y h1 h2]
      · intro b c b0 b1 c0 c1
        by_cases q : b = (k : Int)
        · subst q
          have := hq c c0 (by rw [n2]; exact c1)
          rw [zPu_eq (e 1 1 (by omega) (by omega)), zQd_eq (e 1 1 (by omega) (by omega)) (fun k => e 2 k (by omega) (by omega)) (fun k => e 42 k (by omega) (by omega)), e 44 _ (by omega) (by omega), e 45 _ (by omega) (by omega)] at this
          exact this
        · rw [et 47 _ (by omega) (by omega), et 48 _ (by omega) (by omega)]
          exact hr b c b0 (by omega) c0 c1)
    (fun τ hI => by
      have e := hI.1 37 14 (by omega) (by omega)
      have : ¬ (((σ 37 14).toNat : Nat) : Int) < τ 37 14 := by omega
      simp only [lc_X9_layLoud_1, xC_e, xL_e, xU_e, xB_e, xD_e, xF_e, xG_e, xA_e, xE_e, xH_e, xI_e, xZ_e, xK_e, aN_e, aC_e, cR_e, cV_e, cA_e, cO_e, cN_e, bs_e, bn_e, zg_0, zg_S, sS_e, sX_e, sF_e, sG_e, sA_e, sE_e, sEo_e, sK_e, sQ_e, sI_e, sR_e, sV_e, sB_e, sC_e, sD_e, sN_e, sP_e, sY_e, st_0, st_S, zc_0, zc_S, r_lt]
      rw [decide_eq_false this])
    (zf_lt (by omega))
  obtain ⟨τ, hI, hl⟩ := hl
  rw [nn] at hI hl
  exact ⟨τ, v_layLoudEval hl, hI⟩
