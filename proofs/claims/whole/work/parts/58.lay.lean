/-- laid: bell b's row of the reference, its first n cells -/
def zLy1 (σ τ : zHp) (w b n : Int) : Prop := (∀ x y, ¬ ((x = 47 ∨ x = 48) ∧ 30 * b ≤ y ∧ y < 30 * b + 30) → ¬ (x = 37 ∧ (y = 18 ∨ y = 19)) → τ x y = σ x y) ∧ ∀ c, 0 ≤ c → c < n → τ 47 (30 * b + c) = zPu σ (σ 44 b) (σ 45 b) c w ∧ τ 48 (30 * b + c) = zQd σ (σ 44 b) (σ 45 b) c w
theorem zPu_eq {σ τ : zHp} (h : τ 1 1 = σ 1 1) (kd f c w : Int) : zPu τ kd f c w = zPu σ kd f c w := by
  unfold zPu
  rw [zRo_eq h, zCo_eq h]
theorem zQd_eq {σ τ : zHp} (h : τ 1 1 = σ 1 1) (h2 : ∀ k, τ 2 k = σ 2 k) (h3 : ∀ k, τ 42 k = σ 42 k) (kd f c w : Int) : zQd τ kd f c w = zQd σ kd f c w := by
  unfold zQd
  rw [zRo_eq h, zCo_eq h, zDn_eq h h2 h3]
theorem v_layBody {τ : zHp} {w b c p q : Int} (hb : 0 ≤ b ∧ b < 7) (hc : 0 ≤ c ∧ c < 30) (h : m_X9_findLoud [37, b, c, w] τ = some (0, zput (zput τ 37 18 p) 37 19 q)) : lf_X9_layOne_1 [37, b, w, c] τ = some (0, [37, b, w, c], zput (zput (zput (zput τ 37 18 p) 37 19 q) 47 (30 * b + c) p) 48 (30 * b + c) q) := by
  have e := (z30 (b := b) (c := c) hb hc).2
  have e3 : 0 ≤ 30 * b + c ∧ 30 * b + c < 210 := by omega
  have r18 : zput (zput τ 37 18 p) 37 19 q 37 18 = p := by rw [zput_i (by decide), zput_self]
  have r19 : ∀ i v, zput (zput (zput τ 37 18 p) 37 19 q) 47 i v 37 19 = q := fun i v => by rw [zput_o (by decide), zput_self]
  simp [lf_X9_layOne_1, xC_e, xL_e, xU_e, xB_e, xD_e, xF_e, xG_e, xA_e, xE_e, xH_e, xI_e, xZ_e, xK_e, aN_e, aC_e, cR_e, cV_e, cA_e, cO_e, cN_e, bs_e, bn_e, zg_0, zg_S, sS_e, sX_e, sF_e, sG_e, sA_e, sE_e, sEo_e, sK_e, sQ_e, sI_e, sR_e, sV_e, sB_e, sC_e, sD_e, sN_e, sP_e, sY_e, st_0, st_S, zc_0, zc_S, e, e3, h, r18, r19]
theorem v_layEval {σ τ : zHp} {w b n : Int} (hl : sW lc_X9_layOne_1 lf_X9_layOne_1 ls_X9_layOne_1 [37, b, w, 0] σ = some (0, [37, b, w, n], τ)) : m_X9_layOne [37, b, w] σ = some (0, τ) := by
  simp [e_X9_layOne, d_X9_layOne, xC_e, xL_e, xU_e, xB_e, xD_e, xF_e, xG_e, xA_e, xE_e, xH_e, xI_e, xZ_e, xK_e, aN_e, aC_e, cR_e, cV_e, cA_e, cO_e, cN_e, bs_e, bn_e, zg_0, zg_S, sS_e, sX_e, sF_e, sG_e, sA_e, sE_e, sEo_e, sK_e, sQ_e, sI_e, sR_e, sV_e, sB_e, sC_e, sD_e, sN_e, sP_e, sY_e, st_0, st_S, zc_0, zc_S, hl]
theorem v_layOne {σ : zHp} (hL : zIL σ) (hH : zIH σ) (hp : ∀ k : Int, 0 ≤ k → σ 42 k = 0 ∨ σ 42 k = 1) {b w : Int} (hb : 0 ≤ b ∧ b < 7) (hf : 0 ≤ σ 45 b ∧ σ 45 b < σ 1 2) (hw : 0 ≤ w ∧ w ≤ 39) : ∃ τ, m_X9_layOne [37, b, w] σ = some (0, τ) ∧ zLy1 σ τ w b (σ 1 2) := by
  have nN := zN_eq hL
  have nn : (((σ 1 2).toNat : Nat) : Int) = σ 1 2 := by omega
  have hl := zl_inv (c := lc_X9_layOne_1) (f := lf_X9_layOne_1) (s := ls_X9_layOne_1) (fun k => [37, b, w, (k : Int)]) (fun k τ => zLy1 σ τ w b (k : Int)) (σ 1 2).toNat (σ := σ)
    ⟨fun _ _ _ _ => rfl, fun c h0 h1 => absurd h1 (by simp; omega)⟩
    (fun k τ hk hI => by
      have e5 := hI.1 37 5 (by omega) (by omega)
      have e6 := hI.1 37 6 (by omega) (by omega)
      have : (k : Int) < w32 (τ 37 5 * τ 37 6) := by rw [e5, e6, nN.1]; omega
      simp only [lc_X9_layOne_1, xC_e, xL_e, xU_e, xB_e, xD_e, xF_e, xG_e, xA_e, xE_e, xH_e, xI_e, xZ_e, xK_e, aN_e, aC_e, cR_e, cV_e, cA_e, cO_e, cN_e, bs_e, bn_e, zg_0, zg_S, sS_e, sX_e, sF_e, sG_e, sA_e, sE_e, sEo_e, sK_e, sQ_e, sI_e, sR_e, sV_e, sB_e, sC_e, sD_e, sN_e, sP_e, sY_e, st_0, st_S, zc_0, zc_S, r_lt, v_all]
      rw [decide_eq_true this])
    (fun k τ hk1 hI => by
      obtain ⟨e, hr⟩ := hI
      have n2 := e 1 2 (by omega) (by omega)
      have L' : zIL τ := zIL_c hL (e 1 0 (by omega) (by omega)) (e 1 1 (by omega) (by omega)) (e 1 2 (by omega) (by omega)) (e 37 5 (by omega) (by omega)) (e 37 6 (by omega) (by omega))
      have H' : zIH τ := zIH_c hH (e 1 1 (by omega) (by omega)) (e 1 2 (by omega) (by omega)) (fun k => e 2 k (by omega) (by omega)) (fun k => e 3 k (by omega) (by omega)) (fun k => e 4 k (by omega) (by omega)) (fun k => e 41 k (by omega) (by omega))
      have u := v_findLoud (σ := τ) L' H' (fun k hk => by rw [e 42 k (by omega) (by omega)]; exact hp k hk) (b := b) (c := (k : Int)) (w := w) hb (by rw [e 45 b (by omega) (by omega), n2]; exact hf) (by rw [n2]; omega) hw
      rw [zPu_eq (e 1 1 (by omega) (by omega)), zQd_eq (e 1 1 (by omega) (by omega)) (fun k => e 2 k (by omega) (by omega)) (fun k => e 42 k (by omega) (by omega)), e 44 b (by omega) (by omega), e 45 b (by omega) (by omega)] at u
      have body := v_layBody hb (by omega) u
      generalize hp1 : zPu σ (σ 44 b) (σ 45 b) (k : Int) w = p at body
      generalize hq1 : zQd σ (σ 44 b) (σ 45 b) (k : Int) w = q at body
      refine ⟨0, [37, b, w, (k : Int)], zput (zput (zput (zput τ 37 18 p) 37 19 q) 47 (30 * b + (k : Int)) p) 48 (30 * b + (k : Int)) q, zput (zput (zput (zput τ 37 18 p) 37 19 q) 47 (30 * b + (k : Int)) p) 48 (30 * b + (k : Int)) q, body, Or.inl rfl, ?_, ?_, ?_⟩
      · have e := zinc (k := k) (by omega)
        simp only [ls_X9_layOne_1, xC_e, xL_e, xU_e, xB_e, xD_e, xF_e, xG_e, xA_e, xE_e, xH_e, xI_e, xZ_e, xK_e, aN_e, aC_e, cR_e, cV_e, cA_e, cO_e, cN_e, bs_e, bn_e, zg_0, zg_S, sS_e, sX_e, sF_e, sG_e, sA_e, sE_e, sEo_e, sK_e, sQ_e, sI_e, sR_e, sV_e, sB_e, sC_e, sD_e, sN_e, sP_e, sY_e, st_0, st_S, zc_0, zc_S, e]
      · intro x y h1 h2
        rw [zput_n (by omega), zput_n (by omega), zput_n (by omega), zput_n (by omega)]
        exact e x y h1 h2
      · intro c c0 c1
        by_cases z : c = (k : Int)
        · subst z
          rw [zput_o (by decide), zput_self, zput_self, hp1, hq1]
          exact ⟨rfl, rfl⟩
        · have := hr c c0 (by omega)
          rw [zput_o (by decide), zput_i (by omega), zput_o (by decide), zput_o (by decide), zput_i (by omega), zput_o (by decide), zput_o (by decide), zput_o (by decide)]
          exact this)
    (fun τ hI => by
      have e5 := hI.1 37 5 (by omega) (by omega)
      have e6 := hI.1 37 6 (by omega) (by omega)
      have : ¬ (((σ 1 2).toNat : Nat) : Int) < w32 (τ 37 5 * τ 37 6) := by rw [e5, e6, nN.1]; omega
      simp only [lc_X9_layOne_1, xC_e, xL_e, xU_e, xB_e, xD_e, xF_e, xG_e, xA_e, xE_e, xH_e, xI_e, xZ_e, xK_e, aN_e, aC_e, cR_e, cV_e, cA_e, cO_e, cN_e, bs_e, bn_e, zg_0, zg_S, sS_e, sX_e, sF_e, sG_e, sA_e, sE_e, sEo_e, sK_e, sQ_e, sI_e, sR_e, sV_e, sB_e, sC_e, sD_e, sN_e, sP_e, sY_e, st_0, st_S, zc_0, zc_S, r_lt, v_all]
      rw [decide_eq_false this])
    (zf_lt (by omega))
  obtain ⟨τ, hI, hl⟩ := hl
  rw [nn] at hI hl
  exact ⟨τ, v_layEval hl, hI⟩
