/-- by bell and cell: the calm's bounds -/
theorem zIC_b {σ : zHp} (hI : zInv σ) {b c : Int} (hb : 0 ≤ b ∧ b < σ 6 0) (hc : 0 ≤ c ∧ c < σ 1 2) : 1 ≤ σ 11 (30 * b + c) ∧ σ 11 (30 * b + c) ≤ zONE := by
  have h := hI.2.2.2.2.2.2.2.2.1 b c hb.1 hb.2 hc.1 hc.2
  exact zCalm_b hI.2.2.1 ((zI3 hI).2.2.2 b hb.1 hb.2).2.1.2 hc h
theorem z30 {b c : Int} (hb : 0 ≤ b ∧ b < 7) (hc : 0 ≤ c ∧ c < 30) : o_iadd (o_imul b 30) c = 30 * b + c ∧ o_iadd (o_imul 30 b) c = 30 * b + c := by
  have e1 : o_imul b 30 = b * 30 := w32_id ⟨by omega, by omega⟩
  have e2 : o_iadd (b * 30) c = b * 30 + c := w32_id ⟨by omega, by omega⟩
  have e3 : o_imul 30 b = 30 * b := w32_id ⟨by omega, by omega⟩
  have e4 : o_iadd (30 * b) c = 30 * b + c := w32_id ⟨by omega, by omega⟩
  rw [e1, e2, e3, e4]
  exact ⟨by omega, rfl⟩
theorem w_unitBy {σ : zHp} (hL : zIL σ) (hH : zIH σ) {b c w : Int} (hb : 0 ≤ b ∧ b < 6) (hv : 0 ≤ σ 11 (30 * b + c) ∧ σ 11 (30 * b + c) ≤ zONE) (hf : 0 ≤ σ 8 b ∧ σ 8 b < σ 1 2) (hc : 0 ≤ c ∧ c < σ 1 2) (hw : 0 ≤ w ∧ w ≤ 39) : m_X0_unitBy [10, b, c, w] σ = some (zGr σ (σ 11 (30 * b + c)) (σ 8 b) c w, σ) := by
  have nN := zN_eq hL
  have e := (z30 (b := b) (c := c) (by omega) (by omega)).1
  have e3 : 0 ≤ 30 * b + c ∧ 30 * b + c < 180 := by omega
  have bl := w_blown hL hH hv hf hc hw
  simp [e_X0_unitBy, d_X0_unitBy, xC_e, xL_e, xU_e, xB_e, xD_e, xF_e, xG_e, xA_e, xE_e, xH_e, xI_e, xZ_e, xK_e, aN_e, aC_e, cR_e, cV_e, cA_e, cO_e, cN_e, bs_e, bn_e, zg_0, zg_S, sS_e, sX_e, sF_e, sG_e, sA_e, sE_e, sEo_e, sK_e, sQ_e, sI_e, sR_e, sV_e, sB_e, sC_e, sD_e, sN_e, st_0, st_S, zc_0, zc_S, e, e3, hb, bl]
/-- what the wind carries: by class and by reference -/
def zLw (σ τ : zHp) (w n : Int) : Prop := (∀ x y, x ≠ 12 → τ x y = σ x y) ∧ ∀ b c, 0 ≤ b → b < n → 0 ≤ c → c < σ 1 2 → τ 12 (30 * b + c) = zGr σ (σ 11 (30 * b + c)) (σ 8 b) c w
def zLw1 (σ τ : zHp) (w b n : Int) : Prop := (∀ x y, ¬ (x = 12 ∧ 30 * b ≤ y ∧ y < 30 * b + 30) → τ x y = σ x y) ∧ ∀ c, 0 ≤ c → c < n → τ 12 (30 * b + c) = zGr σ (σ 11 (30 * b + c)) (σ 8 b) c w
theorem zGr_eq {σ τ : zHp} (h : τ 1 1 = σ 1 1) (v f c w : Int) : zGr τ v f c w = zGr σ v f c w := by
  unfold zGr
  rw [zRo_eq h, zCo_eq h]
theorem w_blowBody {τ : zHp} {w b c v : Int} (hb : 0 ≤ b ∧ b < 6) (hc : 0 ≤ c ∧ c < 30) (h : m_X0_unitBy [10, b, c, w] τ = some (v, τ)) : lf_X0_blow_1 [10, w, b, c] τ = some (0, [10, w, b, c], zput τ 12 (30 * b + c) v) := by
  have e := (z30 (b := b) (c := c) (by omega) hc).1
  have e3 : 0 ≤ 30 * b + c ∧ 30 * b + c < 180 := by omega
  simp [lf_X0_blow_1, xC_e, xL_e, xU_e, xB_e, xD_e, xF_e, xG_e, xA_e, xE_e, xH_e, xI_e, xZ_e, xK_e, aN_e, aC_e, cR_e, cV_e, cA_e, cO_e, cN_e, bs_e, bn_e, zg_0, zg_S, sS_e, sX_e, sF_e, sG_e, sA_e, sE_e, sEo_e, sK_e, sQ_e, sI_e, sR_e, sV_e, sB_e, sC_e, sD_e, sN_e, st_0, st_S, zc_0, zc_S, e, e3, h]
theorem w_blow1 {σ : zHp} (hL : zIL σ) (hH : zIH σ) {b w : Int} (hb : 0 ≤ b ∧ b < 6) (hv : ∀ c, 0 ≤ c → c < σ 1 2 → 0 ≤ σ 11 (30 * b + c) ∧ σ 11 (30 * b + c) ≤ zONE) (hf : 0 ≤ σ 8 b ∧ σ 8 b < σ 1 2) (hw : 0 ≤ w ∧ w ≤ 39) :
    ∃ τ, zLw1 σ τ w b (σ 1 2) ∧ sW lc_X0_blow_1 lf_X0_blow_1 ls_X0_blow_1 [10, w, b, 0] σ = some (0, [10, w, b, σ 1 2], τ) := by
  have nN := zN_eq hL
  have nn : (((σ 1 2).toNat : Nat) : Int) = σ 1 2 := by omega
  have hl := zl_inv (c := lc_X0_blow_1) (f := lf_X0_blow_1) (s := ls_X0_blow_1) (fun k => [10, w, b, (k : Int)]) (fun k τ => zLw1 σ τ w b (k : Int)) (σ 1 2).toNat (σ := σ)
    ⟨fun _ _ _ => rfl, fun c h0 h1 => absurd h1 (by simp; omega)⟩
    (fun k τ hk hI => by
      have e := hI.1 1 2 (by omega)
      have : (k : Int) < τ 1 2 := by omega
      simp only [lc_X0_blow_1, xC_e, xL_e, xU_e, xB_e, xD_e, xF_e, xG_e, xA_e, xE_e, xH_e, xI_e, xZ_e, xK_e, aN_e, aC_e, cR_e, cV_e, cA_e, cO_e, cN_e, bs_e, bn_e, zg_0, zg_S, sS_e, sX_e, sF_e, sG_e, sA_e, sE_e, sEo_e, sK_e, sQ_e, sI_e, sR_e, sV_e, sB_e, sC_e, sD_e, sN_e, st_0, st_S, zc_0, zc_S, r_lt]
      rw [decide_eq_true this])
    (fun k τ hk1 hI => by
      obtain ⟨e, hr⟩ := hI
      have n2 := e 1 2 (by omega)
      have L' : zIL τ := zIL_c hL (e 1 0 (by omega)) (e 1 1 (by omega)) (e 1 2 (by omega)) (e 1 0 (by omega)) (e 1 1 (by omega))
      have H' : zIH τ := zIH_c hH (e 1 1 (by omega)) (e 1 2 (by omega)) (fun k => e 2 k (by omega)) (fun k => e 3 k (by omega)) (fun k => e 4 k (by omega)) (fun k => e 2 k (by omega))
      have u := w_unitBy (σ := τ) (b := b) (c := (k : Int)) (w := w) L' H' hb (by rw [e 11 _ (by omega)]; exact hv _ (by omega) (by omega)) (by rw [e 8 b (by omega), n2]; exact hf) (by rw [n2]; omega) hw
      have body := w_blowBody hb (by omega) u
      refine ⟨0, [10, w, b, (k : Int)], zput τ 12 (30 * b + (k : Int)) (zGr τ (τ 11 (30 * b + (k : Int))) (τ 8 b) (k : Int) w), zput τ 12 (30 * b + (k : Int)) (zGr τ (τ 11 (30 * b + (k : Int))) (τ 8 b) (k : Int) w), body, Or.inl rfl, ?_, ?_, ?_⟩
      · have e := zinc (k := k) (by omega)
        simp only [ls_X0_blow_1, xC_e, xL_e, xU_e, xB_e, xD_e, xF_e, xG_e, xA_e, xE_e, xH_e, xI_e, xZ_e, xK_e, aN_e, aC_e, cR_e, cV_e, cA_e, cO_e, cN_e, bs_e, bn_e, zg_0, zg_S, sS_e, sX_e, sF_e, sG_e, sA_e, sE_e, sEo_e, sK_e, sQ_e, sI_e, sR_e, sV_e, sB_e, sC_e, sD_e, sN_e, st_0, st_S, zc_0, zc_S, e]
      · intro x y hxy
        rw [zput_n (by omega)]
        exact e x y hxy
      · intro c c0 c1
        by_cases q : c = (k : Int)
        · subst q
          rw [zput_self, zGr_eq (e 1 1 (by omega)), e 11 _ (by omega), e 8 b (by omega)]
        · rw [zput_i (by omega)]
          exact hr c c0 (by omega))
    (fun τ hI => by
      have e := hI.1 1 2 (by omega)
      have : ¬ (((σ 1 2).toNat : Nat) : Int) < τ 1 2 := by omega
      simp only [lc_X0_blow_1, xC_e, xL_e, xU_e, xB_e, xD_e, xF_e, xG_e, xA_e, xE_e, xH_e, xI_e, xZ_e, xK_e, aN_e, aC_e, cR_e, cV_e, cA_e, cO_e, cN_e, bs_e, bn_e, zg_0, zg_S, sS_e, sX_e, sF_e, sG_e, sA_e, sE_e, sEo_e, sK_e, sQ_e, sI_e, sR_e, sV_e, sB_e, sC_e, sD_e, sN_e, st_0, st_S, zc_0, zc_S, r_lt]
      rw [decide_eq_false this])
    (zf_lt (by omega))
  obtain ⟨τ, hI, hl⟩ := hl
  rw [nn] at hI hl
  exact ⟨τ, hI, hl⟩
