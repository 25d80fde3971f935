theorem zIC_b2 {σ : zHp} (hL : zIL σ) (hN : zIN σ) (hC : zIC σ) {b c : Int} (hb : 0 ≤ b ∧ b < σ 6 0) (hc : 0 ≤ c ∧ c < σ 1 2) : 1 ≤ σ 11 (30 * b + c) ∧ σ 11 (30 * b + c) ≤ zONE :=
  zCalm_b hL (hN.2.2.2 b hb.1 hb.2).2.1.2 hc (hC b c hb.1 hb.2 hc.1 hc.2)
theorem w_blowEval {σ τ : zHp} {w n s e1 e2 : Int} (hl : sW lc_X0_blow_2 lf_X0_blow_2 ls_X0_blow_2 [10, w, 0, 0] σ = some (0, [10, w, n, 0], τ)) (st : m_X0_strength [w] τ = some (s, τ)) (o1 : o_lmul (τ 10 2) 59579996636160 = e1) (o2 : o_lmul e1 s = e2) : m_X0_blow [10, w] σ = some (0, zput τ 10 5 e2) := by
  simp [e_X0_blow, d_X0_blow, xC_e, xL_e, xU_e, xB_e, xD_e, xF_e, xG_e, xA_e, xE_e, xH_e, xI_e, xZ_e, xK_e, aN_e, aC_e, cR_e, cV_e, cA_e, cO_e, cN_e, bs_e, bn_e, zg_0, zg_S, sS_e, sX_e, sF_e, sG_e, sA_e, sE_e, sEo_e, sK_e, sQ_e, sI_e, sR_e, sV_e, sB_e, sC_e, sD_e, sN_e, st_0, st_S, zc_0, zc_S, hl, st, o1, o2]
theorem w_blowBody2 {τ υ : zHp} {w b n : Int} (h : sW lc_X0_blow_1 lf_X0_blow_1 ls_X0_blow_1 [10, w, b, 0] τ = some (0, [10, w, b, n], υ)) : lf_X0_blow_2 [10, w, b, 0] τ = some (0, [10, w, b, 0], υ) := by
  simp [lf_X0_blow_2, xC_e, xL_e, xU_e, xB_e, xD_e, xF_e, xG_e, xA_e, xE_e, xH_e, xI_e, xZ_e, xK_e, aN_e, aC_e, cR_e, cV_e, cA_e, cO_e, cN_e, bs_e, bn_e, zg_0, zg_S, sS_e, sX_e, sF_e, sG_e, sA_e, sE_e, sEo_e, sK_e, sQ_e, sI_e, sR_e, sV_e, sB_e, sC_e, sD_e, sN_e, st_0, st_S, zc_0, zc_S, h]
theorem zONE_e : zONE = 59579996636160 := rfl
theorem w_blow {σ : zHp} (hL : zIL σ) (hH : zIH σ) (hE : 0 ≤ σ 10 2 ∧ σ 10 2 ≤ 99) (hN : zIN σ) (hC : zIC σ) {w : Int} (hw : 0 ≤ w ∧ w ≤ 39) :
    ∃ τ, m_X0_blow [10, w] σ = some (0, τ) ∧ (∀ x y, x ≠ 12 → ¬ (x = 10 ∧ y = 5) → τ x y = σ x y) ∧ τ 10 5 = σ 10 2 * zONE * (10 + w % 10) ∧ ∀ b c, 0 ≤ b → b < σ 6 0 → 0 ≤ c → c < σ 1 2 → τ 12 (30 * b + c) = zGr σ (σ 11 (30 * b + c)) (σ 8 b) c w := by
  have nN := zN_eq hL
  obtain ⟨m1, m2, m3, m4⟩ := hN
  have nn : (((σ 6 0).toNat : Nat) : Int) = σ 6 0 := by omega
  have hl := zl_inv (c := lc_X0_blow_2) (f := lf_X0_blow_2) (s := ls_X0_blow_2) (fun k => [10, w, (k : Int), 0]) (fun k τ => zLw σ τ w (k : Int)) (σ 6 0).toNat (σ := σ)
    ⟨fun _ _ _ => rfl, fun b c h0 h1 => absurd h1 (by simp; omega)⟩
    (fun k τ hk hI => by
      have e := hI.1 6 0 (by omega)
      have : (k : Int) < τ 6 0 := by omega
      simp only [lc_X0_blow_2, xC_e, xL_e, xU_e, xB_e, xD_e, xF_e, xG_e, xA_e, xE_e, xH_e, xI_e, xZ_e, xK_e, aN_e, aC_e, cR_e, cV_e, cA_e, cO_e, cN_e, bs_e, bn_e, zg_0, zg_S, sS_e, sX_e, sF_e, sG_e, sA_e, sE_e, sEo_e, sK_e, sQ_e, sI_e, sR_e, sV_e, sB_e, sC_e, sD_e, sN_e, st_0, st_S, zc_0, zc_S, r_lt]
      rw [decide_eq_true this])
    (fun k τ hk1 hI => by
      obtain ⟨e, hr⟩ := hI
      have n2 := e 1 2 (by omega)
      have L' : zIL τ := zIL_c hL (e 1 0 (by omega)) (e 1 1 (by omega)) (e 1 2 (by omega)) (e 1 0 (by omega)) (e 1 1 (by omega))
      have H' : zIH τ := zIH_c hH (e 1 1 (by omega)) (e 1 2 (by omega)) (fun k => e 2 k (by omega)) (fun k => e 3 k (by omega)) (fun k => e 4 k (by omega)) (fun k => e 2 k (by omega))
      obtain ⟨υ, ⟨et, hq⟩, hs⟩ := w_blow1 (σ := τ) (b := (k : Int)) (w := w) L' H' (by omega) (fun c c0 c1 => by
        rw [e 11 _ (by omega)]
        have := zIC_b2 hL ⟨m1, m2, m3, m4⟩ hC (b := (k : Int)) (c := c) (by omega) ⟨c0, by omega⟩
        omega) (by rw [e 8 _ (by omega), n2]; exact (m4 (k : Int) (by omega) (by omega)).2.1.2) hw
      refine ⟨0, [10, w, (k : Int), 0], υ, υ, ?_, Or.inl rfl, ?_, ?_, ?_⟩
      · exact w_blowBody2 hs
      · have e := zinc (k := k) (by omega)
        simp only [ls_X0_blow_2, xC_e, xL_e, xU_e, xB_e, xD_e, xF_e, xG_e, xA_e, xE_e, xH_e, xI_e, xZ_e, xK_e, aN_e, aC_e, cR_e, cV_e, cA_e, cO_e, cN_e, bs_e, bn_e, zg_0, zg_S, sS_e, sX_e, sF_e, sG_e, sA_e, sE_e, sEo_e, sK_e, sQ_e, sI_e, sR_e, sV_e, sB_e, sC_e, sD_e, sN_e, st_0, st_S, zc_0, zc_S, e]
      · intro x y hxy
        rw [et x y (by omega), e x y hxy]
      · intro b c b0 b1 c0 c1
        by_cases q : b = (k : Int)
        · subst q
          rw [hq c c0 (by rw [n2]; exact c1), zGr_eq (e 1 1 (by omega)), e 11 _ (by omega), e 8 _ (by omega)]
        · rw [et 12 _ (by omega)]
          exact hr b c b0 (by omega) c0 c1)
    (fun τ hI => by
      have e := hI.1 6 0 (by omega)
      have : ¬ (((σ 6 0).toNat : Nat) : Int) < τ 6 0 := by omega
      simp only [lc_X0_blow_2, xC_e, xL_e, xU_e, xB_e, xD_e, xF_e, xG_e, xA_e, xE_e, xH_e, xI_e, xZ_e, xK_e, aN_e, aC_e, cR_e, cV_e, cA_e, cO_e, cN_e, bs_e, bn_e, zg_0, zg_S, sS_e, sX_e, sF_e, sG_e, sA_e, sE_e, sEo_e, sK_e, sQ_e, sI_e, sR_e, sV_e, sB_e, sC_e, sD_e, sN_e, st_0, st_S, zc_0, zc_S, r_lt]
      rw [decide_eq_false this])
    (zf_lt (by omega))
  obtain ⟨τ, hI, hl⟩ := hl
  rw [nn] at hI hl
  have hl2 : sW lc_X0_blow_2 lf_X0_blow_2 ls_X0_blow_2 [10, w, 0, 0] σ = some (0, [10, w, σ 6 0, 0], τ) := hl
  have st := w_strength hw τ
  have t2 : τ 10 2 = σ 10 2 := hI.1 10 2 (by decide)
  have k1 := zmul_i (x := σ 10 2) (y := 59579996636160) 99 59579996636160 (by omega) (by omega)
  have o1 : o_lmul (σ 10 2) 59579996636160 = σ 10 2 * 59579996636160 := w64_id ⟨by omega, by omega⟩
  have k2 := zmul_i (x := σ 10 2 * 59579996636160) (y := 10 + w % 10) 5898419666979840 19 (by omega) (by omega)
  have o2 : o_lmul (σ 10 2 * 59579996636160) (10 + w % 10) = σ 10 2 * 59579996636160 * (10 + w % 10) := w64_id ⟨by omega, by omega⟩
  refine ⟨zput τ 10 5 (σ 10 2 * 59579996636160 * (10 + w % 10)), ?_, ?_, ?_, ?_⟩
  · exact w_blowEval hl2 st (by rw [t2]; exact o1) o2
  · intro x y h1 h2
    rw [zput_n h2]
    exact hI.1 x y h1
  · rw [zput_self, zONE_e]
  · intro b c b0 b1 c0 c1
    rw [zput_o (by decide)]
    exact hI.2 b c b0 b1 c0 c1
