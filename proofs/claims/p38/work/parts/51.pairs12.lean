/-- all rows anew -/
def zRows (σ ρ τ : zHp) (n : Int) : Prop := (∀ x y, ¬ (x = 11 ∧ 0 ≤ y ∧ y < 30 * n) → τ x y = σ x y) ∧ ∀ b c, 0 ≤ b → b < n → 0 ≤ c → c < σ 1 2 → τ 11 (30 * b + c) * zDn ρ (σ 7 b) (σ 8 b) c = zONE * zU (σ 7 b)
theorem w_carryAll {σ ρ : zHp} (hL : zIL σ) (hH : zIH σ) (hB : zIB σ) (r1 : ρ 1 1 = σ 1 1) (r2 : ∀ k, ρ 2 k = σ 2 k) (hP : ∀ c : Nat, c < 32 → zt (σ 1 3) c = decide ((c : Int) < σ 1 2 ∧ zpl ρ c = 1)) (h6 : 0 ≤ σ 6 0 ∧ σ 6 0 ≤ 6) (hb : ∀ b : Int, 0 ≤ b → b < σ 6 0 → (0 ≤ σ 7 b ∧ σ 7 b ≤ 2) ∧ (0 ≤ σ 8 b ∧ σ 8 b < σ 1 2)) :
    ∃ τ, m_X0_carryAll [10] σ = some (0, τ) ∧ zRows σ ρ τ (σ 6 0) := by
  have nN := zN_eq hL
  have nn : (((σ 6 0).toNat : Nat) : Int) = σ 6 0 := by omega
  have hl := zl_inv (c := lc_X0_carryAll_1) (f := lf_X0_carryAll_1) (s := ls_X0_carryAll_1) (fun k => [10, (k : Int)]) (fun k τ => zRows σ ρ τ (k : Int)) (σ 6 0).toNat (σ := σ)
    ⟨fun _ _ _ => rfl, fun b c h0 h1 => absurd h1 (by simp; omega)⟩
    (fun k τ hk hI => by
      have e := hI.1 6 0 (by omega)
      have : (k : Int) < τ 6 0 := by omega
      simp only [lc_X0_carryAll_1, xC_e, xL_e, xU_e, xB_e, xD_e, xF_e, xG_e, xA_e, xE_e, xH_e, xI_e, xZ_e, xK_e, aN_e, aC_e, cR_e, cV_e, cA_e, cO_e, cN_e, bs_e, bn_e, zg_0, zg_S, sS_e, sX_e, sF_e, sG_e, sA_e, sE_e, sEo_e, sK_e, sQ_e, sI_e, sR_e, sV_e, sB_e, sC_e, sD_e, sN_e, st_0, st_S, zc_0, zc_S, r_lt]
      rw [decide_eq_true this])
    (fun k τ hk1 hI => by
      obtain ⟨e, hr⟩ := hI
      have n2 := e 1 2 (by omega)
      have L' : zIL τ := zIL_c hL (e 1 0 (by omega)) (e 1 1 (by omega)) (e 1 2 (by omega)) (e 1 0 (by omega)) (e 1 1 (by omega))
      have H' : zIH τ := zIH_c hH (e 1 1 (by omega)) (e 1 2 (by omega)) (fun k => e 2 k (by omega)) (fun k => e 3 k (by omega)) (fun k => e 4 k (by omega)) (fun k => e 2 k (by omega))
      have B' : zIB τ := zIB_c hB (e 1 2 (by omega)) (fun k => e 2 k (by omega)) (fun k => e 5 k (by omega))
      have k7 := e 7 (k : Int) (by omega)
      have k8 := e 8 (k : Int) (by omega)
      obtain ⟨x1, x2⟩ := hb (k : Int) (by omega) (by omega)
      obtain ⟨υ, hv, et, hm⟩ := w_carry (σ := τ) (ρ := ρ) L' H' B' (by rw [r1, e 1 1 (by omega)]) (fun k => by rw [r2, e 2 k (by omega)]) (fun c hc => by rw [e 1 3 (by omega), n2]; exact hP c hc) (b := (k : Int)) (by omega) (by rw [k7]; exact x1) (by rw [k8, n2]; exact x2)
      refine ⟨0, [10, (k : Int)], υ, υ, ?_, Or.inl rfl, ?_, ?_, ?_⟩
      · simp [lf_X0_carryAll_1, xC_e, xL_e, xU_e, xB_e, xD_e, xF_e, xG_e, xA_e, xE_e, xH_e, xI_e, xZ_e, xK_e, aN_e, aC_e, cR_e, cV_e, cA_e, cO_e, cN_e, bs_e, bn_e, zg_0, zg_S, sS_e, sX_e, sF_e, sG_e, sA_e, sE_e, sEo_e, sK_e, sQ_e, sI_e, sR_e, sV_e, sB_e, sC_e, sD_e, sN_e, st_0, st_S, zc_0, zc_S, hv]
      · have e := zinc (k := k) (by omega)
        simp only [ls_X0_carryAll_1, xC_e, xL_e, xU_e, xB_e, xD_e, xF_e, xG_e, xA_e, xE_e, xH_e, xI_e, xZ_e, xK_e, aN_e, aC_e, cR_e, cV_e, cA_e, cO_e, cN_e, bs_e, bn_e, zg_0, zg_S, sS_e, sX_e, sF_e, sG_e, sA_e, sE_e, sEo_e, sK_e, sQ_e, sI_e, sR_e, sV_e, sB_e, sC_e, sD_e, sN_e, st_0, st_S, zc_0, zc_S, e]
      · intro x y hxy
        rw [et x y (by omega), e x y (by omega)]
      · intro b c b0 b1 c0 c1
        by_cases q : b = (k : Int)
        · subst q
          have := hm c c0 (by rw [n2]; exact c1)
          rw [k7, k8] at this
          exact this
        · rw [et 11 _ (by omega)]
          exact hr b c b0 (by omega) c0 c1)
    (fun τ hI => by
      have e := hI.1 6 0 (by omega)
      have : ¬ (((σ 6 0).toNat : Nat) : Int) < τ 6 0 := by omega
      simp only [lc_X0_carryAll_1, xC_e, xL_e, xU_e, xB_e, xD_e, xF_e, xG_e, xA_e, xE_e, xH_e, xI_e, xZ_e, xK_e, aN_e, aC_e, cR_e, cV_e, cA_e, cO_e, cN_e, bs_e, bn_e, zg_0, zg_S, sS_e, sX_e, sF_e, sG_e, sA_e, sE_e, sEo_e, sK_e, sQ_e, sI_e, sR_e, sV_e, sB_e, sC_e, sD_e, sN_e, st_0, st_S, zc_0, zc_S, r_lt]
      rw [decide_eq_false this])
    (zf_lt (by omega))
  obtain ⟨τ, hI, hl⟩ := hl
  rw [nn] at hI
  refine ⟨τ, ?_, hI⟩
  have hl2 : sW lc_X0_carryAll_1 lf_X0_carryAll_1 ls_X0_carryAll_1 [10, 0] σ = some (0, [10, (((σ 6 0).toNat : Nat) : Int)], τ) := hl
  simp [e_X0_carryAll, d_X0_carryAll, xC_e, xL_e, xU_e, xB_e, xD_e, xF_e, xG_e, xA_e, xE_e, xH_e, xI_e, xZ_e, xK_e, aN_e, aC_e, cR_e, cV_e, cA_e, cO_e, cN_e, bs_e, bn_e, zg_0, zg_S, sS_e, sX_e, sF_e, sG_e, sA_e, sE_e, sEo_e, sK_e, sQ_e, sI_e, sR_e, sV_e, sB_e, sC_e, sD_e, sN_e, st_0, st_S, zc_0, zc_S, hl2]
