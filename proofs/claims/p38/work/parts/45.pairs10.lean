theorem zinc {k : Nat} (h : k < 1000000) : o_iadd (k : Int) 1 = ((k + 1 : Nat) : Int) := by
  have : o_iadd (k : Int) 1 = (k : Int) + 1 := w32_id ⟨by omega, by omega⟩
  omega
theorem zinc0 {k : Nat} (h : k < 1000000) : o_iadd (k : Int) 0 = (k : Int) := by
  have : o_iadd (k : Int) 0 = (k : Int) + 0 := w32_id ⟨by omega, by omega⟩
  omega
theorem w_isPlanted {c : Int} {σ : zHp} (hP : zIP σ) (hN : σ 1 2 ≤ 30) (h : 0 ≤ c ∧ c < σ 1 2) : m_X3_isPlanted [1, c] σ = some (if zpl σ c = 1 then 1 else 0, σ) := by
  have b := hP c.toNat (by omega)
  have e : ((c.toNat : Nat) : Int) = c := by omega
  rw [e] at b
  have hh := h.2
  simp only [e_X3_isPlanted, d_X3_isPlanted, xC_e, xL_e, xU_e, xB_e, xD_e, xF_e, xG_e, xA_e, xE_e, xH_e, xI_e, xZ_e, xK_e, aN_e, aC_e, cR_e, cV_e, cA_e, cO_e, cN_e, bs_e, bn_e, zg_0, zg_S, sS_e, sX_e, sF_e, sG_e, sA_e, sE_e, sEo_e, sK_e, sQ_e, sI_e, sR_e, sV_e, sB_e, sC_e, sD_e, sN_e, st_0, st_S, zc_0, zc_S, r_eq, r_ne, r_lt, r_le, r_gt, r_ge, rb_ite, rb_0, rb_1, zbit_i (c := c) (by omega), b]
  by_cases p : zpl σ c = 1
  · simp [hh, p, xC_e, xL_e, xU_e, xB_e, xD_e, xF_e, xG_e, xA_e, xE_e, xH_e, xI_e, xZ_e, xK_e, aN_e, aC_e, cR_e, cV_e, cA_e, cO_e, cN_e, bs_e, bn_e, zg_0, zg_S, sS_e, sX_e, sF_e, sG_e, sA_e, sE_e, sEo_e, sK_e, sQ_e, sI_e, sR_e, sV_e, sB_e, sC_e, sD_e, sN_e, st_0, st_S, zc_0, zc_S]
  · simp [hh, p, xC_e, xL_e, xU_e, xB_e, xD_e, xF_e, xG_e, xA_e, xE_e, xH_e, xI_e, xZ_e, xK_e, aN_e, aC_e, cR_e, cV_e, cA_e, cO_e, cN_e, bs_e, bn_e, zg_0, zg_S, sS_e, sX_e, sF_e, sG_e, sA_e, sE_e, sEo_e, sK_e, sQ_e, sI_e, sR_e, sV_e, sB_e, sC_e, sD_e, sN_e, st_0, st_S, zc_0, zc_S]
theorem zHang {σ : zHp} (hI : zInv σ) (c : Int) : zcn (fun b => decide (σ 8 b = c)) (σ 6 0).toNat = zcn (fun b => decide (σ 8 b = c)) (σ 6 0).toNat := by
  refine zcn_c _ (fun b hb => ?_)
  rw [((zI3 hI).2.2.2 b (by omega) (by omega)).2.1.1]
