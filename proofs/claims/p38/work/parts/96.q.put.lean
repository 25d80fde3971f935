/-! the whole text -/
def qA (W : Nat) (r : Nat) : Int := 3 + (r : Int) * ((W : Int) + 1)
def qB (W : Nat) (r : Nat) : Int := 3 + (W : Int) * (r : Int)
theorem qA_i {W r : Nat} (h6 : W ≤ 6) (h4 : r ≤ 4) : 3 ≤ qA W r ∧ qA W r ≤ 31 := by
  have := zmul_i (x := (r : Int)) (y := (W : Int) + 1) 4 7 (by omega) (by omega)
  have h0 : 0 ≤ (r : Int) * ((W : Int) + 1) := Int.mul_nonneg (by omega) (by omega)
  unfold qA
  omega
theorem qB_i {W r : Nat} (h6 : W ≤ 6) (h4 : r ≤ 4) : 3 ≤ qB W r ∧ qB W r ≤ 27 ∧ o_iadd 3 (o_imul (W : Int) (r : Int)) = qB W r := by
  have := zmul_i (x := (W : Int)) (y := (r : Int)) 6 4 (by omega) (by omega)
  have h0 : 0 ≤ (W : Int) * (r : Int) := Int.mul_nonneg (by omega) (by omega)
  have e1 : o_imul (W : Int) (r : Int) = (W : Int) * (r : Int) := w32_id ⟨by omega, by omega⟩
  rw [e1]
  unfold qB
  exact ⟨by omega, by omega, w32_id ⟨by omega, by omega⟩⟩
theorem qAB_lt {W r r2 : Nat} (h : r2 < r) : qA W r2 + W + 1 ≤ qA W r ∧ qB W r2 + W ≤ qB W r := by
  have h1 : ((r2 : Int) + 1) * ((W : Int) + 1) ≤ (r : Int) * ((W : Int) + 1) := Int.mul_le_mul_of_nonneg_right (by omega) (by omega)
  have h2 : (W : Int) * ((r2 : Int) + 1) ≤ (W : Int) * (r : Int) := Int.mul_le_mul_of_nonneg_left (by omega) (by omega)
  rw [Int.add_mul] at h1
  rw [Int.mul_add] at h2
  unfold qA qB
  omega
theorem qA_S (W r : Nat) : qA W r + 1 + (W : Int) = qA W (r + 1) := by
  unfold qA
  rw [show ((r + 1 : Nat) : Int) = (r : Int) + 1 by omega, Int.add_mul]
  omega
theorem q_putEval {L : Nat} {xs : Nat → Int32} {σ s1 s2 s3 s4 s5 τ : zHp} {x4 a b h w k at0 : Int} (hc : m_L_cell L xs [0, 0] σ = some (x4, σ)) (ha : m_L_some [x4, 4] σ = some (a, σ)) (hb : m_L_some [zShr x4 3, 5] (zput σ 37 0 h) = some (b, zput σ 37 0 h)) (he : o_iadd 2 a = h) (we : o_iadd 2 b = w)
    (h1 : zput (zput (zput (zput (zput σ 37 0 h) 37 1 w) 37 2 10) 37 40 0) 37 41 0 = s1) (p1 : m_X8_sheet [0, 0, 0, 50] s1 = some (1, s2)) (p2 : m_X8_put [0, 0, 0, 103] s2 = some (1, s3)) (p3 : m_X8_put [0, 0, 1, o_iadd 48 (s3 37 0)] s3 = some (1, s4)) (p4 : m_X8_put [0, 0, 2, o_iadd 48 (s4 37 1)] s4 = some (1, s5))
    (hl : sW (lc_L_put_2 L xs) (lf_L_put_2 L xs) (ls_L_put_2 L xs) [0, 0, 0, 37, x4, 3, 0, 0, 0] s5 = some (0, [0, 0, 0, 37, x4, at0, k, 0, 0], τ)) : m_L_put L xs [0, 0, 0, 37] σ = some (at0, τ) := by
  rw [e_L_put]
  unfold d_L_put
  rw [sQ_s (e1 := [0, 0, 0, 37, x4, 0, 0, 0, 0]) (σ1 := σ) (by simp [xC_e, xL_e, xU_e, xB_e, xD_e, xF_e, xG_e, xA_e, xE_e, xH_e, xI_e, xZ_e, xK_e, aN_e, aC_e, cR_e, cV_e, cA_e, cO_e, cN_e, bs_e, bn_e, zg_0, zg_S, sS_e, sX_e, sF_e, sG_e, sA_e, sE_e, sEo_e, sK_e, sQ_e, sI_e, sR_e, sV_e, sB_e, sC_e, sD_e, sN_e, st_0, st_S, zc_0, zc_S, hc])]
  rw [sQ_s (e1 := [0, 0, 0, 37, x4, 0, 0, 0, 0]) (σ1 := zput σ 37 0 h) (by simp [xC_e, xL_e, xU_e, xB_e, xD_e, xF_e, xG_e, xA_e, xE_e, xH_e, xI_e, xZ_e, xK_e, aN_e, aC_e, cR_e, cV_e, cA_e, cO_e, cN_e, bs_e, bn_e, zg_0, zg_S, sS_e, sX_e, sF_e, sG_e, sA_e, sE_e, sEo_e, sK_e, sQ_e, sI_e, sR_e, sV_e, sB_e, sC_e, sD_e, sN_e, st_0, st_S, zc_0, zc_S, ha, he])]
  rw [sQ_s (e1 := [0, 0, 0, 37, x4, 0, 0, 0, 0]) (σ1 := zput (zput σ 37 0 h) 37 1 w) (by simp [xC_e, xL_e, xU_e, xB_e, xD_e, xF_e, xG_e, xA_e, xE_e, xH_e, xI_e, xZ_e, xK_e, aN_e, aC_e, cR_e, cV_e, cA_e, cO_e, cN_e, bs_e, bn_e, zg_0, zg_S, sS_e, sX_e, sF_e, sG_e, sA_e, sE_e, sEo_e, sK_e, sQ_e, sI_e, sR_e, sV_e, sB_e, sC_e, sD_e, sN_e, st_0, st_S, zc_0, zc_S, hb, we])]
  rw [sQ_s (e1 := [0, 0, 0, 37, x4, 0, 0, 0, 0]) (σ1 := zput (zput (zput σ 37 0 h) 37 1 w) 37 2 10) (by simp [xC_e, xL_e, xU_e, xB_e, xD_e, xF_e, xG_e, xA_e, xE_e, xH_e, xI_e, xZ_e, xK_e, aN_e, aC_e, cR_e, cV_e, cA_e, cO_e, cN_e, bs_e, bn_e, zg_0, zg_S, sS_e, sX_e, sF_e, sG_e, sA_e, sE_e, sEo_e, sK_e, sQ_e, sI_e, sR_e, sV_e, sB_e, sC_e, sD_e, sN_e, st_0, st_S, zc_0, zc_S])]
  rw [sQ_s (e1 := [0, 0, 0, 37, x4, 0, 0, 0, 0]) (σ1 := zput (zput (zput (zput σ 37 0 h) 37 1 w) 37 2 10) 37 40 0) (by simp [xC_e, xL_e, xU_e, xB_e, xD_e, xF_e, xG_e, xA_e, xE_e, xH_e, xI_e, xZ_e, xK_e, aN_e, aC_e, cR_e, cV_e, cA_e, cO_e, cN_e, bs_e, bn_e, zg_0, zg_S, sS_e, sX_e, sF_e, sG_e, sA_e, sE_e, sEo_e, sK_e, sQ_e, sI_e, sR_e, sV_e, sB_e, sC_e, sD_e, sN_e, st_0, st_S, zc_0, zc_S])]
  rw [sQ_s (e1 := [0, 0, 0, 37, x4, 0, 0, 0, 0]) (σ1 := s1) (by simp [xC_e, xL_e, xU_e, xB_e, xD_e, xF_e, xG_e, xA_e, xE_e, xH_e, xI_e, xZ_e, xK_e, aN_e, aC_e, cR_e, cV_e, cA_e, cO_e, cN_e, bs_e, bn_e, zg_0, zg_S, sS_e, sX_e, sF_e, sG_e, sA_e, sE_e, sEo_e, sK_e, sQ_e, sI_e, sR_e, sV_e, sB_e, sC_e, sD_e, sN_e, st_0, st_S, zc_0, zc_S, h1])]
  rw [sQ_s (e1 := [0, 0, 0, 37, x4, 0, 0, 0, 0]) (σ1 := s5) (by simp [xC_e, xL_e, xU_e, xB_e, xD_e, xF_e, xG_e, xA_e, xE_e, xH_e, xI_e, xZ_e, xK_e, aN_e, aC_e, cR_e, cV_e, cA_e, cO_e, cN_e, bs_e, bn_e, zg_0, zg_S, sS_e, sX_e, sF_e, sG_e, sA_e, sE_e, sEo_e, sK_e, sQ_e, sI_e, sR_e, sV_e, sB_e, sC_e, sD_e, sN_e, st_0, st_S, zc_0, zc_S, r_eq, r_ne, r_lt, r_le, r_gt, r_ge, rb_ite, rb_0, rb_1, p1, p2, p3, p4])]
  rw [sQ_s (e1 := [0, 0, 0, 37, x4, 3, 0, 0, 0]) (σ1 := s5) (by simp [xC_e, xL_e, xU_e, xB_e, xD_e, xF_e, xG_e, xA_e, xE_e, xH_e, xI_e, xZ_e, xK_e, aN_e, aC_e, cR_e, cV_e, cA_e, cO_e, cN_e, bs_e, bn_e, zg_0, zg_S, sS_e, sX_e, sF_e, sG_e, sA_e, sE_e, sEo_e, sK_e, sQ_e, sI_e, sR_e, sV_e, sB_e, sC_e, sD_e, sN_e, st_0, st_S, zc_0, zc_S])]
  rw [sQ_s (e1 := [0, 0, 0, 37, x4, at0, 0, 0, 0]) (σ1 := τ) (by
    refine (sD_0 (e1 := [0, 0, 0, 37, x4, at0, k, 0, 0]) ?_).trans rfl
    rw [sQ_s (e1 := [0, 0, 0, 37, x4, 3, 0, 0, 0]) (σ1 := s5) (by simp [xC_e, xL_e, xU_e, xB_e, xD_e, xF_e, xG_e, xA_e, xE_e, xH_e, xI_e, xZ_e, xK_e, aN_e, aC_e, cR_e, cV_e, cA_e, cO_e, cN_e, bs_e, bn_e, zg_0, zg_S, sS_e, sX_e, sF_e, sG_e, sA_e, sE_e, sEo_e, sK_e, sQ_e, sI_e, sR_e, sV_e, sB_e, sC_e, sD_e, sN_e, st_0, st_S, zc_0, zc_S])]
    exact hl)]
  simp [xC_e, xL_e, xU_e, xB_e, xD_e, xF_e, xG_e, xA_e, xE_e, xH_e, xI_e, xZ_e, xK_e, aN_e, aC_e, cR_e, cV_e, cA_e, cO_e, cN_e, bs_e, bn_e, zg_0, zg_S, sS_e, sX_e, sF_e, sG_e, sA_e, sE_e, sEo_e, sK_e, sQ_e, sI_e, sR_e, sV_e, sB_e, sC_e, sD_e, sN_e, st_0, st_S, zc_0, zc_S]
