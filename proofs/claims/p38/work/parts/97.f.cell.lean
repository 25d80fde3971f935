/-! a cell of a turn -/
theorem zOk_39 {σ : zHp} (h : zOk σ) {i v : Int} (hi : 0 ≤ i ∧ i < 60) (hv : r32 v) : zOk (zput σ 39 i v) := by
  have := zOk_put (o := 39) (i := i.toNat) h (v := v) (by
    have e : zst 39 i.toNat = 0 := by rfl
    rw [e]
    exact hv)
  rw [show ((i.toNat : Nat) : Int) = i by omega] at this
  exact this
theorem qW.free {σ x y : zHp} (h : qW σ x) (ho : zOk y) {k : Int} (hk : 38 ≤ k ∧ k ≤ 42) (e : ∀ a b : Int, a ≠ k → y a b = x a b) : qW σ y := h.st ho (fun a b q => e a b (fun z => by unfold zfree at q; exact absurd (show _ from Or.inr (Or.inr (Or.inr (Or.inr (Or.inr (by omega)))))) (of_decide_eq_false q)))
theorem q_lwC1 {L : Nat} {xs : Nat → Int32} {υ : zHp} {n C N t w c S k a b d e : Int} : lc_L_law_1 L xs [0, 0, 37, n, C, N, 38, t, w, 39, c, S, k, a, b, d, e] υ = some (decide (k < N), υ) := by
  simp [lc_L_law_1, xC_e, xL_e, xU_e, xB_e, xD_e, xF_e, xG_e, xA_e, xE_e, xH_e, xI_e, xZ_e, xK_e, aN_e, aC_e, cR_e, cV_e, cA_e, cO_e, cN_e, bs_e, bn_e, zg_0, zg_S, sS_e, sX_e, sF_e, sG_e, sA_e, sE_e, sEo_e, sK_e, sQ_e, sI_e, sR_e, sV_e, sB_e, sC_e, sD_e, sN_e, st_0, st_S, zc_0, zc_S, r_eq, r_ne, r_lt, r_le, r_gt, r_ge, rb_ite, rb_0, rb_1]
theorem q_lwB1 {L : Nat} {xs : Nat → Int32} {υ : zHp} {n C N t w c S k k8 a b u d g v : Int} (k6 : 0 ≤ k ∧ k < 6) (k8e : o_iadd 8 k = k8) (k16 : 0 ≤ k8 ∧ k8 < 16) (h1 : υ 38 k = a) (h2 : υ 38 k8 = b) (h3 : m_X8_loud [0, k, c, w, 0] υ = some (u, υ)) (h4 : m_X8_loud [0, k, c, w, 1] υ = some (d, υ)) (h5 : m_L_isAlike [a, b, u, d] υ = some (1, υ)) (ge : (if zAnd (zShr S k) 1 = 1 then zShl 1 c else 0) = g) (ve : zOr (υ 39 k) g = v) :
    lf_L_law_1 L xs [0, 0, 37, n, C, N, 38, t, w, 39, c, S, k, 0, 0, 0, 0] υ = some (0, [0, 0, 37, n, C, N, 38, t, w, 39, c, S, k, 0, 0, 0, 0], zput υ 39 k v) := by
  have kk : 0 ≤ k ∧ k < 16 := by omega
  unfold lf_L_law_1
  rw [sQ_s (e1 := [0, 0, 37, n, C, N, 38, t, w, 39, c, S, k, 0, 0, 0, 0]) (σ1 := υ) (by simp [xC_e, xL_e, xU_e, xB_e, xD_e, xF_e, xG_e, xA_e, xE_e, xH_e, xI_e, xZ_e, xK_e, aN_e, aC_e, cR_e, cV_e, cA_e, cO_e, cN_e, bs_e, bn_e, zg_0, zg_S, sS_e, sX_e, sF_e, sG_e, sA_e, sE_e, sEo_e, sK_e, sQ_e, sI_e, sR_e, sV_e, sB_e, sC_e, sD_e, sN_e, st_0, st_S, zc_0, zc_S, r_eq, r_ne, r_lt, r_le, r_gt, r_ge, rb_ite, rb_0, rb_1, kk, k8e, k16, h1, h2, h3, h4, h5])]
  by_cases p : zAnd (zShr S k) 1 = 1
  · rw [if_pos p] at ge
    subst ge
    simp [xC_e, xL_e, xU_e, xB_e, xD_e, xF_e, xG_e, xA_e, xE_e, xH_e, xI_e, xZ_e, xK_e, aN_e, aC_e, cR_e, cV_e, cA_e, cO_e, cN_e, bs_e, bn_e, zg_0, zg_S, sS_e, sX_e, sF_e, sG_e, sA_e, sE_e, sEo_e, sK_e, sQ_e, sI_e, sR_e, sV_e, sB_e, sC_e, sD_e, sN_e, st_0, st_S, zc_0, zc_S, r_eq, r_ne, r_lt, r_le, r_gt, r_ge, rb_ite, rb_0, rb_1, k6, p, ve]
  · rw [if_neg p] at ge
    subst ge
    simp [xC_e, xL_e, xU_e, xB_e, xD_e, xF_e, xG_e, xA_e, xE_e, xH_e, xI_e, xZ_e, xK_e, aN_e, aC_e, cR_e, cV_e, cA_e, cO_e, cN_e, bs_e, bn_e, zg_0, zg_S, sS_e, sX_e, sF_e, sG_e, sA_e, sE_e, sEo_e, sK_e, sQ_e, sI_e, sR_e, sV_e, sB_e, sC_e, sD_e, sN_e, st_0, st_S, zc_0, zc_S, r_eq, r_ne, r_lt, r_le, r_gt, r_ge, rb_ite, rb_0, rb_1, k6, p, ve]
theorem q_lwB2 {L : Nat} {xs : Nat → Int32} {x y z z1 z2 : zHp} {n C N t w c S k r : Int} (h1 : m_L_hear_a [37, c, w, 38] x = some (0, y)) (h2 : m_L_best_a [37, 38] y = some (S, y)) (hl : sW (lc_L_law_1 L xs) (lf_L_law_1 L xs) (ls_L_law_1 L xs) [0, 0, 37, n, C, N, 38, t, w, 39, c, S, 0, 0, 0, 0, 0] y = some (0, [0, 0, 37, n, C, N, 38, t, w, 39, c, S, k, 0, 0, 0, 0], z)) (h3 : m_X8_whose [0, c, w] z = some (r, z1)) (h4 : m_L_whose [37, c, w] z1 = some (r, z2)) :
    lf_L_law_2 L xs [0, 0, 37, n, C, N, 38, t, w, 39, c, 0, 0, 0, 0, 0, 0] x = some (0, [0, 0, 37, n, C, N, 38, t, w, 39, c, 0, 0, 0, 0, 0, 0], z2) := by
  unfold lf_L_law_2
  refine (sD_0 (e1 := [0, 0, 37, n, C, N, 38, t, w, 39, c, S, 0, 0, 0, 0, 0]) ?_).trans rfl
  rw [sQ_s (e1 := [0, 0, 37, n, C, N, 38, t, w, 39, c, 0, 0, 0, 0, 0, 0]) (σ1 := y) (by simp [xC_e, xL_e, xU_e, xB_e, xD_e, xF_e, xG_e, xA_e, xE_e, xH_e, xI_e, xZ_e, xK_e, aN_e, aC_e, cR_e, cV_e, cA_e, cO_e, cN_e, bs_e, bn_e, zg_0, zg_S, sS_e, sX_e, sF_e, sG_e, sA_e, sE_e, sEo_e, sK_e, sQ_e, sI_e, sR_e, sV_e, sB_e, sC_e, sD_e, sN_e, st_0, st_S, zc_0, zc_S, h1])]
  rw [sQ_s (e1 := [0, 0, 37, n, C, N, 38, t, w, 39, c, S, 0, 0, 0, 0, 0]) (σ1 := y) (by simp [xC_e, xL_e, xU_e, xB_e, xD_e, xF_e, xG_e, xA_e, xE_e, xH_e, xI_e, xZ_e, xK_e, aN_e, aC_e, cR_e, cV_e, cA_e, cO_e, cN_e, bs_e, bn_e, zg_0, zg_S, sS_e, sX_e, sF_e, sG_e, sA_e, sE_e, sEo_e, sK_e, sQ_e, sI_e, sR_e, sV_e, sB_e, sC_e, sD_e, sN_e, st_0, st_S, zc_0, zc_S, h2])]
  rw [sQ_s (e1 := [0, 0, 37, n, C, N, 38, t, w, 39, c, S, 0, 0, 0, 0, 0]) (σ1 := z) (by
    refine (sD_0 (e1 := [0, 0, 37, n, C, N, 38, t, w, 39, c, S, k, 0, 0, 0, 0]) ?_).trans rfl
    rw [sQ_s (e1 := [0, 0, 37, n, C, N, 38, t, w, 39, c, S, 0, 0, 0, 0, 0]) (σ1 := y) (by simp [xC_e, xL_e, xU_e, xB_e, xD_e, xF_e, xG_e, xA_e, xE_e, xH_e, xI_e, xZ_e, xK_e, aN_e, aC_e, cR_e, cV_e, cA_e, cO_e, cN_e, bs_e, bn_e, zg_0, zg_S, sS_e, sX_e, sF_e, sG_e, sA_e, sE_e, sEo_e, sK_e, sQ_e, sI_e, sR_e, sV_e, sB_e, sC_e, sD_e, sN_e, st_0, st_S, zc_0, zc_S])]
    exact hl)]
  simp [xC_e, xL_e, xU_e, xB_e, xD_e, xF_e, xG_e, xA_e, xE_e, xH_e, xI_e, xZ_e, xK_e, aN_e, aC_e, cR_e, cV_e, cA_e, cO_e, cN_e, bs_e, bn_e, zg_0, zg_S, sS_e, sX_e, sF_e, sG_e, sA_e, sE_e, sEo_e, sK_e, sQ_e, sI_e, sR_e, sV_e, sB_e, sC_e, sD_e, sN_e, st_0, st_S, zc_0, zc_S, r_eq, r_ne, r_lt, r_le, r_gt, r_ge, rb_ite, rb_0, rb_1, h3, h4]
theorem q_lwB3 {L : Nat} {xs : Nat → Int32} {x y : zHp} {n C N t w k r : Int} (k6 : 0 ≤ k ∧ k < 6) (h1 : m_X8_reach [0, k, w] x = some (r, y)) (h2 : y 39 k = r) :
    lf_L_law_3 L xs [0, 0, 37, n, C, N, 38, t, w, 39, k, 0, 0, 0, 0, 0, 0] x = some (0, [0, 0, 37, n, C, N, 38, t, w, 39, k, 0, 0, 0, 0, 0, 0], y) := by
  unfold lf_L_law_3
  simp [xC_e, xL_e, xU_e, xB_e, xD_e, xF_e, xG_e, xA_e, xE_e, xH_e, xI_e, xZ_e, xK_e, aN_e, aC_e, cR_e, cV_e, cA_e, cO_e, cN_e, bs_e, bn_e, zg_0, zg_S, sS_e, sX_e, sF_e, sG_e, sA_e, sE_e, sEo_e, sK_e, sQ_e, sI_e, sR_e, sV_e, sB_e, sC_e, sD_e, sN_e, st_0, st_S, zc_0, zc_S, r_eq, r_ne, r_lt, r_le, r_gt, r_ge, rb_ite, rb_0, rb_1, k6, h1, h2]
theorem q_lwC2 {L : Nat} {xs : Nat → Int32} {υ : zHp} {n C N t w c a1 a2 a3 a4 a5 a6 : Int} : lc_L_law_2 L xs [0, 0, 37, n, C, N, 38, t, w, 39, c, a1, a2, a3, a4, a5, a6] υ = some (decide (c < C), υ) := by
  simp [lc_L_law_2, xC_e, xL_e, xU_e, xB_e, xD_e, xF_e, xG_e, xA_e, xE_e, xH_e, xI_e, xZ_e, xK_e, aN_e, aC_e, cR_e, cV_e, cA_e, cO_e, cN_e, bs_e, bn_e, zg_0, zg_S, sS_e, sX_e, sF_e, sG_e, sA_e, sE_e, sEo_e, sK_e, sQ_e, sI_e, sR_e, sV_e, sB_e, sC_e, sD_e, sN_e, st_0, st_S, zc_0, zc_S, r_eq, r_ne, r_lt, r_le, r_gt, r_ge, rb_ite, rb_0, rb_1]
theorem q_lwC3 {L : Nat} {xs : Nat → Int32} {υ : zHp} {n C N t w c a1 a2 a3 a4 a5 a6 : Int} : lc_L_law_3 L xs [0, 0, 37, n, C, N, 38, t, w, 39, c, a1, a2, a3, a4, a5, a6] υ = some (decide (c < N), υ) := by
  simp [lc_L_law_3, xC_e, xL_e, xU_e, xB_e, xD_e, xF_e, xG_e, xA_e, xE_e, xH_e, xI_e, xZ_e, xK_e, aN_e, aC_e, cR_e, cV_e, cA_e, cO_e, cN_e, bs_e, bn_e, zg_0, zg_S, sS_e, sX_e, sF_e, sG_e, sA_e, sE_e, sEo_e, sK_e, sQ_e, sI_e, sR_e, sV_e, sB_e, sC_e, sD_e, sN_e, st_0, st_S, zc_0, zc_S, r_eq, r_ne, r_lt, r_le, r_gt, r_ge, rb_ite, rb_0, rb_1]
