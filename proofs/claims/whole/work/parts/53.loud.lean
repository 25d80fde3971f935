theorem v_onTo {on k n : Int} (hn : n ≤ 5) (h1 : on ≤ n) (h2 : -n ≤ on) (hk : 1 ≤ k) (hk2 : k < n) (σ : zHp) : m_X9_onTo [on, k, n] σ = some (zOn on k n, σ) := by
  obtain ⟨p1, p2, -, -⟩ := zOn_i hn h1 h2 hk hk2
  have e1 : o_imul 2 k = 2 * k := w32_id ⟨by omega, by omega⟩
  have b := zmul_i (x := 2 * k) (y := on) 10 5 (by omega) (by omega)
  have e2 : o_imul (2 * k) on = 2 * k * on := w32_id ⟨by omega, by omega⟩
  have e3 : o_isub (2 * k * on) n = 2 * k * on - n := w32_id ⟨by omega, by omega⟩
  have e4 : o_iadd (2 * k * on) n = 2 * k * on + n := w32_id ⟨by omega, by omega⟩
  have e5 : o_imul 2 n = 2 * n := w32_id ⟨by omega, by omega⟩
  have n0 : ¬ 2 * n = 0 := by omega
  have e6 : w32 (zOn on k n) = zOn on k n := by
    refine w32_id ⟨?_, ?_⟩ <;> rcases Int.le_total 0 on with q | q
    · have := p1 q; omega
    · have := p2 q; omega
    · have := p1 q; omega
    · have := p2 q; omega
  by_cases s : 2 * k * on < 0
  · have e7 : zdiv (2 * k * on - n) (2 * n) = zOn on k n := by
      unfold zdiv
      rw [← e6]
      unfold zOn
      rw [if_pos s]
    simp only [e_X9_onTo, d_X9_onTo, xC_e, xL_e, xU_e, xB_e, xD_e, xF_e, xG_e, xA_e, xE_e, xH_e, xI_e, xZ_e, xK_e, aN_e, aC_e, cR_e, cV_e, cA_e, cO_e, cN_e, bs_e, bn_e, zg_0, zg_S, sS_e, sX_e, sF_e, sG_e, sA_e, sE_e, sEo_e, sK_e, sQ_e, sI_e, sR_e, sV_e, sB_e, sC_e, sD_e, sN_e, sP_e, sY_e, st_0, st_S, zc_0, zc_S, r_eq, r_ne, r_lt, r_le, r_gt, r_ge, rb_ite, rb_0, rb_1, e1, e2]
    simp [s, xC_e, xL_e, xU_e, xB_e, xD_e, xF_e, xG_e, xA_e, xE_e, xH_e, xI_e, xZ_e, xK_e, aN_e, aC_e, cR_e, cV_e, cA_e, cO_e, cN_e, bs_e, bn_e, zg_0, zg_S, sS_e, sX_e, sF_e, sG_e, sA_e, sE_e, sEo_e, sK_e, sQ_e, sI_e, sR_e, sV_e, sB_e, sC_e, sD_e, sN_e, sP_e, sY_e, st_0, st_S, zc_0, zc_S, e3, e5, n0, e7]
  · have e7 : zdiv (2 * k * on + n) (2 * n) = zOn on k n := by
      unfold zdiv
      rw [← e6]
      unfold zOn
      rw [if_neg s]
    simp only [e_X9_onTo, d_X9_onTo, xC_e, xL_e, xU_e, xB_e, xD_e, xF_e, xG_e, xA_e, xE_e, xH_e, xI_e, xZ_e, xK_e, aN_e, aC_e, cR_e, cV_e, cA_e, cO_e, cN_e, bs_e, bn_e, zg_0, zg_S, sS_e, sX_e, sF_e, sG_e, sA_e, sE_e, sEo_e, sK_e, sQ_e, sI_e, sR_e, sV_e, sB_e, sC_e, sD_e, sN_e, sP_e, sY_e, st_0, st_S, zc_0, zc_S, r_eq, r_ne, r_lt, r_le, r_gt, r_ge, rb_ite, rb_0, rb_1, e1, e2]
    simp [s, xC_e, xL_e, xU_e, xB_e, xD_e, xF_e, xG_e, xA_e, xE_e, xH_e, xI_e, xZ_e, xK_e, aN_e, aC_e, cR_e, cV_e, cA_e, cO_e, cN_e, bs_e, bn_e, zg_0, zg_S, sS_e, sX_e, sF_e, sG_e, sA_e, sE_e, sEo_e, sK_e, sQ_e, sI_e, sR_e, sV_e, sB_e, sC_e, sD_e, sN_e, sP_e, sY_e, st_0, st_S, zc_0, zc_S, e4, e5, n0, e7]
def zM1 (σ : zHp) (kd f t x : Int) : Int := if σ 2 f < σ 2 x ∧ σ 2 t < σ 2 x ∧ kd ≠ 2 then 2 else 1
def zM2 (σ : zHp) (x : Int) : Int := if σ 42 x = 1 then 2 else 1
theorem v_findBody {σ τ : zHp} {b c w row col dr dc far n k r1 c1 bt f kd : Int} (hb : 0 ≤ b ∧ b < 7) (hf : 0 ≤ f ∧ f < 30) (hc : 0 ≤ c ∧ c < 30) (hx : 0 ≤ bt ∧ bt < 30) (tf : τ 45 b = f) (tk : τ 44 b = kd) (h41f : τ 41 f = σ 2 f) (h41c : τ 41 c = σ 2 c) (h41x : τ 41 bt = σ 2 bt) (h42 : τ 42 bt = σ 42 bt) (hp : σ 42 bt = 0 ∨ σ 42 bt = 1)
    (s1 : m_X9_onTo [dr, k, n] τ = some (r1, τ)) (s2 : m_X9_onTo [dc, k, n] τ = some (c1, τ)) (a1 : o_iadd (o_iadd (o_imul (τ 37 6) (o_iadd row r1)) col) c1 = bt) :
    lf_X9_findLoud_1 [37, b, c, w, row, col, dr, dc, far, n, k, 0, 0] τ = some (0, [37, b, c, w, row, col, dr, dc, far, n, k, 0, 0], zput τ 37 19 (o_lmul (o_lmul (τ 37 19) (zM1 σ kd f c bt)) (zM2 σ bt))) := by
  have z42 : ∀ v, zput τ 37 19 v 42 bt = σ 42 bt := fun v => by rw [zput_o (by decide)]; exact h42
  unfold zM1 zM2
  by_cases q1 : σ 2 f < σ 2 bt
  · by_cases q2 : σ 2 c < σ 2 bt
    · by_cases q3 : kd = 2
      · rcases hp with p | p <;> simp [lf_X9_findLoud_1, xC_e, xL_e, xU_e, xB_e, xD_e, xF_e, xG_e, xA_e, xE_e, xH_e, xI_e, xZ_e, xK_e, aN_e, aC_e, cR_e, cV_e, cA_e, cO_e, cN_e, bs_e, bn_e, zg_0, zg_S, sS_e, sX_e, sF_e, sG_e, sA_e, sE_e, sEo_e, sK_e, sQ_e, sI_e, sR_e, sV_e, sB_e, sC_e, sD_e, sN_e, sP_e, sY_e, st_0, st_S, zc_0, zc_S, r_eq, r_ne, r_lt, r_le, r_gt, r_ge, rb_ite, rb_0, rb_1, s1, s2, a1, hb, hf, hc, hx, tf, tk, h41f, h41c, h41x, z42, q1, q2, q3, p, zput_self, zput_put]
      · rcases hp with p | p <;> simp [lf_X9_findLoud_1, xC_e, xL_e, xU_e, xB_e, xD_e, xF_e, xG_e, xA_e, xE_e, xH_e, xI_e, xZ_e, xK_e, aN_e, aC_e, cR_e, cV_e, cA_e, cO_e, cN_e, bs_e, bn_e, zg_0, zg_S, sS_e, sX_e, sF_e, sG_e, sA_e, sE_e, sEo_e, sK_e, sQ_e, sI_e, sR_e, sV_e, sB_e, sC_e, sD_e, sN_e, sP_e, sY_e, st_0, st_S, zc_0, zc_S, r_eq, r_ne, r_lt, r_le, r_gt, r_ge, rb_ite, rb_0, rb_1, s1, s2, a1, hb, hf, hc, hx, tf, tk, h41f, h41c, h41x, z42, q1, q2, q3, p, zput_self, zput_put]
    · rcases hp with p | p <;> simp [lf_X9_findLoud_1, xC_e, xL_e, xU_e, xB_e, xD_e, xF_e, xG_e, xA_e, xE_e, xH_e, xI_e, xZ_e, xK_e, aN_e, aC_e, cR_e, cV_e, cA_e, cO_e, cN_e, bs_e, bn_e, zg_0, zg_S, sS_e, sX_e, sF_e, sG_e, sA_e, sE_e, sEo_e, sK_e, sQ_e, sI_e, sR_e, sV_e, sB_e, sC_e, sD_e, sN_e, sP_e, sY_e, st_0, st_S, zc_0, zc_S, r_eq, r_ne, r_lt, r_le, r_gt, r_ge, rb_ite, rb_0, rb_1, s1, s2, a1, hb, hf, hc, hx, tf, tk, h41f, h41c, h41x, z42, q1, q2, p, zput_self, zput_put]
  · rcases hp with p | p <;> simp [lf_X9_findLoud_1, xC_e, xL_e, xU_e, xB_e, xD_e, xF_e, xG_e, xA_e, xE_e, xH_e, xI_e, xZ_e, xK_e, aN_e, aC_e, cR_e, cV_e, cA_e, cO_e, cN_e, bs_e, bn_e, zg_0, zg_S, sS_e, sX_e, sF_e, sG_e, sA_e, sE_e, sEo_e, sK_e, sQ_e, sI_e, sR_e, sV_e, sB_e, sC_e, sD_e, sN_e, sP_e, sY_e, st_0, st_S, zc_0, zc_S, r_eq, r_ne, r_lt, r_le, r_gt, r_ge, rb_ite, rb_0, rb_1, s1, s2, a1, hb, hf, hc, hx, tf, tk, h41f, h41c, h41x, z42, q1, p, zput_self, zput_put]
theorem v_size {x : Int} (h : -2147483648 < x ∧ x < 2147483648) (σ : zHp) : m_X9_size [x] σ = some (max x (-x), σ) := by
  have e : zneg x = -x := w32_id ⟨by omega, by omega⟩
  by_cases q : x < 0
  · have : max x (-x) = -x := by omega
    simp [e_X9_size, d_X9_size, xC_e, xL_e, xU_e, xB_e, xD_e, xF_e, xG_e, xA_e, xE_e, xH_e, xI_e, xZ_e, xK_e, aN_e, aC_e, cR_e, cV_e, cA_e, cO_e, cN_e, bs_e, bn_e, zg_0, zg_S, sS_e, sX_e, sF_e, sG_e, sA_e, sE_e, sEo_e, sK_e, sQ_e, sI_e, sR_e, sV_e, sB_e, sC_e, sD_e, sN_e, sP_e, sY_e, st_0, st_S, zc_0, zc_S, r_eq, r_ne, r_lt, r_le, r_gt, r_ge, rb_ite, rb_0, rb_1, q, e, this]
  · have : max x (-x) = x := by omega
    simp [e_X9_size, d_X9_size, xC_e, xL_e, xU_e, xB_e, xD_e, xF_e, xG_e, xA_e, xE_e, xH_e, xI_e, xZ_e, xK_e, aN_e, aC_e, cR_e, cV_e, cA_e, cO_e, cN_e, bs_e, bn_e, zg_0, zg_S, sS_e, sX_e, sF_e, sG_e, sA_e, sE_e, sEo_e, sK_e, sQ_e, sI_e, sR_e, sV_e, sB_e, sC_e, sD_e, sN_e, sP_e, sY_e, st_0, st_S, zc_0, zc_S, r_eq, r_ne, r_lt, r_le, r_gt, r_ge, rb_ite, rb_0, rb_1, q, this]
def zAl (dr dc w : Int) : Int := if w / 10 = 0 then -dr else if w / 10 = 1 then dc else if w / 10 = 2 then dr else -dc
theorem v_along {dr dc w : Int} (hr : -4 ≤ dr ∧ dr ≤ 4) (hc : -5 ≤ dc ∧ dc ≤ 5) (hw : 0 ≤ w ∧ w ≤ 39) (σ : zHp) : m_X9_alongWind [dr, dc, w / 10] σ = some (zAl dr dc w, σ) := by
  have e1 : zneg dr = -dr := w32_id ⟨by omega, by omega⟩
  have e2 : zneg dc = -dc := w32_id ⟨by omega, by omega⟩
  unfold zAl
  rcases (show w / 10 = 0 ∨ w / 10 = 1 ∨ w / 10 = 2 ∨ w / 10 = 3 by omega) with h | h | h | h <;> rw [h] <;> simp [e_X9_alongWind, d_X9_alongWind, xC_e, xL_e, xU_e, xB_e, xD_e, xF_e, xG_e, xA_e, xE_e, xH_e, xI_e, xZ_e, xK_e, aN_e, aC_e, cR_e, cV_e, cA_e, cO_e, cN_e, bs_e, bn_e, zg_0, zg_S, sS_e, sX_e, sF_e, sG_e, sA_e, sE_e, sEo_e, sK_e, sQ_e, sI_e, sR_e, sV_e, sB_e, sC_e, sD_e, sN_e, sP_e, sY_e, st_0, st_S, zc_0, zc_S, r_eq, r_ne, r_lt, r_le, r_gt, r_ge, rb_ite, rb_0, rb_1, zpick, e1, e2]
def zWu (a w : Int) : Int := if 0 < a then 10 + w % 10 else if a < 0 then 10 else 1
def zWd (a w : Int) : Int := if 0 < a then 10 else if a < 0 then 10 + w % 10 else 1
theorem zdiv_e {x y : Int} (hx : 0 ≤ x ∧ x < 2147483648) (hy : 0 < y) : zdiv x y = x / y := by
  unfold zdiv
  rw [Int.tdiv_eq_ediv_of_nonneg hx.1]
  have h1 := Int.ediv_nonneg hx.1 (show 0 ≤ y by omega)
  have h2 := Int.ediv_le_self y hx.1
  exact w32_id ⟨by omega, by omega⟩
theorem zmod_e {x y : Int} (hx : 0 ≤ x) : zmod x y = x % y := by
  unfold zmod
  exact Int.tmod_eq_emod_of_nonneg hx
theorem v_findEval {σ : zHp} {b c w f W row col cr cc dr dc far n kk U D0 D1 a kd : Int} (hb : 0 ≤ b ∧ b < 7) (tf : σ 45 b = f) (tk : σ 44 b = kd) (tW : σ 37 6 = W) (W0 : ¬ W = 0) (e1 : zdiv f W = row) (e2 : zmod f W = col) (e3 : zdiv c W = cr) (e4 : zmod c W = cc) (e5 : o_isub cr row = dr) (e6 : o_isub cc col = dc) (e7 : o_iadd (o_imul dr dr) (o_imul dc dc) = far) (e8 : (if kd = 0 then 1 else 2) = U) (e9 : o_ladd U far = D0)
    (s1 : ∀ τ, m_X9_size [dr] τ = some (max dr (-dr), τ)) (s2 : ∀ τ, m_X9_size [dc] τ = some (max dc (-dc), τ)) (e10 : (if max dr (-dr) > max dc (-dc) then max dr (-dr) else max dc (-dc)) = n)
    (hl : sW lc_X9_findLoud_1 lf_X9_findLoud_1 ls_X9_findLoud_1 [37, b, c, w, row, col, dr, dc, far, n, 1, 0, 0] (zput (zput σ 37 18 U) 37 19 D0) = some (0, [37, b, c, w, row, col, dr, dc, far, n, kk, 0, 0], zput (zput σ 37 18 U) 37 19 D1))
    (s3 : ∀ τ, m_X9_alongWind [dr, dc, zdiv w 10] τ = some (a, τ)) : m_X9_findLoud [37, b, c, w] σ = some (0, if 0 < a then zput (zput σ 37 18 (o_lmul U (o_iadd 10 (zmod w 10)))) 37 19 (o_lmul D1 10) else if a < 0 then zput (zput σ 37 18 (o_lmul U 10)) 37 19 (o_lmul D1 (o_iadd 10 (zmod w 10))) else zput (zput σ 37 18 U) 37 19 D1) := by
  have pp : ∀ v v2 v3 v4 : Int, zput (zput (zput (zput σ 37 18 v) 37 19 v2) 37 18 v3) 37 19 v4 = zput (zput σ 37 18 v3) 37 19 v4 := by
    intro v v2 v3 v4
    funext x y
    unfold zput
    by_cases q1 : x = 37 ∧ y = 19
    · rw [if_pos q1, if_pos q1]
    · rw [if_neg q1, if_neg q1]
      by_cases q2 : x = 37 ∧ y = 18
      · rw [if_pos q2, if_neg q1, if_pos q2]
      · rw [if_neg q2, if_neg q2, if_neg q1, if_neg q2]
  have r18 : ∀ v v2 : Int, zput (zput σ 37 18 v) 37 19 v2 37 18 = v := fun v v2 => by rw [zput_i (by decide), zput_self]
  have r19 : ∀ (υ : zHp) (v v2 : Int), zput (zput υ 37 19 v) 37 18 v2 37 19 = v := fun υ v v2 => by rw [zput_i (by decide), zput_self]
  have q18 : zput σ 37 18 U 37 18 = U := zput_self σ 37 18 U
  have hU : (kd = 0 ∧ U = 1) ∨ (¬ kd = 0 ∧ U = 2) := by
    by_cases k0 : kd = 0
    · rw [if_pos k0] at e8; exact Or.inl ⟨k0, e8.symm⟩
    · rw [if_neg k0] at e8; exact Or.inr ⟨k0, e8.symm⟩
  have hn : (max dr (-dr) > max dc (-dc) ∧ n = max dr (-dr)) ∨ (¬ max dr (-dr) > max dc (-dc) ∧ n = max dc (-dc)) := by
    by_cases g : max dr (-dr) > max dc (-dc)
    · rw [if_pos g] at e10; exact Or.inl ⟨g, e10.symm⟩
    · rw [if_neg g] at e10; exact Or.inr ⟨g, e10.symm⟩
  clear e8 e10
  rcases hU with ⟨k0, rfl⟩ | ⟨k0, rfl⟩ <;> rcases hn with ⟨g, rfl⟩ | ⟨g, rfl⟩ <;> rcases (show 0 < a ∨ (¬ 0 < a ∧ a < 0) ∨ (¬ 0 < a ∧ ¬ a < 0) by omega) with p | ⟨p, p2⟩ | ⟨p, p2⟩
  all_goals first
    | simp [e_X9_findLoud, d_X9_findLoud, xC_e, xL_e, xU_e, xB_e, xD_e, xF_e, xG_e, xA_e, xE_e, xH_e, xI_e, xZ_e, xK_e, aN_e, aC_e, cR_e, cV_e, cA_e, cO_e, cN_e, bs_e, bn_e, zg_0, zg_S, sS_e, sX_e, sF_e, sG_e, sA_e, sE_e, sEo_e, sK_e, sQ_e, sI_e, sR_e, sV_e, sB_e, sC_e, sD_e, sN_e, sP_e, sY_e, st_0, st_S, zc_0, zc_S, r_eq, r_ne, r_lt, r_le, r_gt, r_ge, rb_ite, rb_0, rb_1, hb, tf, tk, tW, W0, e1, e2, e3, e4, e5, e6, e7, k0, q18, e9, s1, s2, g, hl, s3, p, p2, r18, r19, pp]
    | simp [e_X9_findLoud, d_X9_findLoud, xC_e, xL_e, xU_e, xB_e, xD_e, xF_e, xG_e, xA_e, xE_e, xH_e, xI_e, xZ_e, xK_e, aN_e, aC_e, cR_e, cV_e, cA_e, cO_e, cN_e, bs_e, bn_e, zg_0, zg_S, sS_e, sX_e, sF_e, sG_e, sA_e, sE_e, sEo_e, sK_e, sQ_e, sI_e, sR_e, sV_e, sB_e, sC_e, sD_e, sN_e, sP_e, sY_e, st_0, st_S, zc_0, zc_S, r_eq, r_ne, r_lt, r_le, r_gt, r_ge, rb_ite, rb_0, rb_1, hb, tf, tk, tW, W0, e1, e2, e3, e4, e5, e6, e7, k0, q18, e9, s1, s2, g, hl, s3, p, r18, r19, pp]
