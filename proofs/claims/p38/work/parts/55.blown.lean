theorem w_strength {w : Int} (hw : 0 ≤ w ∧ w ≤ 39) (σ : zHp) : m_X0_strength [w] σ = some (10 + w % 10, σ) := by
  have e1 : o_iadd 10 (zmod w 10) = 10 + w % 10 := by
    rw [zmod_e hw.1]
    exact w32_id ⟨by omega, by omega⟩
  simp [e_X0_strength, d_X0_strength, xC_e, xL_e, xU_e, xB_e, xD_e, xF_e, xG_e, xA_e, xE_e, xH_e, xI_e, xZ_e, xK_e, aN_e, aC_e, cR_e, cV_e, cA_e, cO_e, cN_e, bs_e, bn_e, zg_0, zg_S, sS_e, sX_e, sF_e, sG_e, sA_e, sE_e, sEo_e, sK_e, sQ_e, sI_e, sR_e, sV_e, sB_e, sC_e, sD_e, sN_e, st_0, st_S, zc_0, zc_S, e1]
theorem w_downwind {σ : zHp} (hL : zIL σ) (hH : zIH σ) {f c w : Int} (hf : 0 ≤ f ∧ f < σ 1 2) (hc : 0 ≤ c ∧ c < σ 1 2) (hw : 0 ≤ w ∧ w ≤ 39) : m_X3_downwind [1, f, c, w] σ = some (zAl (zRo σ f c) (zCo σ f c) w, σ) := by
  have nN := zN_eq hL
  obtain ⟨l1, l2, l3, l4, -⟩ := zLen_i hL hf hc
  obtain ⟨-, -, -, f3, f4⟩ := hH f hf.1 hf.2
  obtain ⟨-, -, -, t3, t4⟩ := hH c hc.1 hc.2
  have rf := zRC hL hf
  have rc := zRC hL hc
  have f30 : 0 ≤ f ∧ f < 30 := by omega
  have c30 : 0 ≤ c ∧ c < 30 := by omega
  have er : o_isub (σ 3 c) (σ 3 f) = zRo σ f c := by rw [f3, t3]; exact w32_id ⟨by omega, by omega⟩
  have ec : o_isub (σ 4 c) (σ 4 f) = zCo σ f c := by rw [f4, t4]; exact w32_id ⟨by omega, by omega⟩
  have er2 : o_isub (σ 3 f) (σ 3 c) = -zRo σ f c := by
    have : o_isub (σ 3 f) (σ 3 c) = σ 3 f - σ 3 c := by rw [f3, t3]; exact w32_id ⟨by omega, by omega⟩
    rw [this, f3, t3]
    unfold zRo
    omega
  have ec2 : o_isub (σ 4 f) (σ 4 c) = -zCo σ f c := by
    have : o_isub (σ 4 f) (σ 4 c) = σ 4 f - σ 4 c := by rw [f4, t4]; exact w32_id ⟨by omega, by omega⟩
    rw [this, f4, t4]
    unfold zCo
    omega
  have ew : zdiv w 10 = w / 10 := zdiv_e (by omega) (by decide)
  unfold zAl
  rcases (show w / 10 = 0 ∨ w / 10 = 1 ∨ w / 10 = 2 ∨ w / 10 = 3 by omega) with h | h | h | h <;> rw [h] <;> rw [h] at ew <;> simp [e_X3_downwind, d_X3_downwind, xC_e, xL_e, xU_e, xB_e, xD_e, xF_e, xG_e, xA_e, xE_e, xH_e, xI_e, xZ_e, xK_e, aN_e, aC_e, cR_e, cV_e, cA_e, cO_e, cN_e, bs_e, bn_e, zg_0, zg_S, sS_e, sX_e, sF_e, sG_e, sA_e, sE_e, sEo_e, sK_e, sQ_e, sI_e, sR_e, sV_e, sB_e, sC_e, sD_e, sN_e, st_0, st_S, zc_0, zc_S, r_eq, r_ne, r_lt, r_le, r_gt, r_ge, rb_ite, rb_0, rb_1, zpick, ew, f30, c30, er, ec, er2, ec2]
def zK (a w : Int) : Int := if 0 < a then (10 + w % 10) * (10 + w % 10) else if a < 0 then 100 else 10 * (10 + w % 10)
theorem zK_b {a w : Int} (hw : 0 ≤ w ∧ w ≤ 39) : 100 ≤ zK a w ∧ zK a w ≤ 361 := by
  unfold zK
  split
  · rcases (show w % 10 = 0 ∨ w % 10 = 1 ∨ w % 10 = 2 ∨ w % 10 = 3 ∨ w % 10 = 4 ∨ w % 10 = 5 ∨ w % 10 = 6 ∨ w % 10 = 7 ∨ w % 10 = 8 ∨ w % 10 = 9 by omega) with h | h | h | h | h | h | h | h | h | h <;> rw [h] <;> decide
  · split <;> omega
/-- grains: a bell's, hung in f, of weight 1 -/
def zGr (σ : zHp) (v f c w : Int) : Int := v * zK (zAl (zRo σ f c) (zCo σ f c) w) w
theorem w_blown {σ : zHp} (hL : zIL σ) (hH : zIH σ) {v f c w : Int} (hv : 0 ≤ v ∧ v ≤ zONE) (hf : 0 ≤ f ∧ f < σ 1 2) (hc : 0 ≤ c ∧ c < σ 1 2) (hw : 0 ≤ w ∧ w ≤ 39) : m_X0_blown [10, v, f, c, w] σ = some (zGr σ v f c w, σ) := by
  have hv2 : v ≤ 59579996636160 := hv.2
  have s1 := w_downwind hL hH hf hc hw
  have s2 := w_strength hw σ
  unfold zGr zK
  generalize zAl (zRo σ f c) (zCo σ f c) w = a at *
  have ws : 10 ≤ 10 + w % 10 ∧ 10 + w % 10 ≤ 19 := by omega
  generalize 10 + w % 10 = s at *
  have k1 := zmul_i (x := v) (y := s) 59579996636160 19 (by omega) (by omega)
  have o1 : o_lmul v s = v * s := w64_id ⟨by omega, by omega⟩
  have k2 := zmul_i (x := v * s) (y := s) 1132019936087040 19 (by omega) (by omega)
  have o2 : o_lmul (v * s) s = v * (s * s) := by rw [← Int.mul_assoc]; exact w64_id ⟨by omega, by omega⟩
  have o3 : o_lmul v 100 = v * 100 := w64_id ⟨by omega, by omega⟩
  have o4 : o_lmul v 10 = v * 10 := w64_id ⟨by omega, by omega⟩
  have k3 := zmul_i (x := v * 10) (y := s) 595799966361600 19 (by omega) (by omega)
  have o5 : o_lmul (v * 10) s = v * (10 * s) := by rw [← Int.mul_assoc]; exact w64_id ⟨by omega, by omega⟩
  by_cases p : 0 < a
  · simp [e_X0_blown, d_X0_blown, xC_e, xL_e, xU_e, xB_e, xD_e, xF_e, xG_e, xA_e, xE_e, xH_e, xI_e, xZ_e, xK_e, aN_e, aC_e, cR_e, cV_e, cA_e, cO_e, cN_e, bs_e, bn_e, zg_0, zg_S, sS_e, sX_e, sF_e, sG_e, sA_e, sE_e, sEo_e, sK_e, sQ_e, sI_e, sR_e, sV_e, sB_e, sC_e, sD_e, sN_e, st_0, st_S, zc_0, zc_S, r_eq, r_ne, r_lt, r_le, r_gt, r_ge, rb_ite, rb_0, rb_1, s1, s2, p, o1, o2]
  · by_cases p2 : a < 0
    · simp [e_X0_blown, d_X0_blown, xC_e, xL_e, xU_e, xB_e, xD_e, xF_e, xG_e, xA_e, xE_e, xH_e, xI_e, xZ_e, xK_e, aN_e, aC_e, cR_e, cV_e, cA_e, cO_e, cN_e, bs_e, bn_e, zg_0, zg_S, sS_e, sX_e, sF_e, sG_e, sA_e, sE_e, sEo_e, sK_e, sQ_e, sI_e, sR_e, sV_e, sB_e, sC_e, sD_e, sN_e, st_0, st_S, zc_0, zc_S, r_eq, r_ne, r_lt, r_le, r_gt, r_ge, rb_ite, rb_0, rb_1, s1, s2, p, p2, o3]
    · simp [e_X0_blown, d_X0_blown, xC_e, xL_e, xU_e, xB_e, xD_e, xF_e, xG_e, xA_e, xE_e, xH_e, xI_e, xZ_e, xK_e, aN_e, aC_e, cR_e, cV_e, cA_e, cO_e, cN_e, bs_e, bn_e, zg_0, zg_S, sS_e, sX_e, sF_e, sG_e, sA_e, sE_e, sEo_e, sK_e, sQ_e, sI_e, sR_e, sV_e, sB_e, sC_e, sD_e, sN_e, st_0, st_S, zc_0, zc_S, r_eq, r_ne, r_lt, r_le, r_gt, r_ge, rb_ite, rb_0, rb_1, s1, s2, p, p2, o4, o5]
/-- the two sides of it -/
theorem zGr_e {σ : zHp} {v kd f c w : Int} (hv : v * zDn σ kd f c = zONE * zU kd) : zGr σ v f c w * zQd σ kd f c w = zONE * 10 * (10 + w % 10) * zPu σ kd f c w := by
  unfold zGr zQd zPu zK zWd zWu
  generalize zAl (zRo σ f c) (zCo σ f c) w = a at *
  generalize 10 + w % 10 = s at *
  generalize zDn σ kd f c = d at *
  generalize zU kd = u at *
  by_cases p : 0 < a
  · rw [if_pos p, if_pos p, if_pos p]
    calc v * (s * s) * (d * 10) = v * d * (s * s * 10) := by ac_rfl
      _ = zONE * u * (s * s * 10) := by rw [hv]
      _ = zONE * 10 * s * (u * s) := by ac_rfl
  · by_cases p2 : a < 0
    · rw [if_neg p, if_neg p, if_neg p, if_pos p2, if_pos p2, if_pos p2]
      calc v * 100 * (d * s) = v * d * (100 * s) := by ac_rfl
        _ = zONE * u * (100 * s) := by rw [hv]
        _ = zONE * u * (10 * 10 * s) := rfl
        _ = zONE * 10 * s * (u * 10) := by ac_rfl
    · rw [if_neg p, if_neg p, if_neg p, if_neg p2, if_neg p2, if_neg p2]
      calc v * (10 * s) * (d * 1) = v * d * (10 * s) := by rw [Int.mul_one]; ac_rfl
        _ = zONE * u * (10 * s) := by rw [hv]
        _ = zONE * 10 * s * (u * 1) := by rw [Int.mul_one]; ac_rfl
theorem zCalm_b {σ : zHp} (hL : zIL σ) {v kd f c : Int} (hf : 0 ≤ f ∧ f < σ 1 2) (hc : 0 ≤ c ∧ c < σ 1 2) (hv : v * zDn σ kd f c = zONE * zU kd) : 1 ≤ v ∧ v ≤ zONE := by
  have db := zDn_b hL (kind := kd) hf hc
  have u := zU_b kd
  obtain ⟨d0, d1, -⟩ := zFar_d hL (kind := kd) hf hc
  obtain ⟨l1, l2, l3, l4, l5, l6, -⟩ := zLen_i hL hf hc
  have dU : zU kd ≤ zDn σ kd f c := by
    have b := zDim_b σ kd f c (zLen σ f c - 1).toNat (by omega)
    unfold zDn
    have := Int.mul_le_mul_of_nonneg_left b.1 (show 0 ≤ zU kd + zFar σ f c by omega)
    omega
  have on : (0 : Int) < zONE := by decide
  have pos : 0 < zONE * zU kd := Int.mul_pos on (by omega)
  generalize zDn σ kd f c = d at *
  generalize zU kd = u2 at *
  constructor
  · rcases Int.lt_or_le 0 v with q | q
    · omega
    · have := Int.mul_nonneg (show 0 ≤ -v by omega) (show 0 ≤ d by omega)
      rw [Int.neg_mul] at this
      omega
  · rcases Int.lt_or_le zONE v with q | q
    · have h1 := Int.mul_le_mul_of_nonneg_right (show zONE + 1 ≤ v by omega) (show 0 ≤ d by omega)
      have h2 := Int.mul_le_mul_of_nonneg_left dU (show 0 ≤ zONE + 1 by omega)
      have h3 : (zONE + 1) * u2 = zONE * u2 + u2 := by rw [Int.add_mul, Int.one_mul]
      omega
    · exact q
