/-! loud: grains are a whole number of times the fraction -/
theorem zDim_d (σ : zHp) (kd f t : Int) : ∃ x y : Nat, zDim σ kd f t (zLen σ f t - 1).toNat = ((2 ^ x : Nat) : Int) ∧ x + y = 2 * (zLen σ f t - 1).toNat := by
  have h := zDim_p σ kd f t (zLen σ f t - 1).toNat
  have c1 := zcn_le (zPn σ f t) (zLen σ f t - 1).toNat
  have c2 := zcn_le (zHl σ kd f t) (zLen σ f t - 1).toNat
  exact ⟨_, 2 * (zLen σ f t - 1).toNat - (zcn (zPn σ f t) (zLen σ f t - 1).toNat + zcn (zHl σ kd f t) (zLen σ f t - 1).toNat), h, by omega⟩
/-- the way's number divides the grains of one -/
theorem zDn_d {σ : zHp} (hL : zIL σ) {kd f c : Int} (hf : 0 ≤ f ∧ f < σ 1 2) (hc : 0 ≤ c ∧ c < σ 1 2) : ∃ t : Int, 0 < t ∧ zONE = zDn σ kd f c * t := by
  obtain ⟨d0, d1, j, j0, hj⟩ := zFar_d hL (kind := kd) hf hc
  obtain ⟨l1, l2, l3, l4, l5, l6, -⟩ := zLen_i hL hf hc
  obtain ⟨x, y, h1, h2⟩ := zDim_d σ kd f c
  refine ⟨((2 ^ (8 - x) : Nat) : Int) * j, Int.mul_pos (by have := Nat.pow_pos (n := 8 - x) (show 0 < 2 by decide); omega) j0, ?_⟩
  unfold zDn
  rw [h1, hj]
  have e : ((2 ^ x : Nat) : Int) * ((2 ^ (8 - x) : Nat) : Int) = 256 := by
    rw [← Int.natCast_mul, ← Nat.pow_add, show x + (8 - x) = 8 by omega]
    rfl
  calc (zU kd + zFar σ f c) * (256 * j) = (zU kd + zFar σ f c) * (((2 ^ x : Nat) : Int) * ((2 ^ (8 - x) : Nat) : Int) * j) := by rw [e]
    _ = (zU kd + zFar σ f c) * ((2 ^ x : Nat) : Int) * (((2 ^ (8 - x) : Nat) : Int) * j) := by ac_rfl
theorem zQ_d {σ : zHp} (hL : zIL σ) {kd f c w : Int} (hf : 0 ≤ f ∧ f < σ 1 2) (hc : 0 ≤ c ∧ c < σ 1 2) (hw : 0 ≤ w ∧ w ≤ 39) : ∃ g : Int, 0 < g ∧ zKK w = zQd σ kd f c w * g := by
  obtain ⟨t, t0, ht⟩ := zDn_d hL (kd := kd) hf hc
  unfold zKK zQd zWd
  rw [ht]
  generalize zDn σ kd f c = d at *
  have s0 : 0 < 10 + w % 10 := by omega
  generalize 10 + w % 10 = s at *
  split
  · exact ⟨t * s, Int.mul_pos t0 s0, by ac_rfl⟩
  · split
    · exact ⟨t * 10, Int.mul_pos t0 (by decide), by ac_rfl⟩
    · exact ⟨t * 10 * s, Int.mul_pos (Int.mul_pos t0 (by decide)) s0, by rw [Int.mul_one]; ac_rfl⟩
theorem zG_P {σ : zHp} (hL : zIL σ) {v kd f c w : Int} (hf : 0 ≤ f ∧ f < σ 1 2) (hc : 0 ≤ c ∧ c < σ 1 2) (hw : 0 ≤ w ∧ w ≤ 39) (hv : v * zDn σ kd f c = zONE * zU kd) : ∃ g : Int, 0 < g ∧ zKK w = g * zQd σ kd f c w ∧ zGr σ v f c w = g * zPu σ kd f c w := by
  obtain ⟨g, g0, hg⟩ := zQ_d hL (kd := kd) hf hc hw
  have h := zGr_e (w := w) hv
  have b := zPQ_b (kd := kd) hL hf hc hw
  refine ⟨g, g0, by rw [hg, Int.mul_comm], ?_⟩
  have e : zONE * 10 * (10 + w % 10) = zKK w := rfl
  rw [e, hg] at h
  have h2 : zQd σ kd f c w * zGr σ v f c w = zQd σ kd f c w * (g * zPu σ kd f c w) := by
    calc zQd σ kd f c w * zGr σ v f c w = zGr σ v f c w * zQd σ kd f c w := Int.mul_comm _ _
      _ = zQd σ kd f c w * g * zPu σ kd f c w := h
      _ = zQd σ kd f c w * (g * zPu σ kd f c w) := Int.mul_assoc _ _ _
  exact Int.eq_of_mul_eq_mul_left (by omega) h2
theorem w_grains {w : Int} (hw : 0 ≤ w ∧ w ≤ 39) (σ : zHp) : m_X0_grainsOfOne [w] σ = some (zKK w, σ) := by
  have st := w_strength hw σ
  have e : o_lmul 595799966361600 (10 + w % 10) = zKK w := by
    have : o_lmul 595799966361600 (10 + w % 10) = 595799966361600 * (10 + w % 10) := w64_id ⟨by omega, by omega⟩
    rw [this]
    rfl
  simp [e_X0_grainsOfOne, d_X0_grainsOfOne, xC_e, xL_e, xU_e, xB_e, xD_e, xF_e, xG_e, xA_e, xE_e, xH_e, xI_e, xZ_e, xK_e, aN_e, aC_e, cR_e, cV_e, cA_e, cO_e, cN_e, bs_e, bn_e, zg_0, zg_S, sS_e, sX_e, sF_e, sG_e, sA_e, sE_e, sEo_e, sK_e, sQ_e, sI_e, sR_e, sV_e, sB_e, sC_e, sD_e, sN_e, st_0, st_S, zc_0, zc_S, st, e]
theorem w_louEval {σ : zHp} {b c w q wb u x k r : Int} (g1 : 0 ≤ b ∧ b < σ 6 0) (b6 : 0 ≤ b ∧ b < 6) (g2 : 0 ≤ c ∧ c < σ 1 2) (g3 : 0 ≤ w ∧ w ≤ 39) (g4 : 0 ≤ q ∧ q ≤ 1) (hw : σ 9 b = wb) (hu : m_X0_unitBy [10, b, c, w] σ = some (u, σ)) (hx : o_lmul wb u = x) (hk : m_X0_grainsOfOne [w] σ = some (k, σ)) (hs : m_X8_share [x, k, q] σ = some (r, σ)) : m_X8_loud [0, b, c, w, q] σ = some (r, σ) := by
  simp [e_X8_loud, d_X8_loud, xC_e, xL_e, xU_e, xB_e, xD_e, xF_e, xG_e, xA_e, xE_e, xH_e, xI_e, xZ_e, xK_e, aN_e, aC_e, cR_e, cV_e, cA_e, cO_e, cN_e, bs_e, bn_e, zg_0, zg_S, sS_e, sX_e, sF_e, sG_e, sA_e, sE_e, sEo_e, sK_e, sQ_e, sI_e, sR_e, sV_e, sB_e, sC_e, sD_e, sN_e, st_0, st_S, zc_0, zc_S, r_eq, r_ne, r_lt, r_le, r_gt, r_ge, rb_ite, rb_0, rb_1, w_isBell_t g1, w_isCell_t g2, w_isWind_t g3, w_isOneOfTwo_t g4, b6, hw, hu, hx, hk, hs]
