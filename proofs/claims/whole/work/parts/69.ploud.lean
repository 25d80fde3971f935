/-! loud: grains are a whole number of times the fraction -/
theorem zDim_d (σ : zHp) (kd f t : Int) : ∃ x y : Nat, zDim σ kd f t (zLen σ f t - 1).toNat = ((2 ^ x : Nat) : Int) ∧ x + y = 2 * (zLen σ f t - 1).toNat := by
  have h := zDim_p σ kd f t (zLen σ f t - 1).toNat
  have c1 := zcn_le (zPn σ f t) (zLen σ f t - 1).toNat
  have c2 := zcn_le (zHl σ kd f t) (zLen σ f t - 1).toNat
  exact ⟨_, 2 * (zLen σ f t - 1).toNat - (zcn (zPn σ f t) (zLen σ f t - 1).toNat + zcn (zHl σ kd f t) (zLen σ f t - 1).toNat), h, by omega⟩
/-- the way's number divides the grains of one -/
theorem zDn_d {σ : zHp} (hL : zIL σ) {kd f c : Int} (hf : 0 ≤ f ∧ f < σ 1 2) (hc : 0 ≤ c ∧ c < σ 1 2) : ∃ t : Int, 0 < t ∧ zONE = zDn σ kd f c * t := by
  obtain ⟨d0, d1, j, j0, hj⟩ := zFar_d hL (kind := kd) hf hc
  obtain ⟨l1, l2, l3, l4, l5, l6, -⟩ := zLen_i hL hf hc
  obtain ⟨x, y, h1, h2⟩ := zDim_d σ kd f c
  refine ⟨((2 ^ (8 - x) : Nat) : Int) * j, Int.mul_pos (by have := Nat.pow_pos (n := 8 - x) (show 0 < 2 by decide); omega) j0, ?_⟩
  unfold zDn
  rw [h1, hj]
  have e : ((2 ^ x : Nat) : Int) * ((2 ^ (8 - x) : Nat) : Int) = 256 := by
    rw [← Int.natCast_mul, ← Nat.pow_add, show x + (8 - x) = 8 by omega]
    rfl
  calc (zU kd + zFar σ f c) * (256 * j) = (zU kd + zFar σ f c) * (((2 ^ x : Nat) : Int) * ((2 ^ (8 - x) : Nat) : Int) * j) := by rw [e]
    _ = (zU kd + zFar σ f c) * ((2 ^ x : Nat) : Int) * (((2 ^ (8 - x) : Nat) : Int) * j) := by ac_rfl
theorem zQ_d {σ : zHp} (hL : zIL σ) {kd f c w : Int} (hf : 0 ≤ f ∧ f < σ 1 2) (hc : 0 ≤ c ∧ c < σ 1 2) (hw : 0 ≤ w ∧ w ≤ 39) : ∃ g : Int, 0 < g ∧ zKK w = zQd σ kd f c w * g := by
  obtain ⟨t, t0, ht⟩ := zDn_d hL (kd := kd) hf hc
  unfold zKK zQd zWd
  rw [ht]
  generalize zDn σ kd f c = d at *
  have s0 : 0 < 10 + w % 10 := by omega
  generalize 10 + w % 10 = s at *
  split
  · exact ⟨t * s, Int.mul_pos t0 s0, by ac_rfl⟩
  · split
    · exact ⟨t * 10, Int.mul_pos t0 (by decide), by ac_rfl⟩
    · exact ⟨t * 10 * s, Int.mul_pos (Int.mul_pos t0 (by decide)) s0, by rw [Int.mul_one]; ac_rfl⟩
theorem zG_P {σ : zHp} (hL : zIL σ) {v kd f c w : Int} (hf : 0 ≤ f ∧ f < σ 1 2) (hc : 0 ≤ c ∧ c < σ 1 2) (hw : 0 ≤ w ∧ w ≤ 39) (hv : v * zDn σ kd f c = zONE * zU kd) : ∃ g : Int, 0 < g ∧ zKK w = g * zQd σ kd f c w ∧ zGr σ v f c w = g * zPu σ kd f c w := by
  obtain ⟨g, g0, hg⟩ := zQ_d hL (kd := kd) hf hc hw
  have h := zGr_e (w := w) hv
  have b := zPQ_b (kd := kd) hL hf hc hw
  refine ⟨g, g0, by rw [hg, Int.mul_comm], ?_⟩
  have e : zONE * 10 * (10 + w % 10) = zKK w := rfl
  rw [e, hg] at h
  have h2 : zQd σ kd f c w * zGr σ v f c w = zQd σ kd f c w * (g * zPu σ kd f c w) := by
    calc zQd σ kd f c w * zGr σ v f c w = zGr σ v f c w * zQd σ kd f c w := Int.mul_comm _ _
      _ = zQd σ kd f c w * g * zPu σ kd f c w := h
      _ = zQd σ kd f c w * (g * zPu σ kd f c w) := Int.mul_assoc _ _ _
  exact Int.eq_of_mul_eq_mul_left (by omega) h2
theorem w_grains {w : Int} (hw : 0 ≤ w ∧ w ≤ 39) (σ : zHp) : m_X0_grainsOfOne [w] σ = some (zKK w, σ) := by
  have st := w_strength hw σ
  have e : o_lmul 595799966361600 (10 + w % 10) = zKK w := by
    have : o_lmul 595799966361600 (10 + w % 10) = 595799966361600 * (10 + w % 10) := w64_id ⟨by omega, by omega⟩
    rw [this]
    rfl
  simp [e_X0_grainsOfOne, d_X0_grainsOfOne, xC_e, xL_e, xU_e, xB_e, xD_e, xF_e, xG_e, xA_e, xE_e, xH_e, xI_e, xZ_e, xK_e, aN_e, aC_e, cR_e, cV_e, cA_e, cO_e, cN_e, bs_e, bn_e, zg_0, zg_S, sS_e, sX_e, sF_e, sG_e, sA_e, sE_e, sEo_e, sK_e, sQ_e, sI_e, sR_e, sV_e, sB_e, sC_e, sD_e, sN_e, sP_e, sY_e, st_0, st_S, zc_0, zc_S, st, e]
theorem w_louEval {σ : zHp} {b c w q wb u x k r : Int} (g1 : 0 ≤ b ∧ b < σ 6 0) (b6 : 0 ≤ b ∧ b < 6) (g2 : 0 ≤ c ∧ c < σ 1 2) (g3 : 0 ≤ w ∧ w ≤ 39) (g4 : 0 ≤ q ∧ q ≤ 1) (hw : σ 9 b = wb) (hu : m_X0_unitBy [10, b, c, w] σ = some (u, σ)) (hx : o_lmul wb u = x) (hk : m_X0_grainsOfOne [w] σ = some (k, σ)) (hs : m_X8_share [x, k, q] σ = some (r, σ)) : m_X8_loud [0, b, c, w, q] σ = some (r, σ) := by
  simp [e_X8_loud, d_X8_loud, xC_e, xL_e, xU_e, xB_e, xD_e, xF_e, xG_e, xA_e, xE_e, xH_e, xI_e, xZ_e, xK_e, aN_e, aC_e, cR_e, cV_e, cA_e, cO_e, cN_e, bs_e, bn_e, zg_0, zg_S, sS_e, sX_e, sF_e, sG_e, sA_e, sE_e, sEo_e, sK_e, sQ_e, sI_e, sR_e, sV_e, sB_e, sC_e, sD_e, sN_e, sP_e, sY_e, st_0, st_S, zc_0, zc_S, r_eq, r_ne, r_lt, r_le, r_gt, r_ge, rb_ite, rb_0, rb_1, w_isBell_t g1, w_isCell_t g2, w_isWind_t g3, w_isOneOfTwo_t g4, b6, hw, hu, hx, hk, hs]
theorem v_louEval {σ υ : zHp} {b c w q wb p d x r : Int} (g1 : 0 ≤ b ∧ b < σ 37 14) (b6 : 0 ≤ b ∧ b < 7) (g2 : 0 ≤ c ∧ c < w32 (σ 37 5 * σ 37 6)) (g3 : 0 ≤ w ∧ w ≤ 39) (g4 : 0 ≤ q ∧ q ≤ 1) (hf : m_X9_findLoud [37, b, c, w] σ = some (0, υ)) (hp : υ 37 18 = p) (hd : υ 37 19 = d) (hw : υ 46 b = wb) (hx : o_lmul p wb = x) (hs : m_X9_share [x, d, q] υ = some (r, υ)) : m_X9_loud [37, b, c, w, q] σ = some (r, υ) := by
  simp [e_X9_loud, d_X9_loud, xC_e, xL_e, xU_e, xB_e, xD_e, xF_e, xG_e, xA_e, xE_e, xH_e, xI_e, xZ_e, xK_e, aN_e, aC_e, cR_e, cV_e, cA_e, cO_e, cN_e, bs_e, bn_e, zg_0, zg_S, sS_e, sX_e, sF_e, sG_e, sA_e, sE_e, sEo_e, sK_e, sQ_e, sI_e, sR_e, sV_e, sB_e, sC_e, sD_e, sN_e, sP_e, sY_e, st_0, st_S, zc_0, zc_S, r_eq, r_ne, r_lt, r_le, r_gt, r_ge, rb_ite, rb_0, rb_1, v_isBell_t g1, v_isCell_t g2, v_isWind_t g3, v_within_t g4, b6, hf, hp, hd, hw, hx, hs]
theorem zp7 : zp_7 zInv := by
  intro b c w q hbr hcr hwr hqr σ hI
  have nN := zN_eq hI.2.2.1
  have hN := zI3 hI
  have ha : zOkA [0, 0, 0, 0] [b, c, w, q] := ⟨hbr, hcr, hwr, hqr, trivial⟩
  by_cases g : (0 ≤ b ∧ b < σ 6 0) ∧ (0 ≤ c ∧ c < σ 1 2) ∧ (0 ≤ w ∧ w ≤ 39) ∧ (0 ≤ q ∧ q ≤ 1)
  case neg =>
    refine zq k_X8_loud k_X9_loud hI ha (r := -9223372036854775808) (σ1 := σ) (σ2 := σ) ?_ ?_ (zSame.rf σ) (zSame.rf σ)
    · by_cases g1 : 0 ≤ b ∧ b < σ 6 0
      · by_cases g2 : 0 ≤ c ∧ c < σ 1 2
        · by_cases g3 : 0 ≤ w ∧ w ≤ 39
          · have g4 : ¬ (0 ≤ q ∧ q ≤ 1) := fun z => g ⟨g1, g2, g3, z⟩
            simp [e_X8_loud, d_X8_loud, xC_e, xL_e, xU_e, xB_e, xD_e, xF_e, xG_e, xA_e, xE_e, xH_e, xI_e, xZ_e, xK_e, aN_e, aC_e, cR_e, cV_e, cA_e, cO_e, cN_e, bs_e, bn_e, zg_0, zg_S, sS_e, sX_e, sF_e, sG_e, sA_e, sE_e, sEo_e, sK_e, sQ_e, sI_e, sR_e, sV_e, sB_e, sC_e, sD_e, sN_e, sP_e, sY_e, st_0, st_S, zc_0, zc_S, r_eq, r_ne, r_lt, r_le, r_gt, r_ge, rb_ite, rb_0, rb_1, w_isBell_t g1, w_isCell_t g2, w_isWind_t g3, w_isOneOfTwo_f g4]
          · simp [e_X8_loud, d_X8_loud, xC_e, xL_e, xU_e, xB_e, xD_e, xF_e, xG_e, xA_e, xE_e, xH_e, xI_e, xZ_e, xK_e, aN_e, aC_e, cR_e, cV_e, cA_e, cO_e, cN_e, bs_e, bn_e, zg_0, zg_S, sS_e, sX_e, sF_e, sG_e, sA_e, sE_e, sEo_e, sK_e, sQ_e, sI_e, sR_e, sV_e, sB_e, sC_e, sD_e, sN_e, sP_e, sY_e, st_0, st_S, zc_0, zc_S, r_eq, r_ne, r_lt, r_le, r_gt, r_ge, rb_ite, rb_0, rb_1, w_isBell_t g1, w_isCell_t g2, w_isWind_f g3]
        · simp [e_X8_loud, d_X8_loud, xC_e, xL_e, xU_e, xB_e, xD_e, xF_e, xG_e, xA_e, xE_e, xH_e, xI_e, xZ_e, xK_e, aN_e, aC_e, cR_e, cV_e, cA_e, cO_e, cN_e, bs_e, bn_e, zg_0, zg_S, sS_e, sX_e, sF_e, sG_e, sA_e, sE_e, sEo_e, sK_e, sQ_e, sI_e, sR_e, sV_e, sB_e, sC_e, sD_e, sN_e, sP_e, sY_e, st_0, st_S, zc_0, zc_S, r_eq, r_ne, r_lt, r_le, r_gt, r_ge, rb_ite, rb_0, rb_1, w_isBell_t g1, w_isCell_f g2]
      · simp [e_X8_loud, d_X8_loud, xC_e, xL_e, xU_e, xB_e, xD_e, xF_e, xG_e, xA_e, xE_e, xH_e, xI_e, xZ_e, xK_e, aN_e, aC_e, cR_e, cV_e, cA_e, cO_e, cN_e, bs_e, bn_e, zg_0, zg_S, sS_e, sX_e, sF_e, sG_e, sA_e, sE_e, sEo_e, sK_e, sQ_e, sI_e, sR_e, sV_e, sB_e, sC_e, sD_e, sN_e, sP_e, sY_e, st_0, st_S, zc_0, zc_S, r_eq, r_ne, r_lt, r_le, r_gt, r_ge, rb_ite, rb_0, rb_1, w_isBell_f g1]
    · by_cases g1 : 0 ≤ b ∧ b < σ 6 0
      · have g1' : 0 ≤ b ∧ b < σ 37 14 := by rw [hN.1]; exact g1
        by_cases g2 : 0 ≤ c ∧ c < σ 1 2
        · have g2' : 0 ≤ c ∧ c < w32 (σ 37 5 * σ 37 6) := by rw [nN.1]; exact g2
          by_cases g3 : 0 ≤ w ∧ w ≤ 39
          · have g4 : ¬ (0 ≤ q ∧ q ≤ 1) := fun z => g ⟨g1, g2, g3, z⟩
            simp [e_X9_loud, d_X9_loud, xC_e, xL_e, xU_e, xB_e, xD_e, xF_e, xG_e, xA_e, xE_e, xH_e, xI_e, xZ_e, xK_e, aN_e, aC_e, cR_e, cV_e, cA_e, cO_e, cN_e, bs_e, bn_e, zg_0, zg_S, sS_e, sX_e, sF_e, sG_e, sA_e, sE_e, sEo_e, sK_e, sQ_e, sI_e, sR_e, sV_e, sB_e, sC_e, sD_e, sN_e, sP_e, sY_e, st_0, st_S, zc_0, zc_S, r_eq, r_ne, r_lt, r_le, r_gt, r_ge, rb_ite, rb_0, rb_1, v_isBell_t g1', v_isCell_t g2', v_isWind_t g3, v_within_f g4]
          · simp [e_X9_loud, d_X9_loud, xC_e, xL_e, xU_e, xB_e, xD_e, xF_e, xG_e, xA_e, xE_e, xH_e, xI_e, xZ_e, xK_e, aN_e, aC_e, cR_e, cV_e, cA_e, cO_e, cN_e, bs_e, bn_e, zg_0, zg_S, sS_e, sX_e, sF_e, sG_e, sA_e, sE_e, sEo_e, sK_e, sQ_e, sI_e, sR_e, sV_e, sB_e, sC_e, sD_e, sN_e, sP_e, sY_e, st_0, st_S, zc_0, zc_S, r_eq, r_ne, r_lt, r_le, r_gt, r_ge, rb_ite, rb_0, rb_1, v_isBell_t g1', v_isCell_t g2', v_isWind_f g3]
        · have g2' : ¬ (0 ≤ c ∧ c < w32 (σ 37 5 * σ 37 6)) := by rw [nN.1]; exact g2
          simp [e_X9_loud, d_X9_loud, xC_e, xL_e, xU_e, xB_e, xD_e, xF_e, xG_e, xA_e, xE_e, xH_e, xI_e, xZ_e, xK_e, aN_e, aC_e, cR_e, cV_e, cA_e, cO_e, cN_e, bs_e, bn_e, zg_0, zg_S, sS_e, sX_e, sF_e, sG_e, sA_e, sE_e, sEo_e, sK_e, sQ_e, sI_e, sR_e, sV_e, sB_e, sC_e, sD_e, sN_e, sP_e, sY_e, st_0, st_S, zc_0, zc_S, r_eq, r_ne, r_lt, r_le, r_gt, r_ge, rb_ite, rb_0, rb_1, v_isBell_t g1', v_isCell_f g2']
      · have g1' : ¬ (0 ≤ b ∧ b < σ 37 14) := by rw [hN.1]; exact g1
        simp [e_X9_loud, d_X9_loud, xC_e, xL_e, xU_e, xB_e, xD_e, xF_e, xG_e, xA_e, xE_e, xH_e, xI_e, xZ_e, xK_e, aN_e, aC_e, cR_e, cV_e, cA_e, cO_e, cN_e, bs_e, bn_e, zg_0, zg_S, sS_e, sX_e, sF_e, sG_e, sA_e, sE_e, sEo_e, sK_e, sQ_e, sI_e, sR_e, sV_e, sB_e, sC_e, sD_e, sN_e, sP_e, sY_e, st_0, st_S, zc_0, zc_S, r_eq, r_ne, r_lt, r_le, r_gt, r_ge, rb_ite, rb_0, rb_1, v_isBell_f g1']
  obtain ⟨g1, g2, g3, g4⟩ := g
  have g1' : 0 ≤ b ∧ b < σ 37 14 := by rw [hN.1]; exact g1
  have g2' : 0 ≤ c ∧ c < w32 (σ 37 5 * σ 37 6) := by rw [nN.1]; exact g2
  have hn6 := hN.2.2.1
  have hb := hN.2.2.2 b g1.1 g1.2
  have hcal := hI.2.2.2.2.2.2.2.2.1 b c g1.1 g1.2 g2.1 g2.2
  have hcb := zIC_b hI g1 g2
  have hu := w_unitBy hI.2.2.1 hI.2.2.2.1 (b := b) (c := c) (w := w) (by omega) (by omega) hb.2.1.2 g2 g3
  have hgb := zGr_b (σ := σ) (f := σ 8 b) (c := c) hcb g3
  obtain ⟨gg, gp, k1, k2⟩ := zG_P hI.2.2.1 (w := w) hb.2.1.2 g2 g3 hcal
  have pq := zPQ_b (kd := σ 7 b) hI.2.2.1 hb.2.1.2 g2 g3
  have hw := hb.2.2.2
  have fl := v_findLoud hI.2.2.1 hI.2.2.2.1 (fun k hk => zPl hI.1 k hk) (b := b) (c := c) (w := w) (by omega) (by rw [hb.2.1.1]; exact hb.2.1.2) g2 g3
  rw [hb.1.1, hb.2.1.1] at fl
  generalize hP : zPu σ (σ 7 b) (σ 8 b) c w = P at *
  generalize hQ : zQd σ (σ 7 b) (σ 8 b) c w = Q at *
  generalize hG : zGr σ (σ 11 (30 * b + c)) (σ 8 b) c w = G at *
  generalize hWb : σ 9 b = wb at *
  have kb : zKK w ≤ 11320199360870400 := by
    unfold zKK
    rw [zONE_e]
    omega
  have x1 := zmul_i (x := wb) (y := G) 99 21508378785653760 (by omega) (by omega)
  have y1 := zmul_i (x := P) (y := wb) 38 99 (by omega) (by omega)
  have o1 : o_lmul wb G = wb * G := w64_id ⟨by omega, by omega⟩
  have o2 : o_lmul P wb = P * wb := w64_id ⟨by omega, by omega⟩
  have pw : 1 * 1 ≤ P * wb := Int.mul_le_mul (by omega) (by omega) (by omega) (by omega)
  have n1 : ((P.toNat * wb.toNat : Nat) : Int) = P * wb := by rw [Int.natCast_mul, Int.toNat_of_nonneg (by omega), Int.toNat_of_nonneg (by omega)]
  have n2 : ((gg.toNat * (P.toNat * wb.toNat) : Nat) : Int) = wb * G := by
    rw [Int.natCast_mul, n1, Int.toNat_of_nonneg (by omega), k2]
    ac_rfl
  have n3 : ((gg.toNat * Q.toNat : Nat) : Int) = zKK w := by
    rw [Int.natCast_mul, Int.toNat_of_nonneg (by omega), Int.toNat_of_nonneg (by omega), k1]
  have n4 : ((Q.toNat : Nat) : Int) = Q := Int.toNat_of_nonneg (by omega)
  have s1 := w_share (σ := σ) (a := P.toNat * wb.toNat) (b := Q.toNat) (g := gg.toNat) (w := q) (by omega) (by omega) (by omega) (by omega)
  rw [n2, n3] at s1
  have s2 := v_share (σ := zput (zput σ 37 18 P) 37 19 Q) (a := P.toNat * wb.toNat) (b := Q.toNat) (w := q) (by omega) (by omega)
  rw [n1, n4] at s2
  have h1 := w_louEval g1 (by omega) g2 g3 g4 hWb hu o1 (w_grains g3 σ) s1
  have h2 := v_louEval (wb := wb) g1' (by omega) g2' g3 g4 fl (by rw [zput_i (by decide), zput_self]) (zput_self _ _ _ _) (by rw [zput_o (by decide), zput_o (by decide), hb.2.2.1]) o2 s2
  exact zq k_X8_loud k_X9_loud hI ha h1 h2 (zSame.rf σ) (((zSame.rf σ).put rfl).put rfl)
