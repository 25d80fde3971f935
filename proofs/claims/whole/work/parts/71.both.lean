/-! two rung together -/
def zBo (F : Int) (W : Int → Int) (G : Int → Int → Int) (n : Nat) (a b : Int) (c : Nat) : Bool := decide (zBr F (zLd W G c) a b n < zLd W G c a + zLd W G c b)
def zOw (F : Int) (W : Int → Int) (G : Int → Int → Int) (n : Nat) (a : Int) (c : Nat) : Bool := decide (zBr F (zLd W G c) a a n < zLd W G c a)
theorem w_obBody {υ : zHp} {a b s k x y z v : Int} (h1 : m_X0_loudness [10, a, k] υ = some (x, υ)) (h2 : m_X0_loudness [10, b, k] υ = some (y, υ)) (h3 : m_X0_bar [10, 9, k, a, b] υ = some (z, υ)) (h4 : o_ladd x y = v) : lf_X0_ownOfBoth_1 [10, a, b, s, k] υ = some (0, [10, a, b, if z < v then zOr s (zShl 1 k) else s, k], υ) := by
  by_cases p : z < v <;> simp [lf_X0_ownOfBoth_1, xC_e, xL_e, xU_e, xB_e, xD_e, xF_e, xG_e, xA_e, xE_e, xH_e, xI_e, xZ_e, xK_e, aN_e, aC_e, cR_e, cV_e, cA_e, cO_e, cN_e, bs_e, bn_e, zg_0, zg_S, sS_e, sX_e, sF_e, sG_e, sA_e, sE_e, sEo_e, sK_e, sQ_e, sI_e, sR_e, sV_e, sB_e, sC_e, sD_e, sN_e, sP_e, sY_e, st_0, st_S, zc_0, zc_S, r_eq, r_ne, r_lt, r_le, r_gt, r_ge, rb_ite, rb_0, rb_1, h1, h2, h3, h4, p]
theorem w_obEval {υ : zHp} {a b s k : Int} (hl : sW lc_X0_ownOfBoth_1 lf_X0_ownOfBoth_1 ls_X0_ownOfBoth_1 [10, a, b, 0, 0] υ = some (0, [10, a, b, s, k], υ)) : m_X0_ownOfBoth [10, a, b] υ = some (s, υ) := by
  simp [e_X0_ownOfBoth, d_X0_ownOfBoth, xC_e, xL_e, xU_e, xB_e, xD_e, xF_e, xG_e, xA_e, xE_e, xH_e, xI_e, xZ_e, xK_e, aN_e, aC_e, cR_e, cV_e, cA_e, cO_e, cN_e, bs_e, bn_e, zg_0, zg_S, sS_e, sX_e, sF_e, sG_e, sA_e, sE_e, sEo_e, sK_e, sQ_e, sI_e, sR_e, sV_e, sB_e, sC_e, sD_e, sN_e, sP_e, sY_e, st_0, st_S, zc_0, zc_S, hl]
theorem zSt2_S {f : Nat → Bool} {k : Nat} {P : Prop} [Decidable P] (h : f k = decide P) : (if P then zOr (zSt2 f k) (zShl 1 (k : Int)) else zSt2 f k) = zSt2 f (k + 1) := by
  show _ = zOr (zSt2 f k) (if f k = true then zShl 1 (k : Int) else 0)
  rw [h]
  by_cases p : P
  · rw [if_pos p, if_pos (decide_eq_true p)]
  · rw [if_neg p, decide_eq_false p, if_neg (by decide), zOr_0 (r32_St2 f k)]
theorem w_ob {σ : zHp} {n C : Nat} {F : Int} {W : Int → Int} {G : Int → Int → Int} (hC : zCp σ n C F W G) (hQ : zCq n C F G) (hW : zWt n W) {a b : Int} (ha : 0 ≤ a ∧ a < n) (hb : 0 ≤ b ∧ b < n) : m_X0_ownOfBoth [10, a, b] σ = some (zSt2 (zBo F W G n a b) C, σ) := by
  have c30 := hQ.2.1
  refine w_obEval (k := 0 + (C : Int)) (zforP (c := lc_X0_ownOfBoth_1) (f := lf_X0_ownOfBoth_1) (i := 4) (lo := 0) C (fun k => [10, a, b, zSt2 (zBo F W G n a b) k, 0 + (k : Int)]) (fun k => rfl) (by decide) (by omega)
    (fun k hk => zc_lt (i := 4) (x := 0 + (k : Int)) rfl (zx_G (N := C) hC.2.1) (by omega)) (fun k hk => ?_))
  have la := zLd_b hQ hW ha (c := (k : Int)) (by omega)
  have lb := zLd_b hQ hW hb (c := (k : Int)) (by omega)
  have body := w_obBody (s := zSt2 (zBo F W G n a b) k) (w_ld hC hQ hW ha (c := (k : Int)) (by omega)) (w_ld hC hQ hW hb (c := (k : Int)) (by omega)) (w_bar hC hQ hC.2.2.2.1 hW (c := (k : Int)) (by omega) a b) (w64_id ⟨by omega, by omega⟩)
  rw [z0k, z0k]
  rw [zSt2_S (f := zBo F W G n a b) rfl] at body
  exact ⟨_, _, body, Or.inl rfl, rfl, rfl⟩
theorem w_owBody {υ : zHp} {a s k x z : Int} (h1 : m_X0_loudness [10, a, k] υ = some (x, υ)) (h3 : m_X0_bar [10, 9, k, a, a] υ = some (z, υ)) : lf_X0_ownOf_1 [10, a, s, k] υ = some (0, [10, a, if z < x then zOr s (zShl 1 k) else s, k], υ) := by
  by_cases p : z < x <;> simp [lf_X0_ownOf_1, xC_e, xL_e, xU_e, xB_e, xD_e, xF_e, xG_e, xA_e, xE_e, xH_e, xI_e, xZ_e, xK_e, aN_e, aC_e, cR_e, cV_e, cA_e, cO_e, cN_e, bs_e, bn_e, zg_0, zg_S, sS_e, sX_e, sF_e, sG_e, sA_e, sE_e, sEo_e, sK_e, sQ_e, sI_e, sR_e, sV_e, sB_e, sC_e, sD_e, sN_e, sP_e, sY_e, st_0, st_S, zc_0, zc_S, r_eq, r_ne, r_lt, r_le, r_gt, r_ge, rb_ite, rb_0, rb_1, h1, h3, p]
theorem w_owEval {υ : zHp} {a s k : Int} (hl : sW lc_X0_ownOf_1 lf_X0_ownOf_1 ls_X0_ownOf_1 [10, a, 0, 0] υ = some (0, [10, a, s, k], υ)) : m_X0_ownOf [10, a] υ = some (s, υ) := by
  simp [e_X0_ownOf, d_X0_ownOf, xC_e, xL_e, xU_e, xB_e, xD_e, xF_e, xG_e, xA_e, xE_e, xH_e, xI_e, xZ_e, xK_e, aN_e, aC_e, cR_e, cV_e, cA_e, cO_e, cN_e, bs_e, bn_e, zg_0, zg_S, sS_e, sX_e, sF_e, sG_e, sA_e, sE_e, sEo_e, sK_e, sQ_e, sI_e, sR_e, sV_e, sB_e, sC_e, sD_e, sN_e, sP_e, sY_e, st_0, st_S, zc_0, zc_S, hl]
theorem w_ow {σ : zHp} {n C : Nat} {F : Int} {W : Int → Int} {G : Int → Int → Int} (hC : zCp σ n C F W G) (hQ : zCq n C F G) (hW : zWt n W) {a : Int} (ha : 0 ≤ a ∧ a < n) : m_X0_ownOf [10, a] σ = some (zSt2 (zOw F W G n a) C, σ) := by
  have c30 := hQ.2.1
  refine w_owEval (k := 0 + (C : Int)) (zforP (c := lc_X0_ownOf_1) (f := lf_X0_ownOf_1) (i := 3) (lo := 0) C (fun k => [10, a, zSt2 (zOw F W G n a) k, 0 + (k : Int)]) (fun k => rfl) (by decide) (by omega)
    (fun k hk => zc_lt (i := 3) (x := 0 + (k : Int)) rfl (zx_G (N := C) hC.2.1) (by omega)) (fun k hk => ?_))
  have body := w_owBody (s := zSt2 (zOw F W G n a) k) (w_ld hC hQ hW ha (c := (k : Int)) (by omega)) (w_bar hC hQ hC.2.2.2.1 hW (c := (k : Int)) (by omega) a a)
  rw [z0k, z0k]
  rw [zSt2_S (f := zOw F W G n a) rfl] at body
  exact ⟨_, _, body, Or.inl rfl, rfl, rfl⟩
/-! the reference's way to tell it -/
theorem zboth {K F ea wa wb wx Ga Gb Gx Pa Pb Px Qa Qb Qx : Int} (hK : 0 < K) (qa : 0 < Qa) (qb : 0 < Qb) (qx : 0 < Qx) (ha : Ga * Qa = K * Pa) (hb : Gb * Qb = K * Pb) (hx : Gx * Qx = K * Px) (hF : K * ea = 10 * F) : (10 * (wa * Pa * Qb + wb * Pb * Qa) < ea * (Qa * Qb) ↔ wa * Ga + wb * Gb < F) ∧ (wx * Px * (Qa * Qb) ≥ (wa * Pa * Qb + wb * Pb * Qa) * Qx ↔ wa * Ga + wb * Gb ≤ wx * Gx) := by
  have by0 : 0 < Qa * Qb := Int.mul_pos qa qb
  have e0 : K * (wa * Pa * Qb + wb * Pb * Qa) = (wa * Ga + wb * Gb) * (Qa * Qb) := by
    rw [Int.mul_add, Int.add_mul]
    have e1 : K * (wa * Pa * Qb) = wa * Ga * (Qa * Qb) := by
      calc K * (wa * Pa * Qb) = wa * (K * Pa) * Qb := by ac_rfl
        _ = wa * (Ga * Qa) * Qb := by rw [ha]
        _ = wa * Ga * (Qa * Qb) := by ac_rfl
    have e2 : K * (wb * Pb * Qa) = wb * Gb * (Qa * Qb) := by
      calc K * (wb * Pb * Qa) = wb * (K * Pb) * Qa := by ac_rfl
        _ = wb * (Gb * Qb) * Qa := by rw [hb]
        _ = wb * Gb * (Qa * Qb) := by ac_rfl
    rw [e1, e2]
  generalize wa * Pa * Qb + wb * Pb * Qa = both at *
  generalize wa * Ga + wb * Gb = L at *
  generalize Qa * Qb = y at *
  constructor
  · have z := zsgn (K := K) (X := ea * y - 10 * both) (Y := F - L) (Z := 10 * y) hK (by omega) (by
      rw [Int.mul_sub, Int.sub_mul]
      have e3 : K * (ea * y) = F * (10 * y) := by
        calc K * (ea * y) = K * ea * y := by ac_rfl
          _ = 10 * F * y := by rw [hF]
          _ = F * (10 * y) := by ac_rfl
      have e4 : K * (10 * both) = L * (10 * y) := by
        calc K * (10 * both) = 10 * (K * both) := by ac_rfl
          _ = 10 * (L * y) := by rw [e0]
          _ = L * (10 * y) := by ac_rfl
      rw [e3, e4])
    omega
  · have z := zsgn (K := K) (X := both * Qx - wx * Px * y) (Y := L - wx * Gx) (Z := y * Qx) hK (Int.mul_pos by0 qx) (by
      rw [Int.mul_sub, Int.sub_mul]
      have e3 : K * (both * Qx) = L * (y * Qx) := by
        calc K * (both * Qx) = K * both * Qx := by ac_rfl
          _ = L * y * Qx := by rw [e0]
          _ = L * (y * Qx) := by ac_rfl
      have e4 : K * (wx * Px * y) = wx * Gx * (y * Qx) := by
        calc K * (wx * Px * y) = wx * (K * Px) * y := by ac_rfl
          _ = wx * (Gx * Qx) * y := by rw [hx]
          _ = wx * Gx * (y * Qx) := by ac_rfl
      rw [e3, e4])
    omega
theorem v_thBody {υ : zHp} {a b c ua ub bo y k wk p q x1 x2 x3 : Int} (b7 : 0 ≤ k ∧ k < 7) (c30 : 0 ≤ c ∧ c < 30) (h1 : υ 46 k = wk) (h2 : υ 47 (30 * k + c) = p) (h3 : υ 48 (30 * k + c) = q) (o1 : o_lmul wk p = x1) (o2 : o_lmul x1 y = x2) (o3 : o_lmul bo q = x3) : lf_X9_isTheirs_1 [37, a, b, c, ua, 0, ub, 0, bo, 0, y, 0, k] υ = if k ≠ a ∧ k ≠ b ∧ x2 ≥ x3 then some (1, [0], υ) else some (0, [37, a, b, c, ua, 0, ub, 0, bo, 0, y, 0, k], υ) := by
  have z1 := (z30 b7 c30).2
  have i1 : 0 ≤ 30 * k + c ∧ 30 * k + c < 210 := by omega
  by_cases p1 : k = a
  · simp [lf_X9_isTheirs_1, xC_e, xL_e, xU_e, xB_e, xD_e, xF_e, xG_e, xA_e, xE_e, xH_e, xI_e, xZ_e, xK_e, aN_e, aC_e, cR_e, cV_e, cA_e, cO_e, cN_e, bs_e, bn_e, zg_0, zg_S, sS_e, sX_e, sF_e, sG_e, sA_e, sE_e, sEo_e, sK_e, sQ_e, sI_e, sR_e, sV_e, sB_e, sC_e, sD_e, sN_e, sP_e, sY_e, st_0, st_S, zc_0, zc_S, r_eq, r_ne, r_lt, r_le, r_gt, r_ge, rb_ite, rb_0, rb_1, p1]
  · by_cases p2 : k = b
    · have q : ¬ b = a := by omega
      simp [lf_X9_isTheirs_1, xC_e, xL_e, xU_e, xB_e, xD_e, xF_e, xG_e, xA_e, xE_e, xH_e, xI_e, xZ_e, xK_e, aN_e, aC_e, cR_e, cV_e, cA_e, cO_e, cN_e, bs_e, bn_e, zg_0, zg_S, sS_e, sX_e, sF_e, sG_e, sA_e, sE_e, sEo_e, sK_e, sQ_e, sI_e, sR_e, sV_e, sB_e, sC_e, sD_e, sN_e, sP_e, sY_e, st_0, st_S, zc_0, zc_S, r_eq, r_ne, r_lt, r_le, r_gt, r_ge, rb_ite, rb_0, rb_1, p2, q]
    · by_cases p3 : x3 ≤ x2
      · simp [lf_X9_isTheirs_1, xC_e, xL_e, xU_e, xB_e, xD_e, xF_e, xG_e, xA_e, xE_e, xH_e, xI_e, xZ_e, xK_e, aN_e, aC_e, cR_e, cV_e, cA_e, cO_e, cN_e, bs_e, bn_e, zg_0, zg_S, sS_e, sX_e, sF_e, sG_e, sA_e, sE_e, sEo_e, sK_e, sQ_e, sI_e, sR_e, sV_e, sB_e, sC_e, sD_e, sN_e, sP_e, sY_e, st_0, st_S, zc_0, zc_S, r_eq, r_ne, r_lt, r_le, r_gt, r_ge, rb_ite, rb_0, rb_1, p1, p2, p3, b7, z1, i1, h1, h2, h3, o1, o2, o3]
      · simp [lf_X9_isTheirs_1, xC_e, xL_e, xU_e, xB_e, xD_e, xF_e, xG_e, xA_e, xE_e, xH_e, xI_e, xZ_e, xK_e, aN_e, aC_e, cR_e, cV_e, cA_e, cO_e, cN_e, bs_e, bn_e, zg_0, zg_S, sS_e, sX_e, sF_e, sG_e, sA_e, sE_e, sEo_e, sK_e, sQ_e, sI_e, sR_e, sV_e, sB_e, sC_e, sD_e, sN_e, sP_e, sY_e, st_0, st_S, zc_0, zc_S, r_eq, r_ne, r_lt, r_le, r_gt, r_ge, rb_ite, rb_0, rb_1, p1, p2, p3, b7, z1, i1, h1, h2, h3, o1, o2, o3]
theorem v_thEval {υ : zHp} {a b c wa wb pa pb qa qb ua ub u1 u2 bo y t1 t2 ea r : Int} (a7 : 0 ≤ a ∧ a < 7) (b7 : 0 ≤ b ∧ b < 7) (c30 : 0 ≤ c ∧ c < 30) (h1 : υ 46 a = wa) (h2 : υ 46 b = wb) (h3 : υ 47 (30 * a + c) = pa) (h4 : υ 47 (30 * b + c) = pb) (h5 : υ 48 (30 * a + c) = qa) (h6 : υ 48 (30 * b + c) = qb) (h7 : υ 37 7 = ea)
    (o1 : o_lmul wa pa = ua) (o2 : o_lmul wb pb = ub) (o3 : o_lmul ua qb = u1) (o4 : o_lmul ub qa = u2) (o5 : o_ladd u1 u2 = bo) (o6 : o_lmul qa qb = y) (o7 : o_lmul 10 bo = t1) (o8 : o_lmul ea y = t2) (hr : t1 < t2 → r = 0)
    (hl : ¬ t1 < t2 → ∃ tt e, sW lc_X9_isTheirs_1 lf_X9_isTheirs_1 ls_X9_isTheirs_1 [37, a, b, c, ua, 0, ub, 0, bo, 0, y, 0, 0] υ = some (tt, e, υ) ∧ ((tt = 1 ∧ e = [0] ∧ r = 0) ∨ (tt = 0 ∧ r = 1))) : m_X9_isTheirs [37, a, b, c] υ = some (r, υ) := by
  have z1 := (z30 a7 c30).2
  have z2 := (z30 b7 c30).2
  have i1 : 0 ≤ 30 * a + c ∧ 30 * a + c < 210 := by omega
  have i2 : 0 ≤ 30 * b + c ∧ 30 * b + c < 210 := by omega
  by_cases p : t1 < t2
  · rw [hr p]
    simp [e_X9_isTheirs, d_X9_isTheirs, xC_e, xL_e, xU_e, xB_e, xD_e, xF_e, xG_e, xA_e, xE_e, xH_e, xI_e, xZ_e, xK_e, aN_e, aC_e, cR_e, cV_e, cA_e, cO_e, cN_e, bs_e, bn_e, zg_0, zg_S, sS_e, sX_e, sF_e, sG_e, sA_e, sE_e, sEo_e, sK_e, sQ_e, sI_e, sR_e, sV_e, sB_e, sC_e, sD_e, sN_e, sP_e, sY_e, st_0, st_S, zc_0, zc_S, r_eq, r_ne, r_lt, r_le, r_gt, r_ge, rb_ite, rb_0, rb_1, a7, b7, z1, z2, i1, i2, h1, h2, h3, h4, h5, h6, h7, o1, o2, o3, o4, o5, o6, o7, o8, p]
  · obtain ⟨tt, e, hl2, ⟨rfl, rfl, rfl⟩ | ⟨rfl, rfl⟩⟩ := hl p
    · simp [e_X9_isTheirs, d_X9_isTheirs, xC_e, xL_e, xU_e, xB_e, xD_e, xF_e, xG_e, xA_e, xE_e, xH_e, xI_e, xZ_e, xK_e, aN_e, aC_e, cR_e, cV_e, cA_e, cO_e, cN_e, bs_e, bn_e, zg_0, zg_S, sS_e, sX_e, sF_e, sG_e, sA_e, sE_e, sEo_e, sK_e, sQ_e, sI_e, sR_e, sV_e, sB_e, sC_e, sD_e, sN_e, sP_e, sY_e, st_0, st_S, zc_0, zc_S, r_eq, r_ne, r_lt, r_le, r_gt, r_ge, rb_ite, rb_0, rb_1, a7, b7, z1, z2, i1, i2, h1, h2, h3, h4, h5, h6, h7, o1, o2, o3, o4, o5, o6, o7, o8, p, hl2]
    · simp [e_X9_isTheirs, d_X9_isTheirs, xC_e, xL_e, xU_e, xB_e, xD_e, xF_e, xG_e, xA_e, xE_e, xH_e, xI_e, xZ_e, xK_e, aN_e, aC_e, cR_e, cV_e, cA_e, cO_e, cN_e, bs_e, bn_e, zg_0, zg_S, sS_e, sX_e, sF_e, sG_e, sA_e, sE_e, sEo_e, sK_e, sQ_e, sI_e, sR_e, sV_e, sB_e, sC_e, sD_e, sN_e, sP_e, sY_e, st_0, st_S, zc_0, zc_S, r_eq, r_ne, r_lt, r_le, r_gt, r_ge, rb_ite, rb_0, rb_1, a7, b7, z1, z2, i1, i2, h1, h2, h3, h4, h5, h6, h7, o1, o2, o3, o4, o5, o6, o7, o8, p, hl2]
theorem v_th {σ : zHp} {n C : Nat} {K F ea : Int} {W : Int → Int} {P Q G : Int → Int → Int} (hR : zRp σ n C ea W P Q) (hP : zPc n C K F ea P Q G) (hW : zWt n W) {a b : Int} (ha : 0 ≤ a ∧ a < n) (hb : 0 ≤ b ∧ b < n) {c : Nat} (hc : c < C) : m_X9_isTheirs [37, a, b, (c : Int)] σ = some (if zBo F W G n a b c = true then 1 else 0, σ) := by
  obtain ⟨n7, c30, he, hK, hF, hp⟩ := hP
  obtain ⟨r1, r2, r3, r4, r5⟩ := hR
  obtain ⟨pa, qa, ga, la⟩ := hp a c ha.1 ha.2 (by omega) (by omega)
  obtain ⟨pb, qb, gb, lb⟩ := hp b c hb.1 hb.2 (by omega) (by omega)
  have w1 := hW a ha.1 ha.2
  have w2 := hW b hb.1 hb.2
  have m1 := zmul_i (x := W a) (y := P a c) 99 38 (by omega) (by omega)
  have m2 := zmul_i (x := W b) (y := P b c) 99 38 (by omega) (by omega)
  have m3 := zmul_i (x := W a * P a c) (y := Q b c) 3762 209152 (by omega) (by omega)
  have m4 := zmul_i (x := W b * P b c) (y := Q a c) 3762 209152 (by omega) (by omega)
  have m5 := zmul_i (x := Q a c) (y := Q b c) 209152 209152 (by omega) (by omega)
  have m6 := zmul_i (x := ea) (y := Q a c * Q b c) 99 43744559104 (by omega) (by omega)
  have zb := fun x (hx : 0 ≤ x ∧ x < (n : Int)) => zboth (wa := W a) (wb := W b) (wx := W x) hK (show 0 < Q a c by omega) (show 0 < Q b c by omega) (show 0 < Q x c by have := hp x c hx.1 hx.2 (by omega) (by omega); omega) la lb (hp x c hx.1 hx.2 (by omega) (by omega)).2.2.2 hF
  have br := zBr_s F (zLd W G c) a b (zLd W G c a + zLd W G c b) n
  have lpos : 0 < zLd W G c a + zLd W G c b := by
    have h1 : 1 * 1 ≤ W a * G a c := Int.mul_le_mul (by omega) (by omega) (by omega) (by omega)
    have h2 : 1 * 1 ≤ W b * G b c := Int.mul_le_mul (by omega) (by omega) (by omega) (by omega)
    unfold zLd
    omega
  have hbo : zBo F W G n a b c = decide (zBr F (zLd W G c) a b n < zLd W G c a + zLd W G c b) := rfl
  have hsum : zLd W G c a + zLd W G c b = W a * G a c + W b * G b c := rfl
  have z0 := (zb a ha).1
  refine v_thEval (by omega) (by omega) (by omega) (r4 a ha.1 ha.2) (r4 b hb.1 hb.2) (r5 a c ha.1 ha.2 (by omega) (by omega)).1 (r5 b c hb.1 hb.2 (by omega) (by omega)).1 (r5 a c ha.1 ha.2 (by omega) (by omega)).2 (r5 b c hb.1 hb.2 (by omega) (by omega)).2 r3 (w64_id ⟨by omega, by omega⟩) (w64_id ⟨by omega, by omega⟩) (w64_id ⟨by omega, by omega⟩) (w64_id ⟨by omega, by omega⟩) (w64_id ⟨by omega, by omega⟩) (w64_id ⟨by omega, by omega⟩) (w64_id ⟨by omega, by omega⟩) (w64_id ⟨by omega, by omega⟩) ?_ ?_
  · intro h
    have h2 := z0.mp h
    rw [hbo, decide_eq_false (fun z => by have := (br.mp z).2.1; omega)]
    rfl
  · intro h
    have h2 : ¬ (zLd W G c a + zLd W G c b < F) := fun z => h (z0.mpr z)
    generalize hua : W a * P a c = ua at *
    generalize hub : W b * P b c = ub at *
    generalize hbt : ua * Q b c + ub * Q a c = bo at *
    generalize hy : Q a c * Q b c = y at *
    have hl := zfor (c := lc_X9_isTheirs_1) (f := lf_X9_isTheirs_1) (i := 12) (lo := 0) n (fun k => [37, a, b, (c : Int), ua, 0, ub, 0, bo, 0, y, 0, 0 + (k : Int)]) (fun k τ => τ = σ ∧ ∀ x : Int, 0 ≤ x → x < k → x ≠ a → x ≠ b → zLd W G c x < zLd W G c a + zLd W G c b)
      (fun t e τ => τ = σ ∧ ((t = 1 ∧ e = [0] ∧ zBo F W G n a b c = false) ∨ (t = 0 ∧ zBo F W G n a b c = true))) (σ := σ) ⟨rfl, fun x x0 x1 => by omega⟩ (fun k => rfl) (by decide) (by omega)
      (fun k τ hk h => zc_lt (i := 12) (x := 0 + (k : Int)) rfl (zx_G (N := n) (by rw [h.1]; exact r1)) (by omega))
      (fun k τ hk h => by
        obtain ⟨rfl, h3⟩ := h
        obtain ⟨pk, qk, gk, lk⟩ := hp k c (by omega) (by omega) (by omega) (by omega)
        have wk := hW k (by omega) (by omega)
        have m7 := zmul_i (x := W k) (y := P k c) 99 38 (by omega) (by omega)
        have m8 := zmul_i (x := W k * P k c) (y := y) 3762 43744559104 (by omega) (by omega)
        have m9 := zmul_i (x := bo) (y := Q k c) 1573659648 209152 (by omega) (by omega)
        have body := v_thBody (υ := τ) (a := a) (b := b) (c := (c : Int)) (ua := ua) (ub := ub) (bo := bo) (y := y) (k := (k : Int)) (by omega) (by omega) (r4 k (by omega) (by omega)) (r5 k c (by omega) (by omega) (by omega) (by omega)).1 (r5 k c (by omega) (by omega) (by omega) (by omega)).2 (w64_id ⟨by omega, by omega⟩) (w64_id ⟨by omega, by omega⟩) (w64_id ⟨by omega, by omega⟩)
        have zk := (zb k ⟨by omega, by omega⟩).2
        rw [z0k, z0k, body]
        by_cases p : (k : Int) ≠ a ∧ (k : Int) ≠ b ∧ W k * P k c * y ≥ bo * Q k c
        · rw [if_pos p]
          have := zk.mp p.2.2
          refine Or.inl ⟨_, _, rfl, rfl, Or.inl ⟨rfl, rfl, ?_⟩⟩
          rw [hbo]
          refine decide_eq_false (fun z => ?_)
          have := (br.mp z).2.2 k (by omega) (by omega) p.1 p.2.1
          unfold zLd at this
          omega
        · rw [if_neg p]
          refine Or.inr ⟨_, _, _, rfl, Or.inl rfl, rfl, rfl, rfl, fun x x0 x1 xa xb => ?_⟩
          by_cases z : x = (k : Int)
          · subst z
            rcases Int.lt_or_le (zLd W G c k) (zLd W G c a + zLd W G c b) with g | g
            · exact g
            · exact absurd ⟨xa, xb, zk.mpr g⟩ p
          · exact h3 x x0 (by omega) xa xb)
      (fun τ h => ⟨h.1, Or.inr ⟨rfl, by rw [hbo]; exact decide_eq_true (br.mpr ⟨lpos, by omega, h.2⟩)⟩⟩)
    obtain ⟨t, e, τ, hl, rfl, hq⟩ := hl
    refine ⟨t, e, hl, ?_⟩
    rcases hq with ⟨q1, q2, q3⟩ | ⟨q1, q2⟩
    · exact Or.inl ⟨q1, q2, by rw [q3]; rfl⟩
    · exact Or.inr ⟨q1, by rw [q2]; rfl⟩
theorem v_tgBody {υ : zHp} {a b w s k : Int} {x : Bool} (h : m_X9_isTheirs [37, a, b, k] υ = some (if x = true then 1 else 0, υ)) : lf_X9_together_1 [37, a, b, w, s, k] υ = some (0, [37, a, b, w, zOr s (if x = true then zShl 1 k else 0), k], υ) := by
  cases x <;> simp at h <;> simp [lf_X9_together_1, xC_e, xL_e, xU_e, xB_e, xD_e, xF_e, xG_e, xA_e, xE_e, xH_e, xI_e, xZ_e, xK_e, aN_e, aC_e, cR_e, cV_e, cA_e, cO_e, cN_e, bs_e, bn_e, zg_0, zg_S, sS_e, sX_e, sF_e, sG_e, sA_e, sE_e, sEo_e, sK_e, sQ_e, sI_e, sR_e, sV_e, sB_e, sC_e, sD_e, sN_e, sP_e, sY_e, st_0, st_S, zc_0, zc_S, h, rb_0, rb_1]
theorem zp14 : zp_14 zInv := by
  intro a b w har hbr hwr σ hI
  have nN := zN_eq hI.2.2.1
  have hN := zI3 hI
  obtain ⟨nb1, nb2⟩ := zNb_e hI
  obtain ⟨nc1, nc2⟩ := zNc_e hI
  have ha : zOkA [0, 0, 0] [a, b, w] := ⟨har, hbr, hwr, trivial⟩
  by_cases g1 : (0 ≤ a ∧ a < σ 6 0) ∧ (0 ≤ b ∧ b < σ 6 0) ∧ a ≠ b
  case neg =>
    refine zq k_X8_together k_X9_together hI ha (r := -1) (σ1 := σ) (σ2 := σ) ?_ ?_ (zSame.rf σ) (zSame.rf σ)
    · by_cases g2 : 0 ≤ a ∧ a < σ 6 0
      · by_cases g3 : 0 ≤ b ∧ b < σ 6 0
        · have g4 : a = b := Classical.byContradiction (fun z => g1 ⟨g2, g3, z⟩)
          subst g4
          simp [e_X8_together, d_X8_together, xC_e, xL_e, xU_e, xB_e, xD_e, xF_e, xG_e, xA_e, xE_e, xH_e, xI_e, xZ_e, xK_e, aN_e, aC_e, cR_e, cV_e, cA_e, cO_e, cN_e, bs_e, bn_e, zg_0, zg_S, sS_e, sX_e, sF_e, sG_e, sA_e, sE_e, sEo_e, sK_e, sQ_e, sI_e, sR_e, sV_e, sB_e, sC_e, sD_e, sN_e, sP_e, sY_e, st_0, st_S, zc_0, zc_S, r_eq, r_ne, r_lt, r_le, r_gt, r_ge, rb_ite, rb_0, rb_1, w_isBell_t g2]
        · simp [e_X8_together, d_X8_together, xC_e, xL_e, xU_e, xB_e, xD_e, xF_e, xG_e, xA_e, xE_e, xH_e, xI_e, xZ_e, xK_e, aN_e, aC_e, cR_e, cV_e, cA_e, cO_e, cN_e, bs_e, bn_e, zg_0, zg_S, sS_e, sX_e, sF_e, sG_e, sA_e, sE_e, sEo_e, sK_e, sQ_e, sI_e, sR_e, sV_e, sB_e, sC_e, sD_e, sN_e, sP_e, sY_e, st_0, st_S, zc_0, zc_S, r_eq, r_ne, r_lt, r_le, r_gt, r_ge, rb_ite, rb_0, rb_1, w_isBell_t g2, w_isBell_f g3]
      · simp [e_X8_together, d_X8_together, xC_e, xL_e, xU_e, xB_e, xD_e, xF_e, xG_e, xA_e, xE_e, xH_e, xI_e, xZ_e, xK_e, aN_e, aC_e, cR_e, cV_e, cA_e, cO_e, cN_e, bs_e, bn_e, zg_0, zg_S, sS_e, sX_e, sF_e, sG_e, sA_e, sE_e, sEo_e, sK_e, sQ_e, sI_e, sR_e, sV_e, sB_e, sC_e, sD_e, sN_e, sP_e, sY_e, st_0, st_S, zc_0, zc_S, r_eq, r_ne, r_lt, r_le, r_gt, r_ge, rb_ite, rb_0, rb_1, w_isBell_f g2]
    · rw [← hN.1] at g1
      by_cases g2 : 0 ≤ a ∧ a < σ 37 14
      · by_cases g3 : 0 ≤ b ∧ b < σ 37 14
        · have g4 : a = b := Classical.byContradiction (fun z => g1 ⟨g2, g3, z⟩)
          subst g4
          simp [e_X9_together, d_X9_together, xC_e, xL_e, xU_e, xB_e, xD_e, xF_e, xG_e, xA_e, xE_e, xH_e, xI_e, xZ_e, xK_e, aN_e, aC_e, cR_e, cV_e, cA_e, cO_e, cN_e, bs_e, bn_e, zg_0, zg_S, sS_e, sX_e, sF_e, sG_e, sA_e, sE_e, sEo_e, sK_e, sQ_e, sI_e, sR_e, sV_e, sB_e, sC_e, sD_e, sN_e, sP_e, sY_e, st_0, st_S, zc_0, zc_S, r_eq, r_ne, r_lt, r_le, r_gt, r_ge, rb_ite, rb_0, rb_1, v_isBell_t g2]
        · simp [e_X9_together, d_X9_together, xC_e, xL_e, xU_e, xB_e, xD_e, xF_e, xG_e, xA_e, xE_e, xH_e, xI_e, xZ_e, xK_e, aN_e, aC_e, cR_e, cV_e, cA_e, cO_e, cN_e, bs_e, bn_e, zg_0, zg_S, sS_e, sX_e, sF_e, sG_e, sA_e, sE_e, sEo_e, sK_e, sQ_e, sI_e, sR_e, sV_e, sB_e, sC_e, sD_e, sN_e, sP_e, sY_e, st_0, st_S, zc_0, zc_S, r_eq, r_ne, r_lt, r_le, r_gt, r_ge, rb_ite, rb_0, rb_1, v_isBell_t g2, v_isBell_f g3]
      · simp [e_X9_together, d_X9_together, xC_e, xL_e, xU_e, xB_e, xD_e, xF_e, xG_e, xA_e, xE_e, xH_e, xI_e, xZ_e, xK_e, aN_e, aC_e, cR_e, cV_e, cA_e, cO_e, cN_e, bs_e, bn_e, zg_0, zg_S, sS_e, sX_e, sF_e, sG_e, sA_e, sE_e, sEo_e, sK_e, sQ_e, sI_e, sR_e, sV_e, sB_e, sC_e, sD_e, sN_e, sP_e, sY_e, st_0, st_S, zc_0, zc_S, r_eq, r_ne, r_lt, r_le, r_gt, r_ge, rb_ite, rb_0, rb_1, v_isBell_f g2]
  obtain ⟨g1, g3, g4⟩ := g1
  have g1' : 0 ≤ a ∧ a < σ 37 14 := by rw [hN.1]; exact g1
  have g3' : 0 ≤ b ∧ b < σ 37 14 := by rw [hN.1]; exact g3
  by_cases g2 : 0 ≤ w ∧ w ≤ 39
  case neg =>
    refine zq k_X8_together k_X9_together hI ha (r := -2) (σ1 := σ) (σ2 := σ) ?_ ?_ (zSame.rf σ) (zSame.rf σ)
    · simp [e_X8_together, d_X8_together, xC_e, xL_e, xU_e, xB_e, xD_e, xF_e, xG_e, xA_e, xE_e, xH_e, xI_e, xZ_e, xK_e, aN_e, aC_e, cR_e, cV_e, cA_e, cO_e, cN_e, bs_e, bn_e, zg_0, zg_S, sS_e, sX_e, sF_e, sG_e, sA_e, sE_e, sEo_e, sK_e, sQ_e, sI_e, sR_e, sV_e, sB_e, sC_e, sD_e, sN_e, sP_e, sY_e, st_0, st_S, zc_0, zc_S, r_eq, r_ne, r_lt, r_le, r_gt, r_ge, rb_ite, rb_0, rb_1, w_isBell_t g1, w_isBell_t g3, g4, w_isWind_f g2]
    · simp [e_X9_together, d_X9_together, xC_e, xL_e, xU_e, xB_e, xD_e, xF_e, xG_e, xA_e, xE_e, xH_e, xI_e, xZ_e, xK_e, aN_e, aC_e, cR_e, cV_e, cA_e, cO_e, cN_e, bs_e, bn_e, zg_0, zg_S, sS_e, sX_e, sF_e, sG_e, sA_e, sE_e, sEo_e, sK_e, sQ_e, sI_e, sR_e, sV_e, sB_e, sC_e, sD_e, sN_e, sP_e, sY_e, st_0, st_S, zc_0, zc_S, r_eq, r_ne, r_lt, r_le, r_gt, r_ge, rb_ite, rb_0, rb_1, v_isBell_t g1', v_isBell_t g3', g4, v_isWind_f g2]
  obtain ⟨τ, t1, t2, t3⟩ := zBlow hI g2
  obtain ⟨υ, u1, u2, u3⟩ := zLay hI t2 g2
  have hW := zWt_I hI
  have x1 := w_ob t3 (zCq_I hI g2) hW (a := a) (b := b) (by omega) (by omega)
  have l2 := zforP (c := lc_X9_together_1) (f := lf_X9_together_1) (i := 5) (lo := 0) (σ := υ) (zNc σ) (fun k => [37, a, b, w, zSt2 (zBo (zFF σ w) (σ 9) (zGG σ w) (zNb σ) a b) k, 0 + (k : Int)]) (fun k => rfl) (by decide) (by omega)
    (fun k hk => zc_lt (i := 5) (x := 0 + (k : Int)) rfl (zx_all u3.2.1) (by omega))
    (fun k hk => by
      have body := v_tgBody (w := w) (s := zSt2 (zBo (zFF σ w) (σ 9) (zGG σ w) (zNb σ) a b) k) (v_th u3 (zPc_I hI g2) hW (a := a) (b := b) (by omega) (by omega) hk)
      rw [z0k, z0k]
      exact ⟨_, _, body, Or.inl rfl, rfl, rfl⟩)
  have l2b : sW lc_X9_together_1 lf_X9_together_1 ls_X9_together_1 [37, a, b, w, 0, 0] υ = some (0, [37, a, b, w, zSt2 (zBo (zFF σ w) (σ 9) (zGG σ w) (zNb σ) a b) (zNc σ), 0 + (zNc σ : Int)], υ) := l2
  refine zq k_X8_together k_X9_together hI ha (r := zSt2 (zBo (zFF σ w) (σ 9) (zGG σ w) (zNb σ) a b) (zNc σ)) (σ1 := τ) (σ2 := υ) ?_ ?_ t2 u2
  · simp [e_X8_together, d_X8_together, xC_e, xL_e, xU_e, xB_e, xD_e, xF_e, xG_e, xA_e, xE_e, xH_e, xI_e, xZ_e, xK_e, aN_e, aC_e, cR_e, cV_e, cA_e, cO_e, cN_e, bs_e, bn_e, zg_0, zg_S, sS_e, sX_e, sF_e, sG_e, sA_e, sE_e, sEo_e, sK_e, sQ_e, sI_e, sR_e, sV_e, sB_e, sC_e, sD_e, sN_e, sP_e, sY_e, st_0, st_S, zc_0, zc_S, r_eq, r_ne, r_lt, r_le, r_gt, r_ge, rb_ite, rb_0, rb_1, w_isBell_t g1, w_isBell_t g3, g4, w_isWind_t g2, t1, x1]
  · have g1'' : 0 ≤ a ∧ a < τ 37 14 := by rw [t2 37 14 rfl]; exact g1'
    have g3'' : 0 ≤ b ∧ b < τ 37 14 := by rw [t2 37 14 rfl]; exact g3'
    simp [e_X9_together, d_X9_together, xC_e, xL_e, xU_e, xB_e, xD_e, xF_e, xG_e, xA_e, xE_e, xH_e, xI_e, xZ_e, xK_e, aN_e, aC_e, cR_e, cV_e, cA_e, cO_e, cN_e, bs_e, bn_e, zg_0, zg_S, sS_e, sX_e, sF_e, sG_e, sA_e, sE_e, sEo_e, sK_e, sQ_e, sI_e, sR_e, sV_e, sB_e, sC_e, sD_e, sN_e, sP_e, sY_e, st_0, st_S, zc_0, zc_S, r_eq, r_ne, r_lt, r_le, r_gt, r_ge, rb_ite, rb_0, rb_1, v_isBell_t g1'', v_isBell_t g3'', g4, v_isWind_t g2, u1, l2b]
