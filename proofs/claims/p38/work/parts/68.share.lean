/-! shares: both sides divide in the same steps -/
theorem zlc {x : Int} (h : 0 ≤ x ∧ x < 9223372036854775808) : w64 x = x := w64_id ⟨by omega, by omega⟩
theorem zldiv_n {x y : Nat} (hx : x < 9223372036854775808) : zldiv (x : Int) (y : Int) = ((x / y : Nat) : Int) := by
  unfold zldiv
  rw [Int.tdiv_eq_ediv_of_nonneg (by omega)]
  have e : ((x : Int) / (y : Int)) = ((x / y : Nat) : Int) := rfl
  rw [e]
  have := Nat.div_le_self x y
  generalize x / y = z at *
  exact zlc (by omega)
theorem zmod_n (x y : Nat) : zmod (x : Int) (y : Int) = ((x % y : Nat) : Int) := by
  rw [zmod_e (by omega)]
  rfl
theorem w_gcC {υ : zHp} {b b1 a a1 x x1 y y1 k s s1 : Int} (hk : k < 100) (hy : y ≠ 0) : lc_X8_greatestCommon_1 [a, a1, b, b1, x, x1, y, y1, k, s, s1] υ = some (true, υ) := by
  simp [lc_X8_greatestCommon_1, xC_e, xL_e, xU_e, xB_e, xD_e, xF_e, xG_e, xA_e, xE_e, xH_e, xI_e, xZ_e, xK_e, aN_e, aC_e, cR_e, cV_e, cA_e, cO_e, cN_e, bs_e, bn_e, zg_0, zg_S, sS_e, sX_e, sF_e, sG_e, sA_e, sE_e, sEo_e, sK_e, sQ_e, sI_e, sR_e, sV_e, sB_e, sC_e, sD_e, sN_e, st_0, st_S, zc_0, zc_S, r_eq, r_ne, r_lt, r_le, r_gt, r_ge, rb_ite, rb_0, rb_1, hk, hy]
theorem w_gcD {υ : zHp} {b b1 a a1 x x1 y1 k s s1 : Int} (hk : k < 100) : lc_X8_greatestCommon_1 [a, a1, b, b1, x, x1, 0, y1, k, s, s1] υ = some (false, υ) := by
  simp [lc_X8_greatestCommon_1, xC_e, xL_e, xU_e, xB_e, xD_e, xF_e, xG_e, xA_e, xE_e, xH_e, xI_e, xZ_e, xK_e, aN_e, aC_e, cR_e, cV_e, cA_e, cO_e, cN_e, bs_e, bn_e, zg_0, zg_S, sS_e, sX_e, sF_e, sG_e, sA_e, sE_e, sEo_e, sK_e, sQ_e, sI_e, sR_e, sV_e, sB_e, sC_e, sD_e, sN_e, st_0, st_S, zc_0, zc_S, r_eq, r_ne, r_lt, r_le, r_gt, r_ge, rb_ite, rb_0, rb_1, hk]
theorem w_gcBody {υ : zHp} {b b1 a a1 x x1 y y1 k s s1 r : Int} (hy : y ≠ 0) (hr : zmod x y = r) : lf_X8_greatestCommon_1 [a, a1, b, b1, x, x1, y, y1, k, s, s1] υ = some (0, [a, a1, b, b1, y, x1, r, y1, k, 0, s1], υ) := by
  simp [lf_X8_greatestCommon_1, xC_e, xL_e, xU_e, xB_e, xD_e, xF_e, xG_e, xA_e, xE_e, xH_e, xI_e, xZ_e, xK_e, aN_e, aC_e, cR_e, cV_e, cA_e, cO_e, cN_e, bs_e, bn_e, zg_0, zg_S, sS_e, sX_e, sF_e, sG_e, sA_e, sE_e, sEo_e, sK_e, sQ_e, sI_e, sR_e, sV_e, sB_e, sC_e, sD_e, sN_e, st_0, st_S, zc_0, zc_S, hy, hr]
theorem w_gcStep {υ : zHp} {b b1 a a1 x x1 y y1 k s s1 k2 : Int} (h : o_iadd k 1 = k2) : ls_X8_greatestCommon_1 [a, a1, b, b1, x, x1, y, y1, k, s, s1] υ = some (0, [a, a1, b, b1, x, x1, y, y1, k2, s, s1], υ) := by
  simp only [ls_X8_greatestCommon_1, xC_e, xL_e, xU_e, xB_e, xD_e, xF_e, xG_e, xA_e, xE_e, xH_e, xI_e, xZ_e, xK_e, aN_e, aC_e, cR_e, cV_e, cA_e, cO_e, cN_e, bs_e, bn_e, zg_0, zg_S, sS_e, sX_e, sF_e, sG_e, sA_e, sE_e, sEo_e, sK_e, sQ_e, sI_e, sR_e, sV_e, sB_e, sC_e, sD_e, sN_e, st_0, st_S, zc_0, zc_S, h]
theorem w_gcEval {υ : zHp} {a b d y k : Int} (hl : sW lc_X8_greatestCommon_1 lf_X8_greatestCommon_1 ls_X8_greatestCommon_1 [a, 0, b, 0, a, 0, b, 0, 0, 0, 0] υ = some (0, [a, 0, b, 0, d, 0, y, 0, k, 0, 0], υ)) (hd : o_maxl 1 d = d) : m_X8_greatestCommon [a, b] υ = some (d, υ) := by
  simp [e_X8_greatestCommon, d_X8_greatestCommon, xC_e, xL_e, xU_e, xB_e, xD_e, xF_e, xG_e, xA_e, xE_e, xH_e, xI_e, xZ_e, xK_e, aN_e, aC_e, cR_e, cV_e, cA_e, cO_e, cN_e, bs_e, bn_e, zg_0, zg_S, sS_e, sX_e, sF_e, sG_e, sA_e, sE_e, sEo_e, sK_e, sQ_e, sI_e, sR_e, sV_e, sB_e, sC_e, sD_e, sN_e, st_0, st_S, zc_0, zc_S, r_eq, r_ne, r_lt, r_le, r_gt, r_ge, rb_ite, rb_0, rb_1, hl, hd]
theorem zhalf {x y : Nat} (h : y < x) (hy : 0 < y) : x % y < y ∧ 2 * (y * (x % y)) ≤ x * y := by
  have h1 := Nat.mod_lt x hy
  have h2 := Nat.mod_add_div x y
  have h3 : 1 ≤ x / y := (Nat.le_div_iff_mul_le hy).mpr (by omega)
  have h4 : y * 1 ≤ y * (x / y) := Nat.mul_le_mul_left y h3
  refine ⟨h1, ?_⟩
  generalize x % y = r at *
  have h5 : 2 * r ≤ x := by omega
  have h6 := Nat.mul_le_mul_left y h5
  have e1 : y * (2 * r) = 2 * (y * r) := by ac_rfl
  have e2 : y * x = x * y := Nat.mul_comm y x
  omega
theorem zp38 {p k M : Nat} (hp : 1 ≤ p) (h : p * 2 ^ k ≤ M) (hM : M < 2 ^ 38) : k ≤ 37 := by
  have p2 : 1 * 2 ^ k ≤ p * 2 ^ k := Nat.mul_le_mul_right _ hp
  rcases Nat.lt_or_ge k 38 with z | z
  · omega
  · have := Nat.pow_le_pow_right (show 0 < 2 by decide) z
    omega
theorem zgcS {x y k M : Nat} (h : y < x) (hy : 0 < y) (hM : x * y * 2 ^ k ≤ M) : y * (x % y) * 2 ^ (k + 1) ≤ M := by
  obtain ⟨-, z2⟩ := zhalf h hy
  have z3 := Nat.mul_le_mul_right (2 ^ k) z2
  have z4 : y * (x % y) * 2 ^ (k + 1) = 2 * (y * (x % y)) * 2 ^ k := by rw [Nat.pow_succ]; ac_rfl
  omega
theorem zgcM (g x y : Nat) : g * x % (g * y) = g * (x % y) := Nat.mul_mod_mul_left g x y
theorem w_gc {σ : zHp} {a b g : Nat} (hb : 0 < b ∧ b < 262144) (hg : 0 < g) : m_X8_greatestCommon [((g * a : Nat) : Int), ((g * b : Nat) : Int)] σ = some (((g * Nat.gcd a b : Nat) : Int), σ) := by
  have ⟨M, hM, hM2⟩ : ∃ M : Nat, M < 2 ^ 38 ∧ ∀ y x : Nat, y < 262144 → x < y → y * x * 2 ^ 1 ≤ M := by
    refine ⟨262144 * 262144 * 2, by decide, fun y x h1 h2 => ?_⟩
    have : y * x ≤ 262144 * 262144 := Nat.mul_le_mul (by omega) (by omega)
    omega
  have hl := zl_m (c := lc_X8_greatestCommon_1) (f := lf_X8_greatestCommon_1) (s := ls_X8_greatestCommon_1) (fun k e υ => υ = σ ∧ ∃ x y : Nat, e = [((g * a : Nat) : Int), 0, ((g * b : Nat) : Int), 0, ((g * x : Nat) : Int), 0, ((g * y : Nat) : Int), 0, (k : Int), 0, 0] ∧ Nat.gcd x y = Nat.gcd a b ∧ ((k = 0 ∧ x = a ∧ y = b) ∨ (1 ≤ k ∧ k ≤ 50 ∧ y < x ∧ (x * y * 2 ^ k ≤ M))))
    (fun t e υ => υ = σ ∧ t = 0 ∧ ∃ k : Int, e = [((g * a : Nat) : Int), 0, ((g * b : Nat) : Int), 0, ((g * Nat.gcd a b : Nat) : Int), 0, 0, 0, k, 0, 0]) 100 (e := [((g * a : Nat) : Int), 0, ((g * b : Nat) : Int), 0, ((g * a : Nat) : Int), 0, ((g * b : Nat) : Int), 0, 0, 0, 0]) (σ := σ) ⟨rfl, a, b, rfl, rfl, Or.inl ⟨rfl, rfl, rfl⟩⟩
    (by
      rintro k e υ ⟨rfl, x, y, rfl, h1, h2⟩
      by_cases q : y = 0
      · have k100 : (k : Int) < 100 := by omega
        refine Or.inl ⟨υ, ?_, rfl, rfl, (k : Int), ?_⟩
        · rw [q, Nat.mul_zero]
          exact w_gcD k100
        · rw [← h1, q, Nat.gcd_zero_right, Nat.mul_zero]
          rfl
      · have gy : 0 < g * y := Nat.mul_pos hg (by omega)
        have hy : ((g * y : Nat) : Int) ≠ 0 := by omega
        have k36 : k ≤ 37 := by
          rcases h2 with h2 | ⟨h2, h3, h4, h5⟩
          · omega
          · exact zp38 (Nat.mul_pos (by omega) (by omega)) h5 hM
        have k100 : (k : Int) < 100 := by omega
        have e1 := zmod_n (g * x) (g * y)
        rw [zgcM] at e1
        refine Or.inr ⟨by omega, υ, w_gcC k100 hy, ⟨0, _, υ, w_gcBody hy e1, Or.inr ⟨Or.inl rfl, _, υ, w_gcStep (zinc (k := k) (by omega)), rfl, y, x % y, rfl, ?_, Or.inr ⟨by omega, by omega, Nat.mod_lt _ (by omega), ?_⟩⟩⟩⟩
        · rw [← h1, Nat.gcd_comm y, ← Nat.gcd_rec, Nat.gcd_comm]
        · rcases h2 with ⟨h2, h3, h4⟩ | ⟨h2, h3, h4, h5⟩
          · rw [h2]
            exact hM2 y (x % y) (by omega) (Nat.mod_lt x (by omega))
          · exact zgcS h4 (by omega) h5)
    (zf_lt (by omega))
  obtain ⟨t, e, υ, hl, rfl, rfl, k, rfl⟩ := hl
  have g0 : 0 < Nat.gcd a b := Nat.gcd_pos_of_pos_right a hb.1
  have g1 : 0 < g * Nat.gcd a b := Nat.mul_pos hg g0
  refine w_gcEval hl ?_
  rw [o_maxl_e]
  generalize g * Nat.gcd a b = d at *
  omega
theorem w_shEval {υ : zHp} {a b w d qa qb : Int} (h : m_X8_greatestCommon [a, b] υ = some (d, υ)) (hd : d ≠ 0) (ha : zldiv a d = qa) (hb : zldiv b d = qb) : m_X8_share [a, b, w] υ = some (if w = 0 then qa else qb, υ) := by
  by_cases q : w = 0
  · simp [e_X8_share, d_X8_share, xC_e, xL_e, xU_e, xB_e, xD_e, xF_e, xG_e, xA_e, xE_e, xH_e, xI_e, xZ_e, xK_e, aN_e, aC_e, cR_e, cV_e, cA_e, cO_e, cN_e, bs_e, bn_e, zg_0, zg_S, sS_e, sX_e, sF_e, sG_e, sA_e, sE_e, sEo_e, sK_e, sQ_e, sI_e, sR_e, sV_e, sB_e, sC_e, sD_e, sN_e, st_0, st_S, zc_0, zc_S, r_eq, r_ne, r_lt, r_le, r_gt, r_ge, rb_ite, rb_0, rb_1, h, q, ha, hd]
  · simp [e_X8_share, d_X8_share, xC_e, xL_e, xU_e, xB_e, xD_e, xF_e, xG_e, xA_e, xE_e, xH_e, xI_e, xZ_e, xK_e, aN_e, aC_e, cR_e, cV_e, cA_e, cO_e, cN_e, bs_e, bn_e, zg_0, zg_S, sS_e, sX_e, sF_e, sG_e, sA_e, sE_e, sEo_e, sK_e, sQ_e, sI_e, sR_e, sV_e, sB_e, sC_e, sD_e, sN_e, st_0, st_S, zc_0, zc_S, r_eq, r_ne, r_lt, r_le, r_gt, r_ge, rb_ite, rb_0, rb_1, h, q, hb, hd]
theorem w_share {σ : zHp} {a b g : Nat} {w : Int} (hb : 0 < b ∧ b < 262144) (hg : 0 < g) (ha : g * a < 9223372036854775808) (hgb : g * b < 9223372036854775808) : m_X8_share [((g * a : Nat) : Int), ((g * b : Nat) : Int), w] σ = some (if w = 0 then ((a / Nat.gcd a b : Nat) : Int) else ((b / Nat.gcd a b : Nat) : Int), σ) := by
  have g0 : 0 < Nat.gcd a b := Nat.gcd_pos_of_pos_right a hb.1
  have g1 : 0 < g * Nat.gcd a b := Nat.mul_pos hg g0
  have da := zldiv_n (y := g * Nat.gcd a b) ha
  have db := zldiv_n (y := g * Nat.gcd a b) hgb
  rw [Nat.mul_div_mul_left _ _ hg] at da db
  exact w_shEval (w_gc hb hg) (by omega) da db
