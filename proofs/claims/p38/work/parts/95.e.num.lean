/-! the law's small numbers -/
def qc (L : Nat) (xs : Nat → Int32) (k : Int) : Int := if k < L then (xs k.toNat).toInt else o_imul 747796405 (o_iadd k 1)
theorem qc_r (L : Nat) (xs : Nat → Int32) (k : Int) : r32 (qc L xs k) := by
  unfold qc
  split
  · exact z32_rt _
  · exact w32_r _
theorem q_cell (L : Nat) (xs : Nat → Int32) {k : Int} (hk : 0 ≤ k) (σ : zHp) : m_L_cell L xs [0, k] σ = some (qc L xs k, σ) := by
  unfold qc
  by_cases p : k < L
  · simp [e_L_cell, d_L_cell, xC_e, xL_e, xU_e, xB_e, xD_e, xF_e, xG_e, xA_e, xE_e, xH_e, xI_e, xZ_e, xK_e, aN_e, aC_e, cR_e, cV_e, cA_e, cO_e, cN_e, bs_e, bn_e, zg_0, zg_S, sS_e, sX_e, sF_e, sG_e, sA_e, sE_e, sEo_e, sK_e, sQ_e, sI_e, sR_e, sV_e, sB_e, sC_e, sD_e, sN_e, st_0, st_S, zc_0, zc_S, r_eq, r_ne, r_lt, r_le, r_gt, r_ge, rb_ite, rb_0, rb_1, xT_e, p, hk]
  · simp [e_L_cell, d_L_cell, xC_e, xL_e, xU_e, xB_e, xD_e, xF_e, xG_e, xA_e, xE_e, xH_e, xI_e, xZ_e, xK_e, aN_e, aC_e, cR_e, cV_e, cA_e, cO_e, cN_e, bs_e, bn_e, zg_0, zg_S, sS_e, sX_e, sF_e, sG_e, sA_e, sE_e, sEo_e, sK_e, sQ_e, sI_e, sR_e, sV_e, sB_e, sC_e, sD_e, sN_e, st_0, st_S, zc_0, zc_S, r_eq, r_ne, r_lt, r_le, r_gt, r_ge, rb_ite, rb_0, rb_1, p]
theorem qs_nn (v : Int) : 0 ≤ zAnd v 2147483647 := by
  unfold zAnd
  have h : (Int32.ofInt v &&& Int32.ofInt 2147483647).toBitVec.toNat ≤ 2147483647 := by
    rw [Int32.toBitVec_and, BitVec.toNat_and]
    exact Nat.le_trans Nat.and_le_right (Nat.le_of_ble_eq_true rfl)
  have e : (Int32.ofInt v &&& Int32.ofInt 2147483647).toInt = ((Int32.ofInt v &&& Int32.ofInt 2147483647).toBitVec.toNat : Int) := by
    show BitVec.toInt _ = _
    refine BitVec.toInt_eq_toNat_of_lt ?_
    omega
  rw [e]
  exact Int.natCast_nonneg _
def qs (v n : Int) : Int := zAnd v 2147483647 % n
theorem qs_i {v n : Int} (hn : 0 < n) : 0 ≤ qs v n ∧ qs v n < n := ⟨Int.emod_nonneg _ (by omega), Int.emod_lt_of_pos _ hn⟩
theorem q_some {v n : Int} (hn : 0 < n) (σ : zHp) : m_L_some [v, n] σ = some (qs v n, σ) := by
  have e : zmod (zAnd v 2147483647) n = qs v n := zmod_e (qs_nn v)
  have n0 : ¬ n = 0 := by omega
  simp [e_L_some, d_L_some, xC_e, xL_e, xU_e, xB_e, xD_e, xF_e, xG_e, xA_e, xE_e, xH_e, xI_e, xZ_e, xK_e, aN_e, aC_e, cR_e, cV_e, cA_e, cO_e, cN_e, bs_e, bn_e, zg_0, zg_S, sS_e, sX_e, sF_e, sG_e, sA_e, sE_e, sEo_e, sK_e, sQ_e, sI_e, sR_e, sV_e, sB_e, sC_e, sD_e, sN_e, st_0, st_S, zc_0, zc_S, n0, e]
theorem q_alC {υ : zHp} {a b u d x y z z1 : Int} : lc_L_isAlike_1 [a, 0, b, 0, u, 0, d, 0, x, 0, y, 0, z, z1] υ = some (decide (¬ y = 0), υ) := by
  simp [lc_L_isAlike_1, xC_e, xL_e, xU_e, xB_e, xD_e, xF_e, xG_e, xA_e, xE_e, xH_e, xI_e, xZ_e, xK_e, aN_e, aC_e, cR_e, cV_e, cA_e, cO_e, cN_e, bs_e, bn_e, zg_0, zg_S, sS_e, sX_e, sF_e, sG_e, sA_e, sE_e, sEo_e, sK_e, sQ_e, sI_e, sR_e, sV_e, sB_e, sC_e, sD_e, sN_e, st_0, st_S, zc_0, zc_S, r_eq, r_ne, r_lt, r_le, r_gt, r_ge, rb_ite, rb_0, rb_1]
theorem q_alB {υ : zHp} {a b u d x y r : Int} (h : ¬ y = 0) (hr : zmod x y = r) : lf_L_isAlike_1 [a, 0, b, 0, u, 0, d, 0, x, 0, y, 0, 0, 0] υ = some (0, [a, 0, b, 0, u, 0, d, 0, y, 0, r, 0, 0, 0], υ) := by
  simp [lf_L_isAlike_1, xC_e, xL_e, xU_e, xB_e, xD_e, xF_e, xG_e, xA_e, xE_e, xH_e, xI_e, xZ_e, xK_e, aN_e, aC_e, cR_e, cV_e, cA_e, cO_e, cN_e, bs_e, bn_e, zg_0, zg_S, sS_e, sX_e, sF_e, sG_e, sA_e, sE_e, sEo_e, sK_e, sQ_e, sI_e, sR_e, sV_e, sB_e, sC_e, sD_e, sN_e, st_0, st_S, zc_0, zc_S, r_eq, r_ne, r_lt, r_le, r_gt, r_ge, rb_ite, rb_0, rb_1, h, hr]
theorem q_alike {σ : zHp} {a b : Nat} (hb : 0 < b ∧ b < 1000000) (ha : a < 9223372036854775808) {u d : Int} (hu : u = ((a / Nat.gcd a b : Nat) : Int)) (hd : d = ((b / Nat.gcd a b : Nat) : Int)) : m_L_isAlike [(a : Int), (b : Int), u, d] σ = some (1, σ) := by
  obtain ⟨t, e, τ, hl, hq⟩ := zl_m (c := lc_L_isAlike_1) (f := lf_L_isAlike_1) (s := ls_L_isAlike_1) (e := [(a : Int), 0, (b : Int), 0, u, 0, d, 0, (a : Int), 0, (b : Int), 0, 0, 0]) (σ := σ)
    (fun k e x => x = σ ∧ ∃ p q : Nat, e = [(a : Int), 0, (b : Int), 0, u, 0, d, 0, (p : Int), 0, (q : Int), 0, 0, 0] ∧ Nat.gcd p q = Nat.gcd a b ∧ q + k ≤ b)
    (fun t e x => x = σ ∧ t = 0 ∧ e = [(a : Int), 0, (b : Int), 0, u, 0, d, 0, ((Nat.gcd a b : Nat) : Int), 0, 0, 0, 0, 0]) (b + 1) ⟨rfl, a, b, rfl, rfl, by omega⟩
    (fun k e x hj => by
      obtain ⟨rfl, p, q, rfl, h1, h2⟩ := hj
      by_cases z : q = 0
      · subst z
        refine Or.inl ⟨x, by rw [q_alC, decide_eq_false (fun h => h rfl)], rfl, rfl, ?_⟩
        rw [← h1, Nat.gcd_zero_right]
        rfl
      · have hq : ¬ (q : Int) = 0 := by omega
        refine Or.inr ⟨by omega, x, by rw [q_alC, decide_eq_true hq], 0, [(a : Int), 0, (b : Int), 0, u, 0, d, 0, (q : Int), 0, ((p % q : Nat) : Int), 0, 0, 0], x, ?_, Or.inr ⟨Or.inl rfl, _, x, rfl, rfl, q, p % q, rfl, ?_, ?_⟩⟩
        · exact q_alB hq (by rw [zmod_e (by omega)]; omega)
        · rw [← h1, Nat.gcd_comm p q, Nat.gcd_rec q p, Nat.gcd_comm]
        · have := Nat.mod_lt p (show q > 0 by omega)
          omega)
    (by unfold zfuel; omega)
  obtain ⟨rfl, rfl, rfl⟩ := hq
  have gp : 0 < Nat.gcd a b := Nat.gcd_pos_of_pos_right a hb.1
  have e1 : zldiv (a : Int) ((Nat.gcd a b : Nat) : Int) = u := by
    rw [hu]
    exact zldiv_n ha
  have e2 : zldiv (b : Int) ((Nat.gcd a b : Nat) : Int) = d := by
    rw [hd]
    exact zldiv_n (by omega)
  have g0 : ¬ ((Nat.gcd a b : Nat) : Int) = 0 := by omega
  have g1 : ((Nat.gcd a b : Nat) : Int) > 0 := by omega
  generalize ((Nat.gcd a b : Nat) : Int) = g at hl e1 e2 g0 g1
  rw [e_L_isAlike]
  unfold d_L_isAlike
  rw [sQ_s (e1 := [(a : Int), 0, (b : Int), 0, u, 0, d, 0, (a : Int), 0, 0, 0, 0, 0]) (σ1 := τ) (by simp [xC_e, xL_e, xU_e, xB_e, xD_e, xF_e, xG_e, xA_e, xE_e, xH_e, xI_e, xZ_e, xK_e, aN_e, aC_e, cR_e, cV_e, cA_e, cO_e, cN_e, bs_e, bn_e, zg_0, zg_S, sS_e, sX_e, sF_e, sG_e, sA_e, sE_e, sEo_e, sK_e, sQ_e, sI_e, sR_e, sV_e, sB_e, sC_e, sD_e, sN_e, st_0, st_S, zc_0, zc_S])]
  rw [sQ_s (e1 := [(a : Int), 0, (b : Int), 0, u, 0, d, 0, (a : Int), 0, (b : Int), 0, 0, 0]) (σ1 := τ) (by simp [xC_e, xL_e, xU_e, xB_e, xD_e, xF_e, xG_e, xA_e, xE_e, xH_e, xI_e, xZ_e, xK_e, aN_e, aC_e, cR_e, cV_e, cA_e, cO_e, cN_e, bs_e, bn_e, zg_0, zg_S, sS_e, sX_e, sF_e, sG_e, sA_e, sE_e, sEo_e, sK_e, sQ_e, sI_e, sR_e, sV_e, sB_e, sC_e, sD_e, sN_e, st_0, st_S, zc_0, zc_S])]
  rw [sQ_s hl]
  have gl : 0 < g := g1
  simp [xC_e, xL_e, xU_e, xB_e, xD_e, xF_e, xG_e, xA_e, xE_e, xH_e, xI_e, xZ_e, xK_e, aN_e, aC_e, cR_e, cV_e, cA_e, cO_e, cN_e, bs_e, bn_e, zg_0, zg_S, sS_e, sX_e, sF_e, sG_e, sA_e, sE_e, sEo_e, sK_e, sQ_e, sI_e, sR_e, sV_e, sB_e, sC_e, sD_e, sN_e, st_0, st_S, zc_0, zc_S, r_eq, r_ne, r_lt, r_le, r_gt, r_ge, rb_ite, rb_0, rb_1, g0, gl, e1, e2]
