/-- places j0 .. j0 + n - 1 of row y from row x, behind i0 -/
def zcp (σ : zHp) (i0 j0 lo n : Int) : zHp := fun a b => if a = 40 ∧ j0 + lo ≤ b ∧ b < j0 + lo + n then σ 40 (i0 + (b - j0)) else σ a b
theorem zcp_y {σ : zHp} {i0 j0 lo n a b : Int} (h : a = 40 ∧ j0 + lo ≤ b ∧ b < j0 + lo + n) : zcp σ i0 j0 lo n a b = σ 40 (i0 + (b - j0)) := if_pos h
theorem zcp_n {σ : zHp} {i0 j0 lo n a b : Int} (h : ¬ (a = 40 ∧ j0 + lo ≤ b ∧ b < j0 + lo + n)) : zcp σ i0 j0 lo n a b = σ a b := if_neg h
theorem zcp_0 (σ : zHp) (i0 j0 lo : Int) : zcp σ i0 j0 lo 0 = σ := by
  funext a b
  exact zcp_n (by omega)
theorem zput_y {σ : zHp} {o i v a b : Int} (h : a = o ∧ b = i) : zput σ o i v a b = v := if_pos h
/-- one further upwards, one further downwards -/
theorem zcp_up (σ : zHp) (i0 j0 n : Int) (h : 0 ≤ n) : zput (zcp σ i0 j0 0 n) 40 (j0 + n) (σ 40 (i0 + n)) = zcp σ i0 j0 0 (n + 1) := by
  funext a b
  by_cases h1 : a = 40 ∧ b = j0 + n
  · rw [zput_y h1, zcp_y (by omega), h1.2, show j0 + n - j0 = n by omega]
  · rw [zput_n h1]
    by_cases h2 : a = 40 ∧ j0 + 0 ≤ b ∧ b < j0 + 0 + n
    · rw [zcp_y h2, zcp_y (by omega)]
    · rw [zcp_n h2, zcp_n (by omega)]
theorem zcp_dn (σ : zHp) (i0 j0 lo n : Int) (h : 0 ≤ n) : zput (zcp σ i0 j0 (lo + 1) n) 40 (j0 + lo) (σ 40 (i0 + lo)) = zcp σ i0 j0 lo (n + 1) := by
  funext a b
  by_cases h1 : a = 40 ∧ b = j0 + lo
  · rw [zput_y h1, zcp_y (by omega), h1.2, show j0 + lo - j0 = lo by omega]
  · rw [zput_n h1]
    by_cases h2 : a = 40 ∧ j0 + (lo + 1) ≤ b ∧ b < j0 + (lo + 1) + n
    · rw [zcp_y h2, zcp_y (by omega)]
    · rw [zcp_n h2, zcp_n (by omega)]
theorem v_copyUp (s i t j n : Int) (hs : 0 ≤ s ∧ s < 4) (ht : 0 ≤ t ∧ t < 4) (hi : 0 ≤ i) (hj : 0 ≤ j) (hn : 0 ≤ n) (hi6 : i + n ≤ 60) (hj6 : j + n ≤ 60) (hij : ¬ i < j) (σ : zHp) :
    sW lc_X9_copy_1 lf_X9_copy_1 ls_X9_copy_1 [37, s, i, t, j, n, 1, 0, 0, 0] σ = some (0, [37, s, i, t, j, n, 1, 0, n, 0], zcp σ (60 * s + i) (60 * t + j) 0 n) := by
  have hl := zl_seq (c := lc_X9_copy_1) (f := lf_X9_copy_1) (s := ls_X9_copy_1) (fun k => [37, s, i, t, j, n, 1, 0, (k : Int), 0]) (fun k => zcp σ (60 * s + i) (60 * t + j) 0 (k : Int)) n.toNat
    (fun k hk => by
      have : (k : Int) < n := by omega
      simp [lc_X9_copy_1, xC_e, xL_e, xU_e, xB_e, xD_e, xF_e, xG_e, xA_e, xE_e, xH_e, xI_e, xZ_e, xK_e, aN_e, aC_e, cR_e, cV_e, cA_e, cO_e, cN_e, bs_e, bn_e, zg_0, zg_S, sS_e, sX_e, sF_e, sG_e, sA_e, sE_e, sEo_e, sK_e, sQ_e, sI_e, sR_e, sV_e, sB_e, sC_e, sD_e, sN_e, sP_e, sY_e, st_0, st_S, zc_0, zc_S, r_lt, this])
    (fun k hk => by
      have hk' : (k : Int) < n := by omega
      refine ⟨0, [37, s, i, t, j, n, 1, 0, (k : Int), 0], zcp σ (60 * s + i) (60 * t + j) 0 ((k : Int) + 1), ?_, Or.inl rfl, ?_⟩
      · have a1 : o_imul 60 s = 60 * s := w32_id ⟨by omega, by omega⟩
        have a2 : o_iadd (60 * s) i = 60 * s + i := w32_id ⟨by omega, by omega⟩
        have a3 : o_iadd (60 * s + i) (k : Int) = 60 * s + i + k := w32_id ⟨by omega, by omega⟩
        have a4 : 0 ≤ 60 * s + i + (k : Int) ∧ 60 * s + i + (k : Int) < 240 := by omega
        have b1 : o_imul 60 t = 60 * t := w32_id ⟨by omega, by omega⟩
        have b2 : o_iadd (60 * t) j = 60 * t + j := w32_id ⟨by omega, by omega⟩
        have b3 : o_iadd (60 * t + j) (k : Int) = 60 * t + j + k := w32_id ⟨by omega, by omega⟩
        have b4 : 0 ≤ 60 * t + j + (k : Int) ∧ 60 * t + j + (k : Int) < 240 := by omega
        have q := zcp_up σ (60 * s + i) (60 * t + j) (k : Int) (by omega)
        have r : zcp σ (60 * s + i) (60 * t + j) 0 (k : Int) 40 (60 * s + i + k) = σ 40 (60 * s + i + k) := zcp_n (by omega)
        simp [lf_X9_copy_1, xC_e, xL_e, xU_e, xB_e, xD_e, xF_e, xG_e, xA_e, xE_e, xH_e, xI_e, xZ_e, xK_e, aN_e, aC_e, cR_e, cV_e, cA_e, cO_e, cN_e, bs_e, bn_e, zg_0, zg_S, sS_e, sX_e, sF_e, sG_e, sA_e, sE_e, sEo_e, sK_e, sQ_e, sI_e, sR_e, sV_e, sB_e, sC_e, sD_e, sN_e, sP_e, sY_e, st_0, st_S, zc_0, zc_S, a1, a2, a3, a4, b1, b2, b3, b4, r_eq, r_ne, r_lt, r_le, r_gt, r_ge, rb_ite, rb_0, rb_1, r, q]
      · have e : o_iadd (k : Int) 1 = ((k + 1 : Nat) : Int) := by
          have : o_iadd (k : Int) 1 = (k : Int) + 1 := w32_id ⟨by omega, by omega⟩
          omega
        simp [ls_X9_copy_1, xC_e, xL_e, xU_e, xB_e, xD_e, xF_e, xG_e, xA_e, xE_e, xH_e, xI_e, xZ_e, xK_e, aN_e, aC_e, cR_e, cV_e, cA_e, cO_e, cN_e, bs_e, bn_e, zg_0, zg_S, sS_e, sX_e, sF_e, sG_e, sA_e, sE_e, sEo_e, sK_e, sQ_e, sI_e, sR_e, sV_e, sB_e, sC_e, sD_e, sN_e, sP_e, sY_e, st_0, st_S, zc_0, zc_S, e])
    (by
      have : ¬ ((n.toNat : Int) < n) := by omega
      simp [lc_X9_copy_1, xC_e, xL_e, xU_e, xB_e, xD_e, xF_e, xG_e, xA_e, xE_e, xH_e, xI_e, xZ_e, xK_e, aN_e, aC_e, cR_e, cV_e, cA_e, cO_e, cN_e, bs_e, bn_e, zg_0, zg_S, sS_e, sX_e, sF_e, sG_e, sA_e, sE_e, sEo_e, sK_e, sQ_e, sI_e, sR_e, sV_e, sB_e, sC_e, sD_e, sN_e, sP_e, sY_e, st_0, st_S, zc_0, zc_S, r_lt]
      omega)
    (zf_lt (by omega))
  simp only [Int.natCast_zero, zcp_0, show (n.toNat : Int) = n by omega] at hl
  exact hl
theorem v_copyDn (s i t j n : Int) (hs : 0 ≤ s ∧ s < 4) (ht : 0 ≤ t ∧ t < 4) (hi : 0 ≤ i) (hj : 0 ≤ j) (hn : 0 ≤ n) (hi6 : i + n ≤ 60) (hj6 : j + n ≤ 60) (hij : i < j) (σ : zHp) :
    sW lc_X9_copy_1 lf_X9_copy_1 ls_X9_copy_1 [37, s, i, t, j, n, 1, 1, 0, 0] σ = some (0, [37, s, i, t, j, n, 1, 1, n, 0], zcp σ (60 * s + i) (60 * t + j) 0 n) := by
  have hl := zl_seq (c := lc_X9_copy_1) (f := lf_X9_copy_1) (s := ls_X9_copy_1) (fun k => [37, s, i, t, j, n, 1, 1, (k : Int), 0]) (fun k => zcp σ (60 * s + i) (60 * t + j) (n - k) (k : Int)) n.toNat
    (fun k hk => by
      have : (k : Int) < n := by omega
      simp [lc_X9_copy_1, xC_e, xL_e, xU_e, xB_e, xD_e, xF_e, xG_e, xA_e, xE_e, xH_e, xI_e, xZ_e, xK_e, aN_e, aC_e, cR_e, cV_e, cA_e, cO_e, cN_e, bs_e, bn_e, zg_0, zg_S, sS_e, sX_e, sF_e, sG_e, sA_e, sE_e, sEo_e, sK_e, sQ_e, sI_e, sR_e, sV_e, sB_e, sC_e, sD_e, sN_e, sP_e, sY_e, st_0, st_S, zc_0, zc_S, r_lt, this])
    (fun k hk => by
      have hk' : (k : Int) < n := by omega
      refine ⟨0, [37, s, i, t, j, n, 1, 1, (k : Int), 0], zcp σ (60 * s + i) (60 * t + j) (n - 1 - (k : Int)) ((k : Int) + 1), ?_, Or.inl rfl, ?_⟩
      · have c1 : o_isub n 1 = n - 1 := w32_id ⟨by omega, by omega⟩
        have c2 : o_isub (n - 1) (k : Int) = n - 1 - k := w32_id ⟨by omega, by omega⟩
        have a1 : o_imul 60 s = 60 * s := w32_id ⟨by omega, by omega⟩
        have a2 : o_iadd (60 * s) i = 60 * s + i := w32_id ⟨by omega, by omega⟩
        have a3 : o_iadd (60 * s + i) (n - 1 - (k : Int)) = 60 * s + i + (n - 1 - k) := w32_id ⟨by omega, by omega⟩
        have a4 : 0 ≤ 60 * s + i + (n - 1 - (k : Int)) ∧ 60 * s + i + (n - 1 - (k : Int)) < 240 := by omega
        have b1 : o_imul 60 t = 60 * t := w32_id ⟨by omega, by omega⟩
        have b2 : o_iadd (60 * t) j = 60 * t + j := w32_id ⟨by omega, by omega⟩
        have b3 : o_iadd (60 * t + j) (n - 1 - (k : Int)) = 60 * t + j + (n - 1 - k) := w32_id ⟨by omega, by omega⟩
        have b4 : 0 ≤ 60 * t + j + (n - 1 - (k : Int)) ∧ 60 * t + j + (n - 1 - (k : Int)) < 240 := by omega
        have q := zcp_dn σ (60 * s + i) (60 * t + j) (n - 1 - (k : Int)) (k : Int) (by omega)
        rw [show n - 1 - (k : Int) + 1 = n - k by omega] at q
        have r : zcp σ (60 * s + i) (60 * t + j) (n - (k : Int)) (k : Int) 40 (60 * s + i + (n - 1 - k)) = σ 40 (60 * s + i + (n - 1 - k)) := zcp_n (by omega)
        simp [lf_X9_copy_1, xC_e, xL_e, xU_e, xB_e, xD_e, xF_e, xG_e, xA_e, xE_e, xH_e, xI_e, xZ_e, xK_e, aN_e, aC_e, cR_e, cV_e, cA_e, cO_e, cN_e, bs_e, bn_e, zg_0, zg_S, sS_e, sX_e, sF_e, sG_e, sA_e, sE_e, sEo_e, sK_e, sQ_e, sI_e, sR_e, sV_e, sB_e, sC_e, sD_e, sN_e, sP_e, sY_e, st_0, st_S, zc_0, zc_S, c1, c2, a1, a2, a3, a4, b1, b2, b3, b4, r_eq, r_ne, r_lt, r_le, r_gt, r_ge, rb_ite, rb_0, rb_1, r, q]
      · have e : o_iadd (k : Int) 1 = ((k + 1 : Nat) : Int) := by
          have : o_iadd (k : Int) 1 = (k : Int) + 1 := w32_id ⟨by omega, by omega⟩
          omega
        simp [ls_X9_copy_1, xC_e, xL_e, xU_e, xB_e, xD_e, xF_e, xG_e, xA_e, xE_e, xH_e, xI_e, xZ_e, xK_e, aN_e, aC_e, cR_e, cV_e, cA_e, cO_e, cN_e, bs_e, bn_e, zg_0, zg_S, sS_e, sX_e, sF_e, sG_e, sA_e, sE_e, sEo_e, sK_e, sQ_e, sI_e, sR_e, sV_e, sB_e, sC_e, sD_e, sN_e, sP_e, sY_e, st_0, st_S, zc_0, zc_S, e]
        rw [show n - 1 - (k : Int) = n - ((k : Int) + 1) by omega])
    (by
      have : ¬ ((n.toNat : Int) < n) := by omega
      simp [lc_X9_copy_1, xC_e, xL_e, xU_e, xB_e, xD_e, xF_e, xG_e, xA_e, xE_e, xH_e, xI_e, xZ_e, xK_e, aN_e, aC_e, cR_e, cV_e, cA_e, cO_e, cN_e, bs_e, bn_e, zg_0, zg_S, sS_e, sX_e, sF_e, sG_e, sA_e, sE_e, sEo_e, sK_e, sQ_e, sI_e, sR_e, sV_e, sB_e, sC_e, sD_e, sN_e, sP_e, sY_e, st_0, st_S, zc_0, zc_S, r_lt]
      omega)
    (zf_lt (by omega))
  simp only [Int.natCast_zero, zcp_0, show (n.toNat : Int) = n by omega, Int.sub_self] at hl
  exact hl
theorem w_hasNumbers (o i n : Int) (σ : zHp) (h0 : 0 ≤ σ o 3) (h1 : σ o 3 ≤ 60) : m_X6_hasNumbers [o, i, n] σ = some (if 0 ≤ i ∧ 0 ≤ n ∧ i ≤ σ o 3 ∧ n ≤ σ o 3 - i then 1 else 0, σ) := by
  simp only [e_X6_hasNumbers, d_X6_hasNumbers, xC_e, xL_e, xU_e, xB_e, xD_e, xF_e, xG_e, xA_e, xE_e, xH_e, xI_e, xZ_e, xK_e, aN_e, aC_e, cR_e, cV_e, cA_e, cO_e, cN_e, bs_e, bn_e, zg_0, zg_S, sS_e, sX_e, sF_e, sG_e, sA_e, sE_e, sEo_e, sK_e, sQ_e, sI_e, sR_e, sV_e, sB_e, sC_e, sD_e, sN_e, sP_e, sY_e, st_0, st_S, zc_0, zc_S, r_eq, r_ne, r_lt, r_le, r_gt, r_ge, rb_ite, rb_0, rb_1]
  by_cases a : 0 ≤ n
  · by_cases b : 0 ≤ i
    · by_cases c : i ≤ σ o 3
      · have e : o_isub (σ o 3) i = σ o 3 - i := w32_id ⟨by omega, by omega⟩
        by_cases d : n ≤ σ o 3 - i <;> simp [a, b, c, d, e, xC_e, xL_e, xU_e, xB_e, xD_e, xF_e, xG_e, xA_e, xE_e, xH_e, xI_e, xZ_e, xK_e, aN_e, aC_e, cR_e, cV_e, cA_e, cO_e, cN_e, bs_e, bn_e, zg_0, zg_S, sS_e, sX_e, sF_e, sG_e, sA_e, sE_e, sEo_e, sK_e, sQ_e, sI_e, sR_e, sV_e, sB_e, sC_e, sD_e, sN_e, sP_e, sY_e, st_0, st_S, zc_0, zc_S]
      · simp [a, b, c, xC_e, xL_e, xU_e, xB_e, xD_e, xF_e, xG_e, xA_e, xE_e, xH_e, xI_e, xZ_e, xK_e, aN_e, aC_e, cR_e, cV_e, cA_e, cO_e, cN_e, bs_e, bn_e, zg_0, zg_S, sS_e, sX_e, sF_e, sG_e, sA_e, sE_e, sEo_e, sK_e, sQ_e, sI_e, sR_e, sV_e, sB_e, sC_e, sD_e, sN_e, sP_e, sY_e, st_0, st_S, zc_0, zc_S]
    · simp [a, b, xC_e, xL_e, xU_e, xB_e, xD_e, xF_e, xG_e, xA_e, xE_e, xH_e, xI_e, xZ_e, xK_e, aN_e, aC_e, cR_e, cV_e, cA_e, cO_e, cN_e, bs_e, bn_e, zg_0, zg_S, sS_e, sX_e, sF_e, sG_e, sA_e, sE_e, sEo_e, sK_e, sQ_e, sI_e, sR_e, sV_e, sB_e, sC_e, sD_e, sN_e, sP_e, sY_e, st_0, st_S, zc_0, zc_S]
  · simp [a, xC_e, xL_e, xU_e, xB_e, xD_e, xF_e, xG_e, xA_e, xE_e, xH_e, xI_e, xZ_e, xK_e, aN_e, aC_e, cR_e, cV_e, cA_e, cO_e, cN_e, bs_e, bn_e, zg_0, zg_S, sS_e, sX_e, sF_e, sG_e, sA_e, sE_e, sEo_e, sK_e, sQ_e, sI_e, sR_e, sV_e, sB_e, sC_e, sD_e, sN_e, sP_e, sY_e, st_0, st_S, zc_0, zc_S]
theorem w_hasNumbers_t {o i n : Int} {σ : zHp} (h0 : 0 ≤ σ o 3 ∧ σ o 3 ≤ 60) (h : 0 ≤ i ∧ 0 ≤ n ∧ i ≤ σ o 3 ∧ n ≤ σ o 3 - i) : m_X6_hasNumbers [o, i, n] σ = some (1, σ) := by rw [w_hasNumbers _ _ _ _ h0.1 h0.2, if_pos h]
theorem w_hasNumbers_f {o i n : Int} {σ : zHp} (h0 : 0 ≤ σ o 3 ∧ σ o 3 ≤ 60) (h : ¬ (0 ≤ i ∧ 0 ≤ n ∧ i ≤ σ o 3 ∧ n ≤ σ o 3 - i)) : m_X6_hasNumbers [o, i, n] σ = some (0, σ) := by rw [w_hasNumbers _ _ _ _ h0.1 h0.2, if_neg h]
theorem zp28 : zp_28 zInv := by
  intro s i t j n hsr hir htr hjr hnr σ hI
  have hS := zI10 hI
  have ha : zOkA [0, 0, 0, 0, 0] [s, i, t, j, n] := ⟨hsr, hir, htr, hjr, hnr, trivial⟩
  by_cases h : (0 ≤ s ∧ s < 4) ∧ (0 ≤ t ∧ t < 4)
  case neg =>
    refine zqf k_X8_copy k_X9_copy hI ha (r := -1) (x := 0) ?_ (fun τ hτ => ?_)
    · by_cases h1 : 0 ≤ s ∧ s < 4
      · have h2 : ¬ (0 ≤ t ∧ t < 4) := fun q => h ⟨h1, q⟩
        simp [e_X8_copy, d_X8_copy, xC_e, xL_e, xU_e, xB_e, xD_e, xF_e, xG_e, xA_e, xE_e, xH_e, xI_e, xZ_e, xK_e, aN_e, aC_e, cR_e, cV_e, cA_e, cO_e, cN_e, bs_e, bn_e, zg_0, zg_S, sS_e, sX_e, sF_e, sG_e, sA_e, sE_e, sEo_e, sK_e, sQ_e, sI_e, sR_e, sV_e, sB_e, sC_e, sD_e, sN_e, sP_e, sY_e, st_0, st_S, zc_0, zc_S, r_eq, r_ne, r_lt, r_le, r_gt, r_ge, rb_ite, rb_0, rb_1, w_isSheet_t h1, w_isSheet_f h2]
      · simp [e_X8_copy, d_X8_copy, xC_e, xL_e, xU_e, xB_e, xD_e, xF_e, xG_e, xA_e, xE_e, xH_e, xI_e, xZ_e, xK_e, aN_e, aC_e, cR_e, cV_e, cA_e, cO_e, cN_e, bs_e, bn_e, zg_0, zg_S, sS_e, sX_e, sF_e, sG_e, sA_e, sE_e, sEo_e, sK_e, sQ_e, sI_e, sR_e, sV_e, sB_e, sC_e, sD_e, sN_e, sP_e, sY_e, st_0, st_S, zc_0, zc_S, r_eq, r_ne, r_lt, r_le, r_gt, r_ge, rb_ite, rb_0, rb_1, w_isSheet_f h1]
    · by_cases h1 : 0 ≤ s ∧ s < 4
      · have h2 : ¬ (0 ≤ t ∧ t < 4) := fun q => h ⟨h1, q⟩
        simp [e_X9_copy, d_X9_copy, xC_e, xL_e, xU_e, xB_e, xD_e, xF_e, xG_e, xA_e, xE_e, xH_e, xI_e, xZ_e, xK_e, aN_e, aC_e, cR_e, cV_e, cA_e, cO_e, cN_e, bs_e, bn_e, zg_0, zg_S, sS_e, sX_e, sF_e, sG_e, sA_e, sE_e, sEo_e, sK_e, sQ_e, sI_e, sR_e, sV_e, sB_e, sC_e, sD_e, sN_e, sP_e, sY_e, st_0, st_S, zc_0, zc_S, r_eq, r_ne, r_lt, r_le, r_gt, r_ge, rb_ite, rb_0, rb_1, v_isSheet_t h1, v_isSheet_f h2]
      · simp [e_X9_copy, d_X9_copy, xC_e, xL_e, xU_e, xB_e, xD_e, xF_e, xG_e, xA_e, xE_e, xH_e, xI_e, xZ_e, xK_e, aN_e, aC_e, cR_e, cV_e, cA_e, cO_e, cN_e, bs_e, bn_e, zg_0, zg_S, sS_e, sX_e, sF_e, sG_e, sA_e, sE_e, sEo_e, sK_e, sQ_e, sI_e, sR_e, sV_e, sB_e, sC_e, sD_e, sN_e, sP_e, sY_e, st_0, st_S, zc_0, zc_S, r_eq, r_ne, r_lt, r_le, r_gt, r_ge, rb_ite, rb_0, rb_1, v_isSheet_f h1]
  obtain ⟨hs, ht⟩ := h
  have z8 : ∀ (v a b : Int), a ≠ 0 → zput σ 0 8 v a b = σ a b := fun v a b h => zput_o h b
  have os : 29 + 2 * s ≠ 0 := by omega
  have ot : 29 + 2 * t ≠ 0 := by omega
  have m38 : ∀ τ : zHp, (∀ a b : Int, ¬ (a = 0 ∧ b = 8) → τ a b = σ a b) → ∀ k, zput τ 37 0 0 38 k = σ 38 k := fun τ hτ k => by
    rw [zput_o (by decide), hτ _ _ (by omega)]
  have m39 : ∀ τ : zHp, (∀ a b : Int, ¬ (a = 0 ∧ b = 8) → τ a b = σ a b) → ∀ k, zput τ 37 0 0 39 k = σ 39 k := fun τ hτ k => by
    rw [zput_o (by decide), hτ _ _ (by omega)]
  rcases zSh hS hs with ⟨p1, p2, p3, p4, p5⟩ | ⟨p1, p2⟩
  case inr =>
    refine zqf k_X8_copy k_X9_copy hI ha (r := -11) (x := 1) ?_ (fun τ hτ => ?_)
    · simp [e_X8_copy, d_X8_copy, xC_e, xL_e, xU_e, xB_e, xD_e, xF_e, xG_e, xA_e, xE_e, xH_e, xI_e, xZ_e, xK_e, aN_e, aC_e, cR_e, cV_e, cA_e, cO_e, cN_e, bs_e, bn_e, zg_0, zg_S, sS_e, sX_e, sF_e, sG_e, sA_e, sE_e, sEo_e, sK_e, sQ_e, sI_e, sR_e, sV_e, sB_e, sC_e, sD_e, sN_e, sP_e, sY_e, st_0, st_S, zc_0, zc_S, r_eq, r_ne, r_lt, r_le, r_gt, r_ge, rb_ite, rb_0, rb_1, w_isSheet_t hs, w_isSheet_t ht, hs, ht, z8 _ _ _ os, p1, w_faulty, zput_put]
    · simp [e_X9_copy, d_X9_copy, xC_e, xL_e, xU_e, xB_e, xD_e, xF_e, xG_e, xA_e, xE_e, xH_e, xI_e, xZ_e, xK_e, aN_e, aC_e, cR_e, cV_e, cA_e, cO_e, cN_e, bs_e, bn_e, zg_0, zg_S, sS_e, sX_e, sF_e, sG_e, sA_e, sE_e, sEo_e, sK_e, sQ_e, sI_e, sR_e, sV_e, sB_e, sC_e, sD_e, sN_e, sP_e, sY_e, st_0, st_S, zc_0, zc_S, r_eq, r_ne, r_lt, r_le, r_gt, r_ge, rb_ite, rb_0, rb_1, v_isSheet_t hs, v_isSheet_t ht, hs, ht, m38 τ hτ, p2, v_fails, zput_put]
  rcases zSh hS ht with ⟨r1, r2, r3, r4, r5⟩ | ⟨r1, r2⟩
  case inr =>
    refine zqf k_X8_copy k_X9_copy hI ha (r := -11) (x := 1) ?_ (fun τ hτ => ?_)
    · simp [e_X8_copy, d_X8_copy, xC_e, xL_e, xU_e, xB_e, xD_e, xF_e, xG_e, xA_e, xE_e, xH_e, xI_e, xZ_e, xK_e, aN_e, aC_e, cR_e, cV_e, cA_e, cO_e, cN_e, bs_e, bn_e, zg_0, zg_S, sS_e, sX_e, sF_e, sG_e, sA_e, sE_e, sEo_e, sK_e, sQ_e, sI_e, sR_e, sV_e, sB_e, sC_e, sD_e, sN_e, sP_e, sY_e, st_0, st_S, zc_0, zc_S, r_eq, r_ne, r_lt, r_le, r_gt, r_ge, rb_ite, rb_0, rb_1, w_isSheet_t hs, w_isSheet_t ht, hs, ht, z8 _ _ _ os, z8 _ _ _ ot, p1, r1, w_faulty, zput_put]
    · simp [e_X9_copy, d_X9_copy, xC_e, xL_e, xU_e, xB_e, xD_e, xF_e, xG_e, xA_e, xE_e, xH_e, xI_e, xZ_e, xK_e, aN_e, aC_e, cR_e, cV_e, cA_e, cO_e, cN_e, bs_e, bn_e, zg_0, zg_S, sS_e, sX_e, sF_e, sG_e, sA_e, sE_e, sEo_e, sK_e, sQ_e, sI_e, sR_e, sV_e, sB_e, sC_e, sD_e, sN_e, sP_e, sY_e, st_0, st_S, zc_0, zc_S, r_eq, r_ne, r_lt, r_le, r_gt, r_ge, rb_ite, rb_0, rb_1, v_isSheet_t hs, v_isSheet_t ht, hs, ht, m38 τ hτ, p5, r2, v_fails, zput_put]
  by_cases so : σ (29 + 2 * s) 2 = σ (29 + 2 * t) 2
  case neg =>
    have so2 : ¬ σ 38 s = σ 38 t := by rw [p2, r2]; exact so
    refine zqf k_X8_copy k_X9_copy hI ha (r := -12) (x := 2) ?_ (fun τ hτ => ?_)
    · simp [e_X8_copy, d_X8_copy, xC_e, xL_e, xU_e, xB_e, xD_e, xF_e, xG_e, xA_e, xE_e, xH_e, xI_e, xZ_e, xK_e, aN_e, aC_e, cR_e, cV_e, cA_e, cO_e, cN_e, bs_e, bn_e, zg_0, zg_S, sS_e, sX_e, sF_e, sG_e, sA_e, sE_e, sEo_e, sK_e, sQ_e, sI_e, sR_e, sV_e, sB_e, sC_e, sD_e, sN_e, sP_e, sY_e, st_0, st_S, zc_0, zc_S, r_eq, r_ne, r_lt, r_le, r_gt, r_ge, rb_ite, rb_0, rb_1, w_isSheet_t hs, w_isSheet_t ht, hs, ht, z8 _ _ _ os, z8 _ _ _ ot, p1, r1, so, w_faulty, zput_put]
    · simp [e_X9_copy, d_X9_copy, xC_e, xL_e, xU_e, xB_e, xD_e, xF_e, xG_e, xA_e, xE_e, xH_e, xI_e, xZ_e, xK_e, aN_e, aC_e, cR_e, cV_e, cA_e, cO_e, cN_e, bs_e, bn_e, zg_0, zg_S, sS_e, sX_e, sF_e, sG_e, sA_e, sE_e, sEo_e, sK_e, sQ_e, sI_e, sR_e, sV_e, sB_e, sC_e, sD_e, sN_e, sP_e, sY_e, st_0, st_S, zc_0, zc_S, r_eq, r_ne, r_lt, r_le, r_gt, r_ge, rb_ite, rb_0, rb_1, v_isSheet_t hs, v_isSheet_t ht, hs, ht, m38 τ hτ, p5, r5, so2, v_fails, zput_put]
  have so2 : σ 38 s = σ 38 t := by rw [p2, r2]; exact so
  obtain ⟨-, ps2, ps3, ps4, ps5⟩ := hS s hs.1 hs.2
  obtain ⟨-, pt2, pt3, pt4, pt5⟩ := hS t ht.1 ht.2
  have bs : ∀ v, 0 ≤ zput σ 0 8 v (29 + 2 * s) 3 ∧ zput σ 0 8 v (29 + 2 * s) 3 ≤ 60 := fun v => by rw [z8 _ _ _ os]; omega
  have bt : ∀ v, 0 ≤ zput σ 0 8 v (29 + 2 * t) 3 ∧ zput σ 0 8 v (29 + 2 * t) 3 ≤ 60 := fun v => by rw [z8 _ _ _ ot]; omega
  by_cases g : (0 ≤ i ∧ 0 ≤ n ∧ i ≤ σ (29 + 2 * s) 3 ∧ n ≤ σ (29 + 2 * s) 3 - i) ∧ (0 ≤ j ∧ 0 ≤ n ∧ j ≤ σ (29 + 2 * t) 3 ∧ n ≤ σ (29 + 2 * t) 3 - j)
  case neg =>
    refine zqf k_X8_copy k_X9_copy hI ha (r := -13) (x := 3) ?_ (fun τ hτ => ?_)
    · by_cases g1 : 0 ≤ i ∧ 0 ≤ n ∧ i ≤ σ (29 + 2 * s) 3 ∧ n ≤ σ (29 + 2 * s) 3 - i
      · have g2 : ¬ (0 ≤ j ∧ 0 ≤ n ∧ j ≤ σ (29 + 2 * t) 3 ∧ n ≤ σ (29 + 2 * t) 3 - j) := fun q => g ⟨g1, q⟩
        have f1 : m_X6_hasNumbers [29 + 2 * s, i, n] (zput σ 0 8 0) = some (1, zput σ 0 8 0) := w_hasNumbers_t (bs 0) (by rw [z8 _ _ _ os]; exact g1)
        have f2 : m_X6_hasNumbers [29 + 2 * t, j, n] (zput σ 0 8 0) = some (0, zput σ 0 8 0) := w_hasNumbers_f (bt 0) (by rw [z8 _ _ _ ot]; exact g2)
        simp [e_X8_copy, d_X8_copy, xC_e, xL_e, xU_e, xB_e, xD_e, xF_e, xG_e, xA_e, xE_e, xH_e, xI_e, xZ_e, xK_e, aN_e, aC_e, cR_e, cV_e, cA_e, cO_e, cN_e, bs_e, bn_e, zg_0, zg_S, sS_e, sX_e, sF_e, sG_e, sA_e, sE_e, sEo_e, sK_e, sQ_e, sI_e, sR_e, sV_e, sB_e, sC_e, sD_e, sN_e, sP_e, sY_e, st_0, st_S, zc_0, zc_S, r_eq, r_ne, r_lt, r_le, r_gt, r_ge, rb_ite, rb_0, rb_1, w_isSheet_t hs, w_isSheet_t ht, hs, ht, z8 _ _ _ os, z8 _ _ _ ot, p1, r1, so, f1, f2, w_faulty, zput_put]
      · have f1 : m_X6_hasNumbers [29 + 2 * s, i, n] (zput σ 0 8 0) = some (0, zput σ 0 8 0) := w_hasNumbers_f (bs 0) (by rw [z8 _ _ _ os]; exact g1)
        simp [e_X8_copy, d_X8_copy, xC_e, xL_e, xU_e, xB_e, xD_e, xF_e, xG_e, xA_e, xE_e, xH_e, xI_e, xZ_e, xK_e, aN_e, aC_e, cR_e, cV_e, cA_e, cO_e, cN_e, bs_e, bn_e, zg_0, zg_S, sS_e, sX_e, sF_e, sG_e, sA_e, sE_e, sEo_e, sK_e, sQ_e, sI_e, sR_e, sV_e, sB_e, sC_e, sD_e, sN_e, sP_e, sY_e, st_0, st_S, zc_0, zc_S, r_eq, r_ne, r_lt, r_le, r_gt, r_ge, rb_ite, rb_0, rb_1, w_isSheet_t hs, w_isSheet_t ht, hs, ht, z8 _ _ _ os, z8 _ _ _ ot, p1, r1, so, f1, w_faulty, zput_put]
    · have e38 := m38 τ hτ
      have e39 := m39 τ hτ
      by_cases g1 : 0 ≤ i
      · by_cases g2 : 0 ≤ j
        · by_cases g3 : 0 ≤ n
          · by_cases g4 : i ≤ σ 39 s
            · by_cases g5 : j ≤ σ 39 t
              · have y1 : o_isub (σ 39 s) i = σ 39 s - i := w32_id ⟨by omega, by omega⟩
                have y2 : o_isub (σ 39 t) j = σ 39 t - j := w32_id ⟨by omega, by omega⟩
                by_cases g6 : n > σ 39 s - i
                · simp [e_X9_copy, d_X9_copy, xC_e, xL_e, xU_e, xB_e, xD_e, xF_e, xG_e, xA_e, xE_e, xH_e, xI_e, xZ_e, xK_e, aN_e, aC_e, cR_e, cV_e, cA_e, cO_e, cN_e, bs_e, bn_e, zg_0, zg_S, sS_e, sX_e, sF_e, sG_e, sA_e, sE_e, sEo_e, sK_e, sQ_e, sI_e, sR_e, sV_e, sB_e, sC_e, sD_e, sN_e, sP_e, sY_e, st_0, st_S, zc_0, zc_S, r_eq, r_ne, r_lt, r_le, r_gt, r_ge, rb_ite, rb_0, rb_1, v_isSheet_t hs, v_isSheet_t ht, hs, ht, e38, e39, r5, so2, g1, g2, g3, g4, g5, y1, y2, g6, v_fails, zput_put]
                · have g7 : n > σ 39 t - j := by omega
                  simp [e_X9_copy, d_X9_copy, xC_e, xL_e, xU_e, xB_e, xD_e, xF_e, xG_e, xA_e, xE_e, xH_e, xI_e, xZ_e, xK_e, aN_e, aC_e, cR_e, cV_e, cA_e, cO_e, cN_e, bs_e, bn_e, zg_0, zg_S, sS_e, sX_e, sF_e, sG_e, sA_e, sE_e, sEo_e, sK_e, sQ_e, sI_e, sR_e, sV_e, sB_e, sC_e, sD_e, sN_e, sP_e, sY_e, st_0, st_S, zc_0, zc_S, r_eq, r_ne, r_lt, r_le, r_gt, r_ge, rb_ite, rb_0, rb_1, v_isSheet_t hs, v_isSheet_t ht, hs, ht, e38, e39, r5, so2, g1, g2, g3, g4, g5, y1, y2, g6, g7, v_fails, zput_put]
              · simp [e_X9_copy, d_X9_copy, xC_e, xL_e, xU_e, xB_e, xD_e, xF_e, xG_e, xA_e, xE_e, xH_e, xI_e, xZ_e, xK_e, aN_e, aC_e, cR_e, cV_e, cA_e, cO_e, cN_e, bs_e, bn_e, zg_0, zg_S, sS_e, sX_e, sF_e, sG_e, sA_e, sE_e, sEo_e, sK_e, sQ_e, sI_e, sR_e, sV_e, sB_e, sC_e, sD_e, sN_e, sP_e, sY_e, st_0, st_S, zc_0, zc_S, r_eq, r_ne, r_lt, r_le, r_gt, r_ge, rb_ite, rb_0, rb_1, v_isSheet_t hs, v_isSheet_t ht, hs, ht, e38, e39, r5, so2, g1, g2, g3, g4, g5, v_fails, zput_put]
            · simp [e_X9_copy, d_X9_copy, xC_e, xL_e, xU_e, xB_e, xD_e, xF_e, xG_e, xA_e, xE_e, xH_e, xI_e, xZ_e, xK_e, aN_e, aC_e, cR_e, cV_e, cA_e, cO_e, cN_e, bs_e, bn_e, zg_0, zg_S, sS_e, sX_e, sF_e, sG_e, sA_e, sE_e, sEo_e, sK_e, sQ_e, sI_e, sR_e, sV_e, sB_e, sC_e, sD_e, sN_e, sP_e, sY_e, st_0, st_S, zc_0, zc_S, r_eq, r_ne, r_lt, r_le, r_gt, r_ge, rb_ite, rb_0, rb_1, v_isSheet_t hs, v_isSheet_t ht, hs, ht, e38, e39, r5, so2, g1, g2, g3, g4, v_fails, zput_put]
          · simp [e_X9_copy, d_X9_copy, xC_e, xL_e, xU_e, xB_e, xD_e, xF_e, xG_e, xA_e, xE_e, xH_e, xI_e, xZ_e, xK_e, aN_e, aC_e, cR_e, cV_e, cA_e, cO_e, cN_e, bs_e, bn_e, zg_0, zg_S, sS_e, sX_e, sF_e, sG_e, sA_e, sE_e, sEo_e, sK_e, sQ_e, sI_e, sR_e, sV_e, sB_e, sC_e, sD_e, sN_e, sP_e, sY_e, st_0, st_S, zc_0, zc_S, r_eq, r_ne, r_lt, r_le, r_gt, r_ge, rb_ite, rb_0, rb_1, v_isSheet_t hs, v_isSheet_t ht, hs, ht, e38, e39, r5, so2, g1, g2, g3, v_fails, zput_put]
        · simp [e_X9_copy, d_X9_copy, xC_e, xL_e, xU_e, xB_e, xD_e, xF_e, xG_e, xA_e, xE_e, xH_e, xI_e, xZ_e, xK_e, aN_e, aC_e, cR_e, cV_e, cA_e, cO_e, cN_e, bs_e, bn_e, zg_0, zg_S, sS_e, sX_e, sF_e, sG_e, sA_e, sE_e, sEo_e, sK_e, sQ_e, sI_e, sR_e, sV_e, sB_e, sC_e, sD_e, sN_e, sP_e, sY_e, st_0, st_S, zc_0, zc_S, r_eq, r_ne, r_lt, r_le, r_gt, r_ge, rb_ite, rb_0, rb_1, v_isSheet_t hs, v_isSheet_t ht, hs, ht, e38, e39, r5, so2, g1, g2, v_fails, zput_put]
      · simp [e_X9_copy, d_X9_copy, xC_e, xL_e, xU_e, xB_e, xD_e, xF_e, xG_e, xA_e, xE_e, xH_e, xI_e, xZ_e, xK_e, aN_e, aC_e, cR_e, cV_e, cA_e, cO_e, cN_e, bs_e, bn_e, zg_0, zg_S, sS_e, sX_e, sF_e, sG_e, sA_e, sE_e, sEo_e, sK_e, sQ_e, sI_e, sR_e, sV_e, sB_e, sC_e, sD_e, sN_e, sP_e, sY_e, st_0, st_S, zc_0, zc_S, r_eq, r_ne, r_lt, r_le, r_gt, r_ge, rb_ite, rb_0, rb_1, v_isSheet_t hs, v_isSheet_t ht, hs, ht, e38, e39, r5, so2, g1, v_fails, zput_put]
  obtain ⟨g1, g2⟩ := g
  have h1 : m_X8_copy [0, s, i, t, j, n] σ = some (n, zcopy (zput σ 0 8 0) (29 + 2 * s + 1) i (29 + 2 * t + 1) j n) := by
    have f1 : m_X6_hasNumbers [29 + 2 * s, i, n] (zput σ 0 8 0) = some (1, zput σ 0 8 0) := w_hasNumbers_t (bs 0) (by rw [z8 _ _ _ os]; exact g1)
    have f2 : m_X6_hasNumbers [29 + 2 * t, j, n] (zput σ 0 8 0) = some (1, zput σ 0 8 0) := w_hasNumbers_t (bt 0) (by rw [z8 _ _ _ ot]; exact g2)
    have y : 0 ≤ i ∧ 0 ≤ j ∧ 0 ≤ n ∧ i + n ≤ 60 ∧ j + n ≤ 60 := by omega
    simp [e_X8_copy, d_X8_copy, xC_e, xL_e, xU_e, xB_e, xD_e, xF_e, xG_e, xA_e, xE_e, xH_e, xI_e, xZ_e, xK_e, aN_e, aC_e, cR_e, cV_e, cA_e, cO_e, cN_e, bs_e, bn_e, zg_0, zg_S, sS_e, sX_e, sF_e, sG_e, sA_e, sE_e, sEo_e, sK_e, sQ_e, sI_e, sR_e, sV_e, sB_e, sC_e, sD_e, sN_e, sP_e, sY_e, st_0, st_S, zc_0, zc_S, r_eq, r_ne, r_lt, r_le, r_gt, r_ge, rb_ite, rb_0, rb_1, w_isSheet_t hs, w_isSheet_t ht, hs, ht, z8 _ _ _ os, z8 _ _ _ ot, p1, r1, so, f1, f2, y]
  generalize hτ : zcopy (zput σ 0 8 0) (29 + 2 * s + 1) i (29 + 2 * t + 1) j n = τ at h1
  have ty : ∀ a b, (a = 29 + 2 * t + 1 ∧ j ≤ b ∧ b < j + n) → τ a b = σ (29 + 2 * s + 1) (i + (b - j)) := by
    intro a b q
    rw [← hτ]
    unfold zcopy
    rw [if_pos q, z8 _ _ _ (by omega)]
  have tn : ∀ a b, ¬ (a = 29 + 2 * t + 1 ∧ j ≤ b ∧ b < j + n) → τ a b = zput σ 0 8 0 a b := by
    intro a b q
    rw [← hτ]
    unfold zcopy
    rw [if_neg q]
  have h2 : m_X9_copy [37, s, i, t, j, n] τ = some (n, zcp (zput τ 37 0 0) (60 * s + i) (60 * t + j) 0 n) := by
    have e38 : ∀ k, zput τ 37 0 0 38 k = σ 38 k := fun k => by rw [zput_o (by decide), tn _ _ (by omega), zput_o (by decide)]
    have e39 : ∀ k, zput τ 37 0 0 39 k = σ 39 k := fun k => by rw [zput_o (by decide), tn _ _ (by omega), zput_o (by decide)]
    have y1 : o_isub (σ 39 s) i = σ 39 s - i := w32_id ⟨by omega, by omega⟩
    have y2 : o_isub (σ 39 t) j = σ 39 t - j := w32_id ⟨by omega, by omega⟩
    have x1 : i ≤ σ 39 s := by omega
    have x2 : j ≤ σ 39 t := by omega
    have x3 : ¬ n > σ 39 s - i := by omega
    have x4 : ¬ n > σ 39 t - j := by omega
    by_cases hij : i < j
    · have q := v_copyDn s i t j n hs ht g1.1 g2.1 g1.2.1 (by omega) (by omega) hij (zput τ 37 0 0)
      simp [e_X9_copy, d_X9_copy, xC_e, xL_e, xU_e, xB_e, xD_e, xF_e, xG_e, xA_e, xE_e, xH_e, xI_e, xZ_e, xK_e, aN_e, aC_e, cR_e, cV_e, cA_e, cO_e, cN_e, bs_e, bn_e, zg_0, zg_S, sS_e, sX_e, sF_e, sG_e, sA_e, sE_e, sEo_e, sK_e, sQ_e, sI_e, sR_e, sV_e, sB_e, sC_e, sD_e, sN_e, sP_e, sY_e, st_0, st_S, zc_0, zc_S, r_eq, r_ne, r_lt, r_le, r_gt, r_ge, rb_ite, rb_0, rb_1, v_isSheet_t hs, v_isSheet_t ht, hs, ht, e38, e39, r5, so2, g1.1, g1.2.1, g2.1, x1, x2, x3, x4, y1, y2, hij, q]
    · have q := v_copyUp s i t j n hs ht g1.1 g2.1 g1.2.1 (by omega) (by omega) hij (zput τ 37 0 0)
      simp [e_X9_copy, d_X9_copy, xC_e, xL_e, xU_e, xB_e, xD_e, xF_e, xG_e, xA_e, xE_e, xH_e, xI_e, xZ_e, xK_e, aN_e, aC_e, cR_e, cV_e, cA_e, cO_e, cN_e, bs_e, bn_e, zg_0, zg_S, sS_e, sX_e, sF_e, sG_e, sA_e, sE_e, sEo_e, sK_e, sQ_e, sI_e, sR_e, sV_e, sB_e, sC_e, sD_e, sN_e, sP_e, sY_e, st_0, st_S, zc_0, zc_S, r_eq, r_ne, r_lt, r_le, r_gt, r_ge, rb_ite, rb_0, rb_1, v_isSheet_t hs, v_isSheet_t ht, hs, ht, e38, e39, r5, so2, g1.1, g1.2.1, g2.1, x1, x2, x3, x4, y1, y2, hij, q]
  have o1 := zOk_of k_X8_copy hI.1 h1 ⟨zthis, ha⟩
  have o2 := zOk_of k_X9_copy o1 h2 ⟨zthat, ha⟩
  have ef : ∀ a b, ¬ (a = 40 ∧ 60 * t + j + 0 ≤ b ∧ b < 60 * t + j + 0 + n) → ¬ (a = 37 ∧ b = 0) → ¬ (a = 29 + 2 * t + 1 ∧ j ≤ b ∧ b < j + n) → ¬ (a = 0 ∧ b = 8) → zcp (zput τ 37 0 0) (60 * s + i) (60 * t + j) 0 n a b = σ a b := fun a b q1 q2 q3 q4 => by
    rw [zcp_n q1, zput_n q2, tn _ _ q3, zput_n q4]
  refine ⟨_, _, _, h1, h2, zInv_S o2 hI (fun a b v1 v2 v3 v4 => ef a b (by omega) (by omega) (by omega) (by omega)) ?_ ?_⟩
  · rw [zcp_n (by omega), zput_self, zcp_n (by omega), zput_n (by omega), tn _ _ (by omega), zput_self]
  · intro k k0 k1
    obtain ⟨s1, s2, s3, s4, s5⟩ := hS k k0 k1
    refine ⟨?_, ?_, ?_, ?_, fun b b0 b1 => ?_⟩
    · rw [ef (29 + 2 * k) 1 (by omega) (by omega) (by omega) (by omega), ef (29 + 2 * k) 2 (by omega) (by omega) (by omega) (by omega), ef 38 k (by omega) (by omega) (by omega) (by omega)]; exact s1
    · rw [ef (29 + 2 * k) 3 (by omega) (by omega) (by omega) (by omega), ef 39 k (by omega) (by omega) (by omega) (by omega)]; exact s2
    · rw [ef 39 k (by omega) (by omega) (by omega) (by omega)]; exact s3
    · rw [ef 39 k (by omega) (by omega) (by omega) (by omega)]; exact s4
    · by_cases hk : k = t ∧ j ≤ b ∧ b < j + n
      · rw [zcp_y (by omega), zput_o (by decide), tn 40 _ (by omega), zput_o (by decide), zcp_n (by omega), zput_n (by omega), ty _ _ (by omega), ← ps5 (i + (b - j)) (by omega) (by omega)]
        rw [show 60 * s + i + (60 * k + b - (60 * t + j)) = 60 * s + (i + (b - j)) by omega]
      · rw [ef 40 _ (by omega) (by omega) (by omega) (by omega), ef (29 + 2 * k + 1) b (by omega) (by omega) (by omega) (by omega)]
        exact s5 b b0 b1
