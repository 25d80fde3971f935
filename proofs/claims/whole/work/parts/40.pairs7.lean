/-- places i0 .. i0 + n - 1 of a row become v -/
def zfill (σ : zHp) (o i0 n v : Int) : zHp := fun a b => if a = o ∧ i0 ≤ b ∧ b < i0 + n then v else σ a b
theorem zfill_0 (σ : zHp) (o i0 v : Int) : zfill σ o i0 0 v = σ := by
  funext a b
  unfold zfill
  rw [if_neg (by omega)]
theorem zfill_S (σ : zHp) (o i0 n v : Int) (h : 0 ≤ n) : zput (zfill σ o i0 n v) o (i0 + n) v = zfill σ o i0 (n + 1) v := by
  funext a b
  show (if a = o ∧ b = i0 + n then v else if a = o ∧ i0 ≤ b ∧ b < i0 + n then v else σ a b) = if a = o ∧ i0 ≤ b ∧ b < i0 + (n + 1) then v else σ a b
  by_cases h1 : a = o ∧ b = i0 + n
  · rw [if_pos h1, if_pos (by omega)]
  · rw [if_neg h1]
    by_cases h2 : a = o ∧ i0 ≤ b ∧ b < i0 + n
    · rw [if_pos h2, if_pos (by omega)]
    · rw [if_neg h2, if_neg (by omega)]
theorem zfill_o {σ : zHp} {o i0 n v a : Int} (h : a ≠ o) (b : Int) : zfill σ o i0 n v a b = σ a b := by
  unfold zfill
  rw [if_neg (fun q => h q.1)]
theorem zfill_n {σ : zHp} {o i0 n v a b : Int} (h : ¬ (a = o ∧ i0 ≤ b ∧ b < i0 + n)) : zfill σ o i0 n v a b = σ a b := if_neg h
theorem zfill_y {σ : zHp} {o i0 n v a b : Int} (h : a = o ∧ i0 ≤ b ∧ b < i0 + n) : zfill σ o i0 n v a b = v := if_pos h
theorem zput_n {σ : zHp} {o i v a b : Int} (h : ¬ (a = o ∧ b = i)) : zput σ o i v a b = σ a b := if_neg h
theorem w_fill60 (o v : Int) (σ : zHp) : m_J7_fill_53178_b [o, v] σ = some (0, zfill σ o 0 60 v) := by
  have hl := zl_seq (c := lc_J7_fill_53178_b_1) (f := lf_J7_fill_53178_b_1) (s := ls_J7_fill_53178_b_1) (fun k => [o, v, (k : Int), 60]) (fun k => zfill σ o 0 (k : Int) v) 60
    (fun k hk => by
      have : (k : Int) < 60 := by omega
      simp [lc_J7_fill_53178_b_1, xC_e, xL_e, xU_e, xB_e, xD_e, xF_e, xG_e, xA_e, xE_e, xH_e, xI_e, xZ_e, xK_e, aN_e, aC_e, cR_e, cV_e, cA_e, cO_e, cN_e, bs_e, bn_e, zg_0, zg_S, sS_e, sX_e, sF_e, sG_e, sA_e, sE_e, sEo_e, sK_e, sQ_e, sI_e, sR_e, sV_e, sB_e, sC_e, sD_e, sN_e, sP_e, sY_e, st_0, st_S, zc_0, zc_S, r_lt, this])
    (fun k hk => by
      refine ⟨0, [o, v, (k : Int), 60], zput (zfill σ o 0 (k : Int) v) o k v, ?_, Or.inl rfl, ?_⟩
      · have : 0 ≤ (k : Int) ∧ (k : Int) < 60 := by omega
        simp [lf_J7_fill_53178_b_1, xC_e, xL_e, xU_e, xB_e, xD_e, xF_e, xG_e, xA_e, xE_e, xH_e, xI_e, xZ_e, xK_e, aN_e, aC_e, cR_e, cV_e, cA_e, cO_e, cN_e, bs_e, bn_e, zg_0, zg_S, sS_e, sX_e, sF_e, sG_e, sA_e, sE_e, sEo_e, sK_e, sQ_e, sI_e, sR_e, sV_e, sB_e, sC_e, sD_e, sN_e, sP_e, sY_e, st_0, st_S, zc_0, zc_S, this]
      · have e : o_iadd (k : Int) 1 = ((k + 1 : Nat) : Int) := by
          have : o_iadd (k : Int) 1 = (k : Int) + 1 := w32_id ⟨by omega, by omega⟩
          omega
        have q := zfill_S σ o 0 (k : Int) v (by omega)
        rw [show (0 : Int) + (k : Int) = k by omega] at q
        simp [ls_J7_fill_53178_b_1, xC_e, xL_e, xU_e, xB_e, xD_e, xF_e, xG_e, xA_e, xE_e, xH_e, xI_e, xZ_e, xK_e, aN_e, aC_e, cR_e, cV_e, cA_e, cO_e, cN_e, bs_e, bn_e, zg_0, zg_S, sS_e, sX_e, sF_e, sG_e, sA_e, sE_e, sEo_e, sK_e, sQ_e, sI_e, sR_e, sV_e, sB_e, sC_e, sD_e, sN_e, sP_e, sY_e, st_0, st_S, zc_0, zc_S, e, q])
    (by simp [lc_J7_fill_53178_b_1, xC_e, xL_e, xU_e, xB_e, xD_e, xF_e, xG_e, xA_e, xE_e, xH_e, xI_e, xZ_e, xK_e, aN_e, aC_e, cR_e, cV_e, cA_e, cO_e, cN_e, bs_e, bn_e, zg_0, zg_S, sS_e, sX_e, sF_e, sG_e, sA_e, sE_e, sEo_e, sK_e, sQ_e, sI_e, sR_e, sV_e, sB_e, sC_e, sD_e, sN_e, sP_e, sY_e, st_0, st_S, zc_0, zc_S, r_lt])
    (zf_lt (by decide))
  have hl2 : sW lc_J7_fill_53178_b_1 lf_J7_fill_53178_b_1 ls_J7_fill_53178_b_1 [o, v, 0, 60] σ = some (0, [o, v, 60, 60], zfill σ o 0 60 v) := by
    have := hl
    simp only [Int.natCast_zero, zfill_0] at this
    exact this
  simp [e_J7_fill_53178_b, d_J7_fill_53178_b, xC_e, xL_e, xU_e, xB_e, xD_e, xF_e, xG_e, xA_e, xE_e, xH_e, xI_e, xZ_e, xK_e, aN_e, aC_e, cR_e, cV_e, cA_e, cO_e, cN_e, bs_e, bn_e, zg_0, zg_S, sS_e, sX_e, sF_e, sG_e, sA_e, sE_e, sEo_e, sK_e, sQ_e, sI_e, sR_e, sV_e, sB_e, sC_e, sD_e, sN_e, sP_e, sY_e, st_0, st_S, zc_0, zc_S, hl2]
theorem v_clear60 (k a b : Int) (hk : 0 ≤ k ∧ k < 4) (σ : zHp) : sW lc_X9_sheet_1 lf_X9_sheet_1 ls_X9_sheet_1 [37, k, a, b, 0] σ = some (0, [37, k, a, b, 60], zfill σ 40 (60 * k) 60 0) := by
  have hl := zl_seq (c := lc_X9_sheet_1) (f := lf_X9_sheet_1) (s := ls_X9_sheet_1) (fun j => [37, k, a, b, (j : Int)]) (fun j => zfill σ 40 (60 * k) (j : Int) 0) 60
    (fun j hj => by
      have : (j : Int) < 60 := by omega
      simp [lc_X9_sheet_1, xC_e, xL_e, xU_e, xB_e, xD_e, xF_e, xG_e, xA_e, xE_e, xH_e, xI_e, xZ_e, xK_e, aN_e, aC_e, cR_e, cV_e, cA_e, cO_e, cN_e, bs_e, bn_e, zg_0, zg_S, sS_e, sX_e, sF_e, sG_e, sA_e, sE_e, sEo_e, sK_e, sQ_e, sI_e, sR_e, sV_e, sB_e, sC_e, sD_e, sN_e, sP_e, sY_e, st_0, st_S, zc_0, zc_S, r_lt, this])
    (fun j hj => by
      refine ⟨0, [37, k, a, b, (j : Int)], zput (zfill σ 40 (60 * k) (j : Int) 0) 40 (60 * k + j) 0, ?_, Or.inl rfl, ?_⟩
      · have a1 : o_imul 60 k = 60 * k := w32_id ⟨by omega, by omega⟩
        have a2 : o_iadd (60 * k) (j : Int) = 60 * k + j := w32_id ⟨by omega, by omega⟩
        have a3 : 0 ≤ 60 * k + (j : Int) ∧ 60 * k + (j : Int) < 240 := by omega
        simp [lf_X9_sheet_1, xC_e, xL_e, xU_e, xB_e, xD_e, xF_e, xG_e, xA_e, xE_e, xH_e, xI_e, xZ_e, xK_e, aN_e, aC_e, cR_e, cV_e, cA_e, cO_e, cN_e, bs_e, bn_e, zg_0, zg_S, sS_e, sX_e, sF_e, sG_e, sA_e, sE_e, sEo_e, sK_e, sQ_e, sI_e, sR_e, sV_e, sB_e, sC_e, sD_e, sN_e, sP_e, sY_e, st_0, st_S, zc_0, zc_S, a1, a2, a3]
      · have e : o_iadd (j : Int) 1 = ((j + 1 : Nat) : Int) := by
          have : o_iadd (j : Int) 1 = (j : Int) + 1 := w32_id ⟨by omega, by omega⟩
          omega
        have q := zfill_S σ 40 (60 * k) (j : Int) 0 (by omega)
        simp [ls_X9_sheet_1, xC_e, xL_e, xU_e, xB_e, xD_e, xF_e, xG_e, xA_e, xE_e, xH_e, xI_e, xZ_e, xK_e, aN_e, aC_e, cR_e, cV_e, cA_e, cO_e, cN_e, bs_e, bn_e, zg_0, zg_S, sS_e, sX_e, sF_e, sG_e, sA_e, sE_e, sEo_e, sK_e, sQ_e, sI_e, sR_e, sV_e, sB_e, sC_e, sD_e, sN_e, sP_e, sY_e, st_0, st_S, zc_0, zc_S, e, q])
    (by simp [lc_X9_sheet_1, xC_e, xL_e, xU_e, xB_e, xD_e, xF_e, xG_e, xA_e, xE_e, xH_e, xI_e, xZ_e, xK_e, aN_e, aC_e, cR_e, cV_e, cA_e, cO_e, cN_e, bs_e, bn_e, zg_0, zg_S, sS_e, sX_e, sF_e, sG_e, sA_e, sE_e, sEo_e, sK_e, sQ_e, sI_e, sR_e, sV_e, sB_e, sC_e, sD_e, sN_e, sP_e, sY_e, st_0, st_S, zc_0, zc_S, r_lt])
    (zf_lt (by decide))
  simp only [Int.natCast_zero, zfill_0] at hl
  exact hl
theorem zp24 : zp_24 zInv := by
  intro k s n hk hs hn σ hI
  have hS := zI10 hI
  have ha : zOkA [0, 0, 0] [k, s, n] := ⟨hk, hs, hn, trivial⟩
  by_cases h : 0 ≤ k ∧ k < 4
  case neg =>
    refine zqf k_X8_sheet k_X9_sheet hI ha (r := -1) (x := 0) ?_ (fun τ hτ => ?_)
    · simp [e_X8_sheet, d_X8_sheet, xC_e, xL_e, xU_e, xB_e, xD_e, xF_e, xG_e, xA_e, xE_e, xH_e, xI_e, xZ_e, xK_e, aN_e, aC_e, cR_e, cV_e, cA_e, cO_e, cN_e, bs_e, bn_e, zg_0, zg_S, sS_e, sX_e, sF_e, sG_e, sA_e, sE_e, sEo_e, sK_e, sQ_e, sI_e, sR_e, sV_e, sB_e, sC_e, sD_e, sN_e, sP_e, sY_e, st_0, st_S, zc_0, zc_S, r_eq, r_ne, r_lt, r_le, r_gt, r_ge, rb_ite, rb_0, rb_1, w_isSheet_f h]
    · simp [e_X9_sheet, d_X9_sheet, xC_e, xL_e, xU_e, xB_e, xD_e, xF_e, xG_e, xA_e, xE_e, xH_e, xI_e, xZ_e, xK_e, aN_e, aC_e, cR_e, cV_e, cA_e, cO_e, cN_e, bs_e, bn_e, zg_0, zg_S, sS_e, sX_e, sF_e, sG_e, sA_e, sE_e, sEo_e, sK_e, sQ_e, sI_e, sR_e, sV_e, sB_e, sC_e, sD_e, sN_e, sP_e, sY_e, st_0, st_S, zc_0, zc_S, r_eq, r_ne, r_lt, r_le, r_gt, r_ge, rb_ite, rb_0, rb_1, v_isSheet_f h]
  by_cases hs2 : 0 ≤ s ∧ s ≤ 2
  case neg =>
    refine zqf k_X8_sheet k_X9_sheet hI ha (r := -2) (x := 0) ?_ (fun τ hτ => ?_)
    · simp [e_X8_sheet, d_X8_sheet, xC_e, xL_e, xU_e, xB_e, xD_e, xF_e, xG_e, xA_e, xE_e, xH_e, xI_e, xZ_e, xK_e, aN_e, aC_e, cR_e, cV_e, cA_e, cO_e, cN_e, bs_e, bn_e, zg_0, zg_S, sS_e, sX_e, sF_e, sG_e, sA_e, sE_e, sEo_e, sK_e, sQ_e, sI_e, sR_e, sV_e, sB_e, sC_e, sD_e, sN_e, sP_e, sY_e, st_0, st_S, zc_0, zc_S, r_eq, r_ne, r_lt, r_le, r_gt, r_ge, rb_ite, rb_0, rb_1, w_isSheet_t h, w_isSort_f hs2]
    · simp [e_X9_sheet, d_X9_sheet, xC_e, xL_e, xU_e, xB_e, xD_e, xF_e, xG_e, xA_e, xE_e, xH_e, xI_e, xZ_e, xK_e, aN_e, aC_e, cR_e, cV_e, cA_e, cO_e, cN_e, bs_e, bn_e, zg_0, zg_S, sS_e, sX_e, sF_e, sG_e, sA_e, sE_e, sEo_e, sK_e, sQ_e, sI_e, sR_e, sV_e, sB_e, sC_e, sD_e, sN_e, sP_e, sY_e, st_0, st_S, zc_0, zc_S, r_eq, r_ne, r_lt, r_le, r_gt, r_ge, rb_ite, rb_0, rb_1, v_isSheet_t h, v_isSort_f hs2]
  by_cases n6 : n > 60
  case pos =>
    refine zqf k_X8_sheet k_X9_sheet hI ha (r := -2) (x := 0) ?_ (fun τ hτ => ?_)
    · simp [e_X8_sheet, d_X8_sheet, xC_e, xL_e, xU_e, xB_e, xD_e, xF_e, xG_e, xA_e, xE_e, xH_e, xI_e, xZ_e, xK_e, aN_e, aC_e, cR_e, cV_e, cA_e, cO_e, cN_e, bs_e, bn_e, zg_0, zg_S, sS_e, sX_e, sF_e, sG_e, sA_e, sE_e, sEo_e, sK_e, sQ_e, sI_e, sR_e, sV_e, sB_e, sC_e, sD_e, sN_e, sP_e, sY_e, st_0, st_S, zc_0, zc_S, r_eq, r_ne, r_lt, r_le, r_gt, r_ge, rb_ite, rb_0, rb_1, w_isSheet_t h, w_isSort_t hs2, n6]
    · simp [e_X9_sheet, d_X9_sheet, xC_e, xL_e, xU_e, xB_e, xD_e, xF_e, xG_e, xA_e, xE_e, xH_e, xI_e, xZ_e, xK_e, aN_e, aC_e, cR_e, cV_e, cA_e, cO_e, cN_e, bs_e, bn_e, zg_0, zg_S, sS_e, sX_e, sF_e, sG_e, sA_e, sE_e, sEo_e, sK_e, sQ_e, sI_e, sR_e, sV_e, sB_e, sC_e, sD_e, sN_e, sP_e, sY_e, st_0, st_S, zc_0, zc_S, r_eq, r_ne, r_lt, r_le, r_gt, r_ge, rb_ite, rb_0, rb_1, v_isSheet_t h, v_isSort_t hs2, n6]
  by_cases n0 : n < 0
  case pos =>
    refine zqf k_X8_sheet k_X9_sheet hI ha (r := -14) (x := 4) ?_ (fun τ hτ => ?_)
    · simp [e_X8_sheet, d_X8_sheet, xC_e, xL_e, xU_e, xB_e, xD_e, xF_e, xG_e, xA_e, xE_e, xH_e, xI_e, xZ_e, xK_e, aN_e, aC_e, cR_e, cV_e, cA_e, cO_e, cN_e, bs_e, bn_e, zg_0, zg_S, sS_e, sX_e, sF_e, sG_e, sA_e, sE_e, sEo_e, sK_e, sQ_e, sI_e, sR_e, sV_e, sB_e, sC_e, sD_e, sN_e, sP_e, sY_e, st_0, st_S, zc_0, zc_S, r_eq, r_ne, r_lt, r_le, r_gt, r_ge, rb_ite, rb_0, rb_1, w_isSheet_t h, w_isSort_t hs2, n6, n0, w_faulty, zput_put]
    · simp [e_X9_sheet, d_X9_sheet, xC_e, xL_e, xU_e, xB_e, xD_e, xF_e, xG_e, xA_e, xE_e, xH_e, xI_e, xZ_e, xK_e, aN_e, aC_e, cR_e, cV_e, cA_e, cO_e, cN_e, bs_e, bn_e, zg_0, zg_S, sS_e, sX_e, sF_e, sG_e, sA_e, sE_e, sEo_e, sK_e, sQ_e, sI_e, sR_e, sV_e, sB_e, sC_e, sD_e, sN_e, sP_e, sY_e, st_0, st_S, zc_0, zc_S, r_eq, r_ne, r_lt, r_le, r_gt, r_ge, rb_ite, rb_0, rb_1, v_isSheet_t h, v_isSort_t hs2, n6, n0, v_fails, zput_put]
  have h1 : m_X8_sheet [0, k, s, n] σ = some (1, zfill (zput (zput (zput (zput σ 0 8 0) (29 + 2 * k) 1 1) (29 + 2 * k) 2 s) (29 + 2 * k) 3 n) (29 + 2 * k + 1) 0 60 0) := by
    simp [e_X8_sheet, d_X8_sheet, xC_e, xL_e, xU_e, xB_e, xD_e, xF_e, xG_e, xA_e, xE_e, xH_e, xI_e, xZ_e, xK_e, aN_e, aC_e, cR_e, cV_e, cA_e, cO_e, cN_e, bs_e, bn_e, zg_0, zg_S, sS_e, sX_e, sF_e, sG_e, sA_e, sE_e, sEo_e, sK_e, sQ_e, sI_e, sR_e, sV_e, sB_e, sC_e, sD_e, sN_e, sP_e, sY_e, st_0, st_S, zc_0, zc_S, r_eq, r_ne, r_lt, r_le, r_gt, r_ge, rb_ite, rb_0, rb_1, w_isSheet_t h, w_isSort_t hs2, n6, n0, h, e_X6_renew, d_X6_renew, w_fill60]
  generalize hτ : zfill (zput (zput (zput (zput σ 0 8 0) (29 + 2 * k) 1 1) (29 + 2 * k) 2 s) (29 + 2 * k) 3 n) (29 + 2 * k + 1) 0 60 0 = τ at h1
  have h2 : m_X9_sheet [37, k, s, n] τ = some (1, zfill (zput (zput (zput τ 37 0 0) 38 k s) 39 k n) 40 (60 * k) 60 0) := by
    simp [e_X9_sheet, d_X9_sheet, xC_e, xL_e, xU_e, xB_e, xD_e, xF_e, xG_e, xA_e, xE_e, xH_e, xI_e, xZ_e, xK_e, aN_e, aC_e, cR_e, cV_e, cA_e, cO_e, cN_e, bs_e, bn_e, zg_0, zg_S, sS_e, sX_e, sF_e, sG_e, sA_e, sE_e, sEo_e, sK_e, sQ_e, sI_e, sR_e, sV_e, sB_e, sC_e, sD_e, sN_e, sP_e, sY_e, st_0, st_S, zc_0, zc_S, r_eq, r_ne, r_lt, r_le, r_gt, r_ge, rb_ite, rb_0, rb_1, v_isSheet_t h, v_isSort_t hs2, n6, n0, h, v_clear60]
  have o1 := zOk_of k_X8_sheet hI.1 h1 ⟨zthis, ha⟩
  have o2 := zOk_of k_X9_sheet o1 h2 ⟨zthat, ha⟩
  have e1 : ∀ a b, a ≠ 0 → a ≠ 29 + 2 * k → a ≠ 29 + 2 * k + 1 → τ a b = σ a b := fun a b q1 q2 q3 => by
    rw [← hτ, zfill_o q3, zput_o q2, zput_o q2, zput_o q2, zput_o q1]
  have e2 : ∀ a b, a ≠ 0 → a ≠ 37 → (a < 38 ∨ 40 < a) → a ≠ 29 + 2 * k → a ≠ 29 + 2 * k + 1 → zfill (zput (zput (zput τ 37 0 0) 38 k s) 39 k n) 40 (60 * k) 60 0 a b = σ a b := fun a b q1 q2 q3 q4 q5 => by
    rw [zfill_o (by omega), zput_o (by omega), zput_o (by omega), zput_o q2, e1 a b q1 q4 q5]
  have e3 : ∀ a b, a ≠ 37 → (a < 38 ∨ 40 < a) → zfill (zput (zput (zput τ 37 0 0) 38 k s) 39 k n) 40 (60 * k) 60 0 a b = τ a b := fun a b q2 q3 => by
    rw [zfill_o (by omega), zput_o (by omega), zput_o (by omega), zput_o q2]
  refine ⟨_, _, _, h1, h2, zInv_S o2 hI (fun a b g1 g2 g3 g4 => ?_) ?_ ?_⟩
  · have c1 : ¬ (a = 40 ∧ 60 * k ≤ b ∧ b < 60 * k + 60) := by omega
    have c2 : ¬ (a = 29 + 2 * k + 1 ∧ 0 ≤ b ∧ b < 0 + 60) := by omega
    rw [← hτ, zfill_n c1, zput_n (by omega), zput_n (by omega), zput_n (by omega), zfill_n c2, zput_n (by omega), zput_n (by omega), zput_n (by omega), zput_n (by omega)]
  · rw [e3 0 8 (by decide) (by decide), zfill_o (by decide), zput_o (by decide), zput_o (by decide), zput_self, ← hτ, zfill_o (by omega), zput_o (by omega), zput_o (by omega), zput_o (by omega), zput_self]
  · intro j j0 j1
    obtain ⟨s1, s2, s3, s4, s5⟩ := hS j j0 j1
    by_cases hj : j = k
    · subst hj
      have f1 : τ (29 + 2 * j) 1 = 1 := by
        rw [← hτ, zfill_o (by omega), zput_i (by decide), zput_i (by decide), zput_self]
      have f2 : τ (29 + 2 * j) 2 = s := by
        rw [← hτ, zfill_o (by omega), zput_i (by decide), zput_self]
      have f3 : τ (29 + 2 * j) 3 = n := by
        rw [← hτ, zfill_o (by omega), zput_self]
      have f4 : ∀ b, 0 ≤ b → b < 60 → τ (29 + 2 * j + 1) b = 0 := by
        intro b b0 b1
        rw [← hτ, zfill_y (by omega)]
      refine ⟨Or.inl ?_, ?_, ?_, ?_, fun b b0 b1 => ?_⟩
      · rw [e3 (29 + 2 * j) 1 (by omega) (by omega), e3 (29 + 2 * j) 2 (by omega) (by omega), f1, f2, zfill_o (by decide), zput_o (by decide), zput_self]
        exact ⟨rfl, rfl, hs2⟩
      · rw [e3 (29 + 2 * j) 3 (by omega) (by omega), f3, zfill_o (by decide), zput_self]
      · rw [zfill_o (by decide), zput_self]; omega
      · rw [zfill_o (by decide), zput_self]; omega
      · rw [e3 (29 + 2 * j + 1) b (by omega) (by omega), f4 b b0 b1, zfill_y (by omega)]
    · have r1 : ∀ b, zfill (zput (zput (zput τ 37 0 0) 38 k s) 39 k n) 40 (60 * k) 60 0 (29 + 2 * j) b = σ (29 + 2 * j) b := fun b => e2 _ _ (by omega) (by omega) (by omega) (by omega) (by omega)
      have r2 : ∀ b, zfill (zput (zput (zput τ 37 0 0) 38 k s) 39 k n) 40 (60 * k) 60 0 (29 + 2 * j + 1) b = σ (29 + 2 * j + 1) b := fun b => e2 _ _ (by omega) (by omega) (by omega) (by omega) (by omega)
      have r3 : zfill (zput (zput (zput τ 37 0 0) 38 k s) 39 k n) 40 (60 * k) 60 0 38 j = σ 38 j := by
        rw [zfill_o (by decide), zput_o (by decide), zput_i hj, zput_o (by decide), e1 _ _ (by decide) (by omega) (by omega)]
      have r4 : zfill (zput (zput (zput τ 37 0 0) 38 k s) 39 k n) 40 (60 * k) 60 0 39 j = σ 39 j := by
        rw [zfill_o (by decide), zput_i hj, zput_o (by decide), zput_o (by decide), e1 _ _ (by decide) (by omega) (by omega)]
      refine ⟨?_, ?_, ?_, ?_, fun b b0 b1 => ?_⟩
      · rw [r1, r1, r3]; exact s1
      · rw [r1, r4]; exact s2
      · rw [r4]; exact s3
      · rw [r4]; exact s4
      · rw [r2, ← s5 b b0 b1, zfill_n (by omega), zput_o (by decide), zput_o (by decide), zput_o (by decide), e1 _ _ (by decide) (by omega) (by omega)]
