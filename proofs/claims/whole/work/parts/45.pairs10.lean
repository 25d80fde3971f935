theorem zinc {k : Nat} (h : k < 1000000) : o_iadd (k : Int) 1 = ((k + 1 : Nat) : Int) := by
  have : o_iadd (k : Int) 1 = (k : Int) + 1 := w32_id ⟨by omega, by omega⟩
  omega
theorem zinc0 {k : Nat} (h : k < 1000000) : o_iadd (k : Int) 0 = (k : Int) := by
  have : o_iadd (k : Int) 0 = (k : Int) + 0 := w32_id ⟨by omega, by omega⟩
  omega
theorem w_howManyIn (c : Int) (σ : zHp) (h0 : 0 ≤ σ 6 0) (h6 : σ 6 0 ≤ 6) : m_X1_howManyIn [6, c] σ = some (((zcn (fun b => decide (σ 8 b = c)) (σ 6 0).toNat : Nat) : Int), σ) := by
  have hl := zl_seq (c := lc_X1_howManyIn_1) (f := lf_X1_howManyIn_1) (s := ls_X1_howManyIn_1) (fun k => [6, c, (zcn (fun b => decide (σ 8 b = c)) k : Nat), (k : Int)]) (fun _ => σ) (σ 6 0).toNat
    (fun k hk => by
      have : (k : Int) < σ 6 0 := by omega
      simp [lc_X1_howManyIn_1, xC_e, xL_e, xU_e, xB_e, xD_e, xF_e, xG_e, xA_e, xE_e, xH_e, xI_e, xZ_e, xK_e, aN_e, aC_e, cR_e, cV_e, cA_e, cO_e, cN_e, bs_e, bn_e, zg_0, zg_S, sS_e, sX_e, sF_e, sG_e, sA_e, sE_e, sEo_e, sK_e, sQ_e, sI_e, sR_e, sV_e, sB_e, sC_e, sD_e, sN_e, sP_e, sY_e, st_0, st_S, zc_0, zc_S, r_lt, this])
    (fun k hk => by
      refine ⟨0, [6, c, (zcn (fun b => decide (σ 8 b = c)) (k + 1) : Nat), (k : Int)], σ, ?_, Or.inl rfl, ?_⟩
      · have k30 : 0 ≤ (k : Int) ∧ (k : Int) < 6 := by omega
        have le := zcn_le (fun b => decide (σ 8 b = c)) k
        have e1 := zinc (k := zcn (fun b => decide (σ 8 b = c)) k) (by omega)
        by_cases p : σ 8 k = c
        · simp [lf_X1_howManyIn_1, xC_e, xL_e, xU_e, xB_e, xD_e, xF_e, xG_e, xA_e, xE_e, xH_e, xI_e, xZ_e, xK_e, aN_e, aC_e, cR_e, cV_e, cA_e, cO_e, cN_e, bs_e, bn_e, zg_0, zg_S, sS_e, sX_e, sF_e, sG_e, sA_e, sE_e, sEo_e, sK_e, sQ_e, sI_e, sR_e, sV_e, sB_e, sC_e, sD_e, sN_e, sP_e, sY_e, st_0, st_S, zc_0, zc_S, r_eq, r_ne, r_lt, r_le, r_gt, r_ge, rb_ite, rb_0, rb_1, k30, p, e1, zcn]
        · simp [lf_X1_howManyIn_1, xC_e, xL_e, xU_e, xB_e, xD_e, xF_e, xG_e, xA_e, xE_e, xH_e, xI_e, xZ_e, xK_e, aN_e, aC_e, cR_e, cV_e, cA_e, cO_e, cN_e, bs_e, bn_e, zg_0, zg_S, sS_e, sX_e, sF_e, sG_e, sA_e, sE_e, sEo_e, sK_e, sQ_e, sI_e, sR_e, sV_e, sB_e, sC_e, sD_e, sN_e, sP_e, sY_e, st_0, st_S, zc_0, zc_S, r_eq, r_ne, r_lt, r_le, r_gt, r_ge, rb_ite, rb_0, rb_1, k30, p, zcn]
      · simp [ls_X1_howManyIn_1, xC_e, xL_e, xU_e, xB_e, xD_e, xF_e, xG_e, xA_e, xE_e, xH_e, xI_e, xZ_e, xK_e, aN_e, aC_e, cR_e, cV_e, cA_e, cO_e, cN_e, bs_e, bn_e, zg_0, zg_S, sS_e, sX_e, sF_e, sG_e, sA_e, sE_e, sEo_e, sK_e, sQ_e, sI_e, sR_e, sV_e, sB_e, sC_e, sD_e, sN_e, sP_e, sY_e, st_0, st_S, zc_0, zc_S, zinc (k := k) (by omega)])
    (by
      have : ¬ (((σ 6 0).toNat : Int) < σ 6 0) := by omega
      simp only [lc_X1_howManyIn_1, xC_e, xL_e, xU_e, xB_e, xD_e, xF_e, xG_e, xA_e, xE_e, xH_e, xI_e, xZ_e, xK_e, aN_e, aC_e, cR_e, cV_e, cA_e, cO_e, cN_e, bs_e, bn_e, zg_0, zg_S, sS_e, sX_e, sF_e, sG_e, sA_e, sE_e, sEo_e, sK_e, sQ_e, sI_e, sR_e, sV_e, sB_e, sC_e, sD_e, sN_e, sP_e, sY_e, st_0, st_S, zc_0, zc_S, r_lt]
      rw [decide_eq_false this])
    (zf_lt (by omega))
  have hl2 : sW lc_X1_howManyIn_1 lf_X1_howManyIn_1 ls_X1_howManyIn_1 [6, c, 0, 0] σ = some (0, [6, c, (zcn (fun b => decide (σ 8 b = c)) (σ 6 0).toNat : Nat), ((σ 6 0).toNat : Int)], σ) := hl
  simp [e_X1_howManyIn, d_X1_howManyIn, xC_e, xL_e, xU_e, xB_e, xD_e, xF_e, xG_e, xA_e, xE_e, xH_e, xI_e, xZ_e, xK_e, aN_e, aC_e, cR_e, cV_e, cA_e, cO_e, cN_e, bs_e, bn_e, zg_0, zg_S, sS_e, sX_e, sF_e, sG_e, sA_e, sE_e, sEo_e, sK_e, sQ_e, sI_e, sR_e, sV_e, sB_e, sC_e, sD_e, sN_e, sP_e, sY_e, st_0, st_S, zc_0, zc_S, hl2]
theorem v_hanging (c : Int) (σ : zHp) (h0 : 0 ≤ σ 37 14) (h6 : σ 37 14 ≤ 6) : m_X9_hanging [37, c] σ = some (((zcn (fun b => decide (σ 45 b = c)) (σ 37 14).toNat : Nat) : Int), σ) := by
  have hl := zl_seq (c := lc_X9_hanging_1) (f := lf_X9_hanging_1) (s := ls_X9_hanging_1) (fun k => [37, c, (zcn (fun b => decide (σ 45 b = c)) k : Nat), (k : Int)]) (fun _ => σ) (σ 37 14).toNat
    (fun k hk => by
      have : (k : Int) < σ 37 14 := by omega
      simp [lc_X9_hanging_1, xC_e, xL_e, xU_e, xB_e, xD_e, xF_e, xG_e, xA_e, xE_e, xH_e, xI_e, xZ_e, xK_e, aN_e, aC_e, cR_e, cV_e, cA_e, cO_e, cN_e, bs_e, bn_e, zg_0, zg_S, sS_e, sX_e, sF_e, sG_e, sA_e, sE_e, sEo_e, sK_e, sQ_e, sI_e, sR_e, sV_e, sB_e, sC_e, sD_e, sN_e, sP_e, sY_e, st_0, st_S, zc_0, zc_S, r_lt, this])
    (fun k hk => by
      refine ⟨0, [37, c, (zcn (fun b => decide (σ 45 b = c)) (k + 1) : Nat), (k : Int)], σ, ?_, Or.inl rfl, ?_⟩
      · have k30 : 0 ≤ (k : Int) ∧ (k : Int) < 7 := by omega
        have le := zcn_le (fun b => decide (σ 45 b = c)) k
        have e1 := zinc (k := zcn (fun b => decide (σ 45 b = c)) k) (by omega)
        have e0 := zinc0 (k := zcn (fun b => decide (σ 45 b = c)) k) (by omega)
        by_cases p : σ 45 k = c
        · simp [lf_X9_hanging_1, xC_e, xL_e, xU_e, xB_e, xD_e, xF_e, xG_e, xA_e, xE_e, xH_e, xI_e, xZ_e, xK_e, aN_e, aC_e, cR_e, cV_e, cA_e, cO_e, cN_e, bs_e, bn_e, zg_0, zg_S, sS_e, sX_e, sF_e, sG_e, sA_e, sE_e, sEo_e, sK_e, sQ_e, sI_e, sR_e, sV_e, sB_e, sC_e, sD_e, sN_e, sP_e, sY_e, st_0, st_S, zc_0, zc_S, r_eq, r_ne, r_lt, r_le, r_gt, r_ge, rb_ite, rb_0, rb_1, k30, p, e1, zcn]
        · simp [lf_X9_hanging_1, xC_e, xL_e, xU_e, xB_e, xD_e, xF_e, xG_e, xA_e, xE_e, xH_e, xI_e, xZ_e, xK_e, aN_e, aC_e, cR_e, cV_e, cA_e, cO_e, cN_e, bs_e, bn_e, zg_0, zg_S, sS_e, sX_e, sF_e, sG_e, sA_e, sE_e, sEo_e, sK_e, sQ_e, sI_e, sR_e, sV_e, sB_e, sC_e, sD_e, sN_e, sP_e, sY_e, st_0, st_S, zc_0, zc_S, r_eq, r_ne, r_lt, r_le, r_gt, r_ge, rb_ite, rb_0, rb_1, k30, p, e0, zcn]
      · simp [ls_X9_hanging_1, xC_e, xL_e, xU_e, xB_e, xD_e, xF_e, xG_e, xA_e, xE_e, xH_e, xI_e, xZ_e, xK_e, aN_e, aC_e, cR_e, cV_e, cA_e, cO_e, cN_e, bs_e, bn_e, zg_0, zg_S, sS_e, sX_e, sF_e, sG_e, sA_e, sE_e, sEo_e, sK_e, sQ_e, sI_e, sR_e, sV_e, sB_e, sC_e, sD_e, sN_e, sP_e, sY_e, st_0, st_S, zc_0, zc_S, zinc (k := k) (by omega)])
    (by
      have : ¬ (((σ 37 14).toNat : Int) < σ 37 14) := by omega
      simp only [lc_X9_hanging_1, xC_e, xL_e, xU_e, xB_e, xD_e, xF_e, xG_e, xA_e, xE_e, xH_e, xI_e, xZ_e, xK_e, aN_e, aC_e, cR_e, cV_e, cA_e, cO_e, cN_e, bs_e, bn_e, zg_0, zg_S, sS_e, sX_e, sF_e, sG_e, sA_e, sE_e, sEo_e, sK_e, sQ_e, sI_e, sR_e, sV_e, sB_e, sC_e, sD_e, sN_e, sP_e, sY_e, st_0, st_S, zc_0, zc_S, r_lt]
      rw [decide_eq_false this])
    (zf_lt (by omega))
  have hl2 : sW lc_X9_hanging_1 lf_X9_hanging_1 ls_X9_hanging_1 [37, c, 0, 0] σ = some (0, [37, c, (zcn (fun b => decide (σ 45 b = c)) (σ 37 14).toNat : Nat), ((σ 37 14).toNat : Int)], σ) := hl
  simp [e_X9_hanging, d_X9_hanging, xC_e, xL_e, xU_e, xB_e, xD_e, xF_e, xG_e, xA_e, xE_e, xH_e, xI_e, xZ_e, xK_e, aN_e, aC_e, cR_e, cV_e, cA_e, cO_e, cN_e, bs_e, bn_e, zg_0, zg_S, sS_e, sX_e, sF_e, sG_e, sA_e, sE_e, sEo_e, sK_e, sQ_e, sI_e, sR_e, sV_e, sB_e, sC_e, sD_e, sN_e, sP_e, sY_e, st_0, st_S, zc_0, zc_S, hl2]
theorem w_isPlanted {c : Int} {σ : zHp} (hP : zIP σ) (hN : σ 1 2 ≤ 30) (h : 0 ≤ c ∧ c < σ 1 2) : m_X3_isPlanted [1, c] σ = some (if σ 42 c = 1 then 1 else 0, σ) := by
  have b := hP c.toNat (by omega)
  have e : ((c.toNat : Nat) : Int) = c := by omega
  rw [e] at b
  have hh := h.2
  simp only [e_X3_isPlanted, d_X3_isPlanted, xC_e, xL_e, xU_e, xB_e, xD_e, xF_e, xG_e, xA_e, xE_e, xH_e, xI_e, xZ_e, xK_e, aN_e, aC_e, cR_e, cV_e, cA_e, cO_e, cN_e, bs_e, bn_e, zg_0, zg_S, sS_e, sX_e, sF_e, sG_e, sA_e, sE_e, sEo_e, sK_e, sQ_e, sI_e, sR_e, sV_e, sB_e, sC_e, sD_e, sN_e, sP_e, sY_e, st_0, st_S, zc_0, zc_S, r_eq, r_ne, r_lt, r_le, r_gt, r_ge, rb_ite, rb_0, rb_1, zbit_i (c := c) (by omega), b]
  by_cases p : σ 42 c = 1
  · simp [hh, p, xC_e, xL_e, xU_e, xB_e, xD_e, xF_e, xG_e, xA_e, xE_e, xH_e, xI_e, xZ_e, xK_e, aN_e, aC_e, cR_e, cV_e, cA_e, cO_e, cN_e, bs_e, bn_e, zg_0, zg_S, sS_e, sX_e, sF_e, sG_e, sA_e, sE_e, sEo_e, sK_e, sQ_e, sI_e, sR_e, sV_e, sB_e, sC_e, sD_e, sN_e, sP_e, sY_e, st_0, st_S, zc_0, zc_S]
  · simp [hh, p, xC_e, xL_e, xU_e, xB_e, xD_e, xF_e, xG_e, xA_e, xE_e, xH_e, xI_e, xZ_e, xK_e, aN_e, aC_e, cR_e, cV_e, cA_e, cO_e, cN_e, bs_e, bn_e, zg_0, zg_S, sS_e, sX_e, sF_e, sG_e, sA_e, sE_e, sEo_e, sK_e, sQ_e, sI_e, sR_e, sV_e, sB_e, sC_e, sD_e, sN_e, sP_e, sY_e, st_0, st_S, zc_0, zc_S]
theorem zHang {σ : zHp} (hI : zInv σ) (c : Int) : zcn (fun b => decide (σ 45 b = c)) (σ 6 0).toNat = zcn (fun b => decide (σ 8 b = c)) (σ 6 0).toNat := by
  refine zcn_c _ (fun b hb => ?_)
  rw [((zI3 hI).2.2.2 b (by omega) (by omega)).2.1.1]
theorem zp1 : zp_1 zInv := by
  intro c w hc hw σ hI
  have hN := zN_eq hI.2.2.1
  have hB := zI3 hI
  by_cases h : 0 ≤ c ∧ c < σ 1 2
  case neg =>
    have h' : ¬ (0 ≤ c ∧ c < w32 (σ 37 5 * σ 37 6)) := by rw [hN.1]; exact h
    refine zq (ts := [0, 0]) k_X8_ofCell k_X9_ofCell hI ⟨hc, hw, trivial⟩ (r := -1) (σ1 := σ) (σ2 := σ) ?_ ?_ (zSame.rf σ) (zSame.rf σ)
    · simp [e_X8_ofCell, d_X8_ofCell, xC_e, xL_e, xU_e, xB_e, xD_e, xF_e, xG_e, xA_e, xE_e, xH_e, xI_e, xZ_e, xK_e, aN_e, aC_e, cR_e, cV_e, cA_e, cO_e, cN_e, bs_e, bn_e, zg_0, zg_S, sS_e, sX_e, sF_e, sG_e, sA_e, sE_e, sEo_e, sK_e, sQ_e, sI_e, sR_e, sV_e, sB_e, sC_e, sD_e, sN_e, sP_e, sY_e, st_0, st_S, zc_0, zc_S, r_eq, r_ne, r_lt, r_le, r_gt, r_ge, rb_ite, rb_0, rb_1, w_isCell_f h]
    · simp [e_X9_ofCell, d_X9_ofCell, xC_e, xL_e, xU_e, xB_e, xD_e, xF_e, xG_e, xA_e, xE_e, xH_e, xI_e, xZ_e, xK_e, aN_e, aC_e, cR_e, cV_e, cA_e, cO_e, cN_e, bs_e, bn_e, zg_0, zg_S, sS_e, sX_e, sF_e, sG_e, sA_e, sE_e, sEo_e, sK_e, sQ_e, sI_e, sR_e, sV_e, sB_e, sC_e, sD_e, sN_e, sP_e, sY_e, st_0, st_S, zc_0, zc_S, r_eq, r_ne, r_lt, r_le, r_gt, r_ge, rb_ite, rb_0, rb_1, v_isCell_f h']
  have h' : 0 ≤ c ∧ c < w32 (σ 37 5 * σ 37 6) := by rw [hN.1]; exact h
  have c30 : 0 ≤ c ∧ c < 30 := by omega
  have hH := hI.2.2.2.1 c h.1 h.2
  have hh := w_howManyIn c σ hB.2.1 hB.2.2.1
  have hv := v_hanging c σ (by rw [hB.1]; exact hB.2.1) (by rw [hB.1]; exact hB.2.2.1)
  rw [hB.1, zHang hI] at hv
  generalize zcn (fun b => decide (σ 8 b = c)) (σ 6 0).toNat = n at hh hv
  have hp := w_isPlanted hI.2.2.2.2.2.1 hN.2.2 h
  have hp2 := zPl hI.1 c h.1
  refine zq (ts := [0, 0]) k_X8_ofCell k_X9_ofCell hI ⟨hc, hw, trivial⟩ (r := if w = 0 then σ 2 c else if w = 1 then o_isub 10 (σ 2 c) else if w = 2 then σ 42 c else if w = 3 then n else -2) (σ1 := σ) (σ2 := σ) ?_ ?_ (zSame.rf σ) (zSame.rf σ)
  · rcases (show w = 0 ∨ w = 1 ∨ w = 2 ∨ w = 3 ∨ (w < 0 ∨ 4 ≤ w) by omega) with rfl | rfl | rfl | rfl | q
    · simp [e_X8_ofCell, d_X8_ofCell, xC_e, xL_e, xU_e, xB_e, xD_e, xF_e, xG_e, xA_e, xE_e, xH_e, xI_e, xZ_e, xK_e, aN_e, aC_e, cR_e, cV_e, cA_e, cO_e, cN_e, bs_e, bn_e, zg_0, zg_S, sS_e, sX_e, sF_e, sG_e, sA_e, sE_e, sEo_e, sK_e, sQ_e, sI_e, sR_e, sV_e, sB_e, sC_e, sD_e, sN_e, sP_e, sY_e, st_0, st_S, zc_0, zc_S, r_eq, r_ne, r_lt, r_le, r_gt, r_ge, rb_ite, rb_0, rb_1, w_isCell_t h, zpick, c30]
    · simp [e_X8_ofCell, d_X8_ofCell, xC_e, xL_e, xU_e, xB_e, xD_e, xF_e, xG_e, xA_e, xE_e, xH_e, xI_e, xZ_e, xK_e, aN_e, aC_e, cR_e, cV_e, cA_e, cO_e, cN_e, bs_e, bn_e, zg_0, zg_S, sS_e, sX_e, sF_e, sG_e, sA_e, sE_e, sEo_e, sK_e, sQ_e, sI_e, sR_e, sV_e, sB_e, sC_e, sD_e, sN_e, sP_e, sY_e, st_0, st_S, zc_0, zc_S, r_eq, r_ne, r_lt, r_le, r_gt, r_ge, rb_ite, rb_0, rb_1, w_isCell_t h, zpick, c30, e_X3_titheOf, d_X3_titheOf]
    · rcases hp2 with p | p <;> simp [e_X8_ofCell, d_X8_ofCell, xC_e, xL_e, xU_e, xB_e, xD_e, xF_e, xG_e, xA_e, xE_e, xH_e, xI_e, xZ_e, xK_e, aN_e, aC_e, cR_e, cV_e, cA_e, cO_e, cN_e, bs_e, bn_e, zg_0, zg_S, sS_e, sX_e, sF_e, sG_e, sA_e, sE_e, sEo_e, sK_e, sQ_e, sI_e, sR_e, sV_e, sB_e, sC_e, sD_e, sN_e, sP_e, sY_e, st_0, st_S, zc_0, zc_S, r_eq, r_ne, r_lt, r_le, r_gt, r_ge, rb_ite, rb_0, rb_1, w_isCell_t h, zpick, hp, p]
    · simp [e_X8_ofCell, d_X8_ofCell, xC_e, xL_e, xU_e, xB_e, xD_e, xF_e, xG_e, xA_e, xE_e, xH_e, xI_e, xZ_e, xK_e, aN_e, aC_e, cR_e, cV_e, cA_e, cO_e, cN_e, bs_e, bn_e, zg_0, zg_S, sS_e, sX_e, sF_e, sG_e, sA_e, sE_e, sEo_e, sK_e, sQ_e, sI_e, sR_e, sV_e, sB_e, sC_e, sD_e, sN_e, sP_e, sY_e, st_0, st_S, zc_0, zc_S, r_eq, r_ne, r_lt, r_le, r_gt, r_ge, rb_ite, rb_0, rb_1, w_isCell_t h, zpick, hh]
    · have n0 : ¬ w = 0 := by omega
      have n1 : ¬ w = 1 := by omega
      have n2 : ¬ w = 2 := by omega
      have n3 : ¬ w = 3 := by omega
      have m1 : ¬ w - 1 = 0 := by omega
      have m2 : ¬ w - 1 - 1 = 0 := by omega
      have m3 : ¬ w - 1 - 1 - 1 = 0 := by omega
      by_cases nn : w < 0 <;> simp [e_X8_ofCell, d_X8_ofCell, xC_e, xL_e, xU_e, xB_e, xD_e, xF_e, xG_e, xA_e, xE_e, xH_e, xI_e, xZ_e, xK_e, aN_e, aC_e, cR_e, cV_e, cA_e, cO_e, cN_e, bs_e, bn_e, zg_0, zg_S, sS_e, sX_e, sF_e, sG_e, sA_e, sE_e, sEo_e, sK_e, sQ_e, sI_e, sR_e, sV_e, sB_e, sC_e, sD_e, sN_e, sP_e, sY_e, st_0, st_S, zc_0, zc_S, r_eq, r_ne, r_lt, r_le, r_gt, r_ge, rb_ite, rb_0, rb_1, w_isCell_t h, zpick, n0, n1, n2, n3, m1, m2, m3, nn]
  · rcases (show w = 0 ∨ w = 1 ∨ w = 2 ∨ w = 3 ∨ (w < 0 ∨ 4 ≤ w) by omega) with rfl | rfl | rfl | rfl | q
    · simp [e_X9_ofCell, d_X9_ofCell, xC_e, xL_e, xU_e, xB_e, xD_e, xF_e, xG_e, xA_e, xE_e, xH_e, xI_e, xZ_e, xK_e, aN_e, aC_e, cR_e, cV_e, cA_e, cO_e, cN_e, bs_e, bn_e, zg_0, zg_S, sS_e, sX_e, sF_e, sG_e, sA_e, sE_e, sEo_e, sK_e, sQ_e, sI_e, sR_e, sV_e, sB_e, sC_e, sD_e, sN_e, sP_e, sY_e, st_0, st_S, zc_0, zc_S, r_eq, r_ne, r_lt, r_le, r_gt, r_ge, rb_ite, rb_0, rb_1, v_isCell_t h', zpick, c30, hH.2.2.1]
    · simp [e_X9_ofCell, d_X9_ofCell, xC_e, xL_e, xU_e, xB_e, xD_e, xF_e, xG_e, xA_e, xE_e, xH_e, xI_e, xZ_e, xK_e, aN_e, aC_e, cR_e, cV_e, cA_e, cO_e, cN_e, bs_e, bn_e, zg_0, zg_S, sS_e, sX_e, sF_e, sG_e, sA_e, sE_e, sEo_e, sK_e, sQ_e, sI_e, sR_e, sV_e, sB_e, sC_e, sD_e, sN_e, sP_e, sY_e, st_0, st_S, zc_0, zc_S, r_eq, r_ne, r_lt, r_le, r_gt, r_ge, rb_ite, rb_0, rb_1, v_isCell_t h', zpick, c30, e_X9_tithe, d_X9_tithe, hH.2.2.1]
    · rcases hp2 with p | p <;> simp [e_X9_ofCell, d_X9_ofCell, xC_e, xL_e, xU_e, xB_e, xD_e, xF_e, xG_e, xA_e, xE_e, xH_e, xI_e, xZ_e, xK_e, aN_e, aC_e, cR_e, cV_e, cA_e, cO_e, cN_e, bs_e, bn_e, zg_0, zg_S, sS_e, sX_e, sF_e, sG_e, sA_e, sE_e, sEo_e, sK_e, sQ_e, sI_e, sR_e, sV_e, sB_e, sC_e, sD_e, sN_e, sP_e, sY_e, st_0, st_S, zc_0, zc_S, r_eq, r_ne, r_lt, r_le, r_gt, r_ge, rb_ite, rb_0, rb_1, v_isCell_t h', zpick, c30, p]
    · simp [e_X9_ofCell, d_X9_ofCell, xC_e, xL_e, xU_e, xB_e, xD_e, xF_e, xG_e, xA_e, xE_e, xH_e, xI_e, xZ_e, xK_e, aN_e, aC_e, cR_e, cV_e, cA_e, cO_e, cN_e, bs_e, bn_e, zg_0, zg_S, sS_e, sX_e, sF_e, sG_e, sA_e, sE_e, sEo_e, sK_e, sQ_e, sI_e, sR_e, sV_e, sB_e, sC_e, sD_e, sN_e, sP_e, sY_e, st_0, st_S, zc_0, zc_S, r_eq, r_ne, r_lt, r_le, r_gt, r_ge, rb_ite, rb_0, rb_1, v_isCell_t h', zpick, hv]
    · have n0 : ¬ w = 0 := by omega
      have n1 : ¬ w = 1 := by omega
      have n2 : ¬ w = 2 := by omega
      have n3 : ¬ w = 3 := by omega
      have m1 : ¬ w - 1 = 0 := by omega
      have m2 : ¬ w - 1 - 1 = 0 := by omega
      have m3 : ¬ w - 1 - 1 - 1 = 0 := by omega
      by_cases nn : w < 0 <;> simp [e_X9_ofCell, d_X9_ofCell, xC_e, xL_e, xU_e, xB_e, xD_e, xF_e, xG_e, xA_e, xE_e, xH_e, xI_e, xZ_e, xK_e, aN_e, aC_e, cR_e, cV_e, cA_e, cO_e, cN_e, bs_e, bn_e, zg_0, zg_S, sS_e, sX_e, sF_e, sG_e, sA_e, sE_e, sEo_e, sK_e, sQ_e, sI_e, sR_e, sV_e, sB_e, sC_e, sD_e, sN_e, sP_e, sY_e, st_0, st_S, zc_0, zc_S, r_eq, r_ne, r_lt, r_le, r_gt, r_ge, rb_ite, rb_0, rb_1, v_isCell_t h', zpick, n0, n1, n2, n3, m1, m2, m3, nn]
