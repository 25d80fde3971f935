theorem zcn_z {f : Nat → Bool} : ∀ n : Nat, (∀ i, i < n → f i = false) → zcn f n = 0
  | 0, _ => rfl
  | n + 1, h => by
    unfold zcn
    rw [zcn_z n (fun i hi => h i (by omega)), h n (by omega)]
    rfl
theorem zcn_cut {f : Nat → Bool} {m n : Nat} (hm : m ≤ n) (h : ∀ i, m ≤ i → i < n → f i = false) : zcn f n = zcn f m := by
  have e := zcn_add f m (n - m)
  rw [show m + (n - m) = n by omega] at e
  rw [e, zcn_z (n - m) (fun i hi => h (m + i) (by omega) (by omega))]
  rfl
theorem zPl {σ : zHp} (ho : zOk σ) (k : Int) (hk : 0 ≤ k) : σ 42 k = 0 ∨ σ 42 k = 1 := by
  have h := ho 42 k.toNat
  rw [show ((k.toNat : Nat) : Int) = k by omega] at h
  exact h
theorem zPlanted {σ : zHp} (hI : zInv σ) : zcnt (σ 1 3) = (zcn (fun c => decide (σ 42 c = 1)) (σ 1 2).toNat : Nat) := by
  have hP : zIP σ := hI.2.2.2.2.2.1
  have hN := zN_eq hI.2.2.1
  unfold zcnt
  rw [zcn_cut (m := (σ 1 2).toNat) (n := 32) (by omega) (fun i h1 h2 => by rw [hP i h2, decide_eq_false]; omega)]
  congr 1
  refine zcn_c _ (fun i hi => ?_)
  rw [hP i (by omega)]
  have : (i : Int) < σ 1 2 := by omega
  simp [this]
theorem v_many (w : Int) (σ : zHp) (hI : zInv σ) : sW lc_X9_many_1 lf_X9_many_1 ls_X9_many_1 [37, w, 0, 0] σ = some (0, [37, w, zcnt (σ 1 3), σ 1 2], σ) := by
  have hN := zN_eq hI.2.2.1
  have hl := zl_seq (c := lc_X9_many_1) (f := lf_X9_many_1) (s := ls_X9_many_1) (fun k => [37, w, (zcn (fun c => decide (σ 42 c = 1)) k : Nat), (k : Int)]) (fun _ => σ) (σ 1 2).toNat
    (fun k hk => by
      have : (k : Int) < σ 1 2 := by omega
      simp [lc_X9_many_1, xC_e, xL_e, xU_e, xB_e, xD_e, xF_e, xG_e, xA_e, xE_e, xH_e, xI_e, xZ_e, xK_e, aN_e, aC_e, cR_e, cV_e, cA_e, cO_e, cN_e, bs_e, bn_e, zg_0, zg_S, sS_e, sX_e, sF_e, sG_e, sA_e, sE_e, sEo_e, sK_e, sQ_e, sI_e, sR_e, sV_e, sB_e, sC_e, sD_e, sN_e, sP_e, sY_e, st_0, st_S, zc_0, zc_S, r_lt, v_all, hN.1, this])
    (fun k hk => by
      refine ⟨0, [37, w, (zcn (fun c => decide (σ 42 c = 1)) (k + 1) : Nat), (k : Int)], σ, ?_, Or.inl rfl, ?_⟩
      · have k30 : 0 ≤ (k : Int) ∧ (k : Int) < 30 := by omega
        have le := zcn_le (fun c => decide (σ 42 c = 1)) k
        have e0 : o_iadd (zcn (fun c => decide (σ 42 c = 1)) k : Nat) 0 = (zcn (fun c => decide (σ 42 c = 1)) k : Nat) := by
          have : o_iadd (zcn (fun c => decide (σ 42 c = 1)) k : Nat) 0 = (zcn (fun c => decide (σ 42 c = 1)) k : Nat) + 0 := w32_id ⟨by omega, by omega⟩
          omega
        have e1 : o_iadd (zcn (fun c => decide (σ 42 c = 1)) k : Nat) 1 = (zcn (fun c => decide (σ 42 c = 1)) k : Nat) + 1 := w32_id ⟨by omega, by omega⟩
        rcases zPl hI.1 k (by omega) with p | p
        · simp [lf_X9_many_1, xC_e, xL_e, xU_e, xB_e, xD_e, xF_e, xG_e, xA_e, xE_e, xH_e, xI_e, xZ_e, xK_e, aN_e, aC_e, cR_e, cV_e, cA_e, cO_e, cN_e, bs_e, bn_e, zg_0, zg_S, sS_e, sX_e, sF_e, sG_e, sA_e, sE_e, sEo_e, sK_e, sQ_e, sI_e, sR_e, sV_e, sB_e, sC_e, sD_e, sN_e, sP_e, sY_e, st_0, st_S, zc_0, zc_S, r_eq, r_ne, r_lt, r_le, r_gt, r_ge, rb_ite, rb_0, rb_1, k30, p, e0, zcn]
        · simp [lf_X9_many_1, xC_e, xL_e, xU_e, xB_e, xD_e, xF_e, xG_e, xA_e, xE_e, xH_e, xI_e, xZ_e, xK_e, aN_e, aC_e, cR_e, cV_e, cA_e, cO_e, cN_e, bs_e, bn_e, zg_0, zg_S, sS_e, sX_e, sF_e, sG_e, sA_e, sE_e, sEo_e, sK_e, sQ_e, sI_e, sR_e, sV_e, sB_e, sC_e, sD_e, sN_e, sP_e, sY_e, st_0, st_S, zc_0, zc_S, r_eq, r_ne, r_lt, r_le, r_gt, r_ge, rb_ite, rb_0, rb_1, k30, p, e1, zcn, rb]
      · have e : o_iadd (k : Int) 1 = ((k + 1 : Nat) : Int) := by
          have : o_iadd (k : Int) 1 = (k : Int) + 1 := w32_id ⟨by omega, by omega⟩
          omega
        simp [ls_X9_many_1, xC_e, xL_e, xU_e, xB_e, xD_e, xF_e, xG_e, xA_e, xE_e, xH_e, xI_e, xZ_e, xK_e, aN_e, aC_e, cR_e, cV_e, cA_e, cO_e, cN_e, bs_e, bn_e, zg_0, zg_S, sS_e, sX_e, sF_e, sG_e, sA_e, sE_e, sEo_e, sK_e, sQ_e, sI_e, sR_e, sV_e, sB_e, sC_e, sD_e, sN_e, sP_e, sY_e, st_0, st_S, zc_0, zc_S, e])
    (by
      have : ¬ (((σ 1 2).toNat : Int) < σ 1 2) := by omega
      simp only [lc_X9_many_1, xC_e, xL_e, xU_e, xB_e, xD_e, xF_e, xG_e, xA_e, xE_e, xH_e, xI_e, xZ_e, xK_e, aN_e, aC_e, cR_e, cV_e, cA_e, cO_e, cN_e, bs_e, bn_e, zg_0, zg_S, sS_e, sX_e, sF_e, sG_e, sA_e, sE_e, sEo_e, sK_e, sQ_e, sI_e, sR_e, sV_e, sB_e, sC_e, sD_e, sN_e, sP_e, sY_e, st_0, st_S, zc_0, zc_S, r_lt, v_all, hN.1]
      rw [decide_eq_false this])
    (zf_lt (by omega))
  rw [zPlanted hI]
  have e2 : (((σ 1 2).toNat : Nat) : Int) = σ 1 2 := by omega
  rw [e2] at hl
  exact hl
theorem zp34 : zp_34 zInv := by
  intro w hw σ hI
  have hN := zN_eq hI.2.2.1
  have hB := zI3 hI
  have hR := zI9 hI
  have hE := hI.2.2.2.2.2.2.1
  have hL := hI.2.2.1
  have lp := v_many w σ hI
  refine zq (ts := [0]) k_X8_many k_X9_many hI ⟨hw, trivial⟩ (r := if w = 0 then σ 1 2 else if w = 1 then σ 1 0 else if w = 2 then σ 1 1 else if w = 3 then σ 6 0 else if w = 4 then zcnt (σ 1 3) else if w = 5 then σ 14 2 else if w = 6 then σ 10 2 else -2) (σ1 := σ) (σ2 := σ) ?_ ?_ (zSame.rf σ) (zSame.rf σ)
  · rcases (show w = 0 ∨ w = 1 ∨ w = 2 ∨ w = 3 ∨ w = 4 ∨ w = 5 ∨ w = 6 ∨ (w < 0 ∨ 7 ≤ w) by omega) with rfl | rfl | rfl | rfl | rfl | rfl | rfl | h
    all_goals try simp [e_X8_many, d_X8_many, xC_e, xL_e, xU_e, xB_e, xD_e, xF_e, xG_e, xA_e, xE_e, xH_e, xI_e, xZ_e, xK_e, aN_e, aC_e, cR_e, cV_e, cA_e, cO_e, cN_e, bs_e, bn_e, zg_0, zg_S, sS_e, sX_e, sF_e, sG_e, sA_e, sE_e, sEo_e, sK_e, sQ_e, sI_e, sR_e, sV_e, sB_e, sC_e, sD_e, sN_e, sP_e, sY_e, st_0, st_S, zc_0, zc_S, r_eq, r_ne, r_lt, r_le, r_gt, r_ge, rb_ite, rb_0, rb_1, zpick, w_bitCount]
    have n0 : ¬ w = 0 := by omega
    have n1 : ¬ w = 1 := by omega
    have n2 : ¬ w = 2 := by omega
    have n3 : ¬ w = 3 := by omega
    have n4 : ¬ w = 4 := by omega
    have n5 : ¬ w = 5 := by omega
    have n6 : ¬ w = 6 := by omega
    have m1 : ¬ w - 1 = 0 := by omega
    have m2 : ¬ w - 1 - 1 = 0 := by omega
    have m3 : ¬ w - 1 - 1 - 1 = 0 := by omega
    have m4 : ¬ w - 1 - 1 - 1 - 1 = 0 := by omega
    have m5 : ¬ w - 1 - 1 - 1 - 1 - 1 = 0 := by omega
    have m6 : ¬ w - 1 - 1 - 1 - 1 - 1 - 1 = 0 := by omega
    by_cases nn : w < 0 <;> simp [n0, n1, n2, n3, n4, n5, n6, m1, m2, m3, m4, m5, m6, nn, xC_e, xL_e, xU_e, xB_e, xD_e, xF_e, xG_e, xA_e, xE_e, xH_e, xI_e, xZ_e, xK_e, aN_e, aC_e, cR_e, cV_e, cA_e, cO_e, cN_e, bs_e, bn_e, zg_0, zg_S, sS_e, sX_e, sF_e, sG_e, sA_e, sE_e, sEo_e, sK_e, sQ_e, sI_e, sR_e, sV_e, sB_e, sC_e, sD_e, sN_e, sP_e, sY_e, st_0, st_S, zc_0, zc_S]
  · simp only [e_X9_many, d_X9_many, xC_e, xL_e, xU_e, xB_e, xD_e, xF_e, xG_e, xA_e, xE_e, xH_e, xI_e, xZ_e, xK_e, aN_e, aC_e, cR_e, cV_e, cA_e, cO_e, cN_e, bs_e, bn_e, zg_0, zg_S, sS_e, sX_e, sF_e, sG_e, sA_e, sE_e, sEo_e, sK_e, sQ_e, sI_e, sR_e, sV_e, sB_e, sC_e, sD_e, sN_e, sP_e, sY_e, st_0, st_S, zc_0, zc_S, lp]
    rcases (show w = 0 ∨ w = 1 ∨ w = 2 ∨ w = 3 ∨ w = 4 ∨ w = 5 ∨ w = 6 ∨ (w < 0 ∨ 7 ≤ w) by omega) with rfl | rfl | rfl | rfl | rfl | rfl | rfl | h
    all_goals try simp [xC_e, xL_e, xU_e, xB_e, xD_e, xF_e, xG_e, xA_e, xE_e, xH_e, xI_e, xZ_e, xK_e, aN_e, aC_e, cR_e, cV_e, cA_e, cO_e, cN_e, bs_e, bn_e, zg_0, zg_S, sS_e, sX_e, sF_e, sG_e, sA_e, sE_e, sEo_e, sK_e, sQ_e, sI_e, sR_e, sV_e, sB_e, sC_e, sD_e, sN_e, sP_e, sY_e, st_0, st_S, zc_0, zc_S, r_eq, r_ne, r_lt, r_le, r_gt, r_ge, rb_ite, rb_0, rb_1, zpick, v_all, hN.1, hL.2.1, hL.2.2.1, hB.1, hR.1, hE.1]
    · have := hN.1
      rw [hL.2.1, hL.2.2.1] at this
      exact this
    have n0 : ¬ w = 0 := by omega
    have n1 : ¬ w = 1 := by omega
    have n2 : ¬ w = 2 := by omega
    have n3 : ¬ w = 3 := by omega
    have n4 : ¬ w = 4 := by omega
    have n5 : ¬ w = 5 := by omega
    have n6 : ¬ w = 6 := by omega
    have m1 : ¬ w - 1 = 0 := by omega
    have m2 : ¬ w - 1 - 1 = 0 := by omega
    have m3 : ¬ w - 1 - 1 - 1 = 0 := by omega
    have m4 : ¬ w - 1 - 1 - 1 - 1 = 0 := by omega
    have m5 : ¬ w - 1 - 1 - 1 - 1 - 1 = 0 := by omega
    have m6 : ¬ w - 1 - 1 - 1 - 1 - 1 - 1 = 0 := by omega
    by_cases nn : w < 0 <;> simp [n0, n1, n2, n3, n4, n5, n6, m1, m2, m3, m4, m5, m6, nn, xC_e, xL_e, xU_e, xB_e, xD_e, xF_e, xG_e, xA_e, xE_e, xH_e, xI_e, xZ_e, xK_e, aN_e, aC_e, cR_e, cV_e, cA_e, cO_e, cN_e, bs_e, bn_e, zg_0, zg_S, sS_e, sX_e, sF_e, sG_e, sA_e, sE_e, sEo_e, sK_e, sQ_e, sI_e, sR_e, sV_e, sB_e, sC_e, sD_e, sN_e, sP_e, sY_e, st_0, st_S, zc_0, zc_S]
