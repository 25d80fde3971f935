theorem zp25 : zp_25 zInv := by
  intro k hk σ hI
  by_cases h : 0 ≤ k ∧ k < 4
  case neg =>
    refine zq (ts := [0]) k_X8_lose k_X9_lose hI ⟨hk, trivial⟩ (r := -1) (σ1 := σ) (σ2 := σ) ?_ ?_ (zSame.rf σ) (zSame.rf σ)
    · simp [e_X8_lose, d_X8_lose, xC_e, xL_e, xU_e, xB_e, xD_e, xF_e, xG_e, xA_e, xE_e, xH_e, xI_e, xZ_e, xK_e, aN_e, aC_e, cR_e, cV_e, cA_e, cO_e, cN_e, bs_e, bn_e, zg_0, zg_S, sS_e, sX_e, sF_e, sG_e, sA_e, sE_e, sEo_e, sK_e, sQ_e, sI_e, sR_e, sV_e, sB_e, sC_e, sD_e, sN_e, sP_e, sY_e, st_0, st_S, zc_0, zc_S, r_eq, r_ne, r_lt, r_le, r_gt, r_ge, rb_ite, rb_0, rb_1, w_isSheet_f h]
    · simp [e_X9_lose, d_X9_lose, xC_e, xL_e, xU_e, xB_e, xD_e, xF_e, xG_e, xA_e, xE_e, xH_e, xI_e, xZ_e, xK_e, aN_e, aC_e, cR_e, cV_e, cA_e, cO_e, cN_e, bs_e, bn_e, zg_0, zg_S, sS_e, sX_e, sF_e, sG_e, sA_e, sE_e, sEo_e, sK_e, sQ_e, sI_e, sR_e, sV_e, sB_e, sC_e, sD_e, sN_e, sP_e, sY_e, st_0, st_S, zc_0, zc_S, r_eq, r_ne, r_lt, r_le, r_gt, r_ge, rb_ite, rb_0, rb_1, v_isSheet_f h]
  have hS := zI10 hI
  obtain ⟨q1, q2, q3, q4, q5⟩ := hS k h.1 h.2
  rcases q1 with ⟨p1, p2, p3, p4⟩ | ⟨p1, p2⟩
  · have h1 : m_X8_lose [0, k] σ = some (1, zput σ (29 + 2 * k) 1 0) := by
      simp [e_X8_lose, d_X8_lose, xC_e, xL_e, xU_e, xB_e, xD_e, xF_e, xG_e, xA_e, xE_e, xH_e, xI_e, xZ_e, xK_e, aN_e, aC_e, cR_e, cV_e, cA_e, cO_e, cN_e, bs_e, bn_e, zg_0, zg_S, sS_e, sX_e, sF_e, sG_e, sA_e, sE_e, sEo_e, sK_e, sQ_e, sI_e, sR_e, sV_e, sB_e, sC_e, sD_e, sN_e, sP_e, sY_e, st_0, st_S, zc_0, zc_S, r_eq, r_ne, r_lt, r_le, r_gt, r_ge, rb_ite, rb_0, rb_1, w_isSheet_t h, h, p1]
    have n9 : ¬ σ (29 + 2 * k) 2 = -9 := by omega
    have h2 : m_X9_lose [37, k] (zput σ (29 + 2 * k) 1 0) = some (1, zput (zput σ (29 + 2 * k) 1 0) 38 k (-9)) := by
      have e : zput σ (29 + 2 * k) 1 0 38 k = σ (29 + 2 * k) 2 := by rw [zput_o (by omega)]; exact p2
      simp [e_X9_lose, d_X9_lose, xC_e, xL_e, xU_e, xB_e, xD_e, xF_e, xG_e, xA_e, xE_e, xH_e, xI_e, xZ_e, xK_e, aN_e, aC_e, cR_e, cV_e, cA_e, cO_e, cN_e, bs_e, bn_e, zg_0, zg_S, sS_e, sX_e, sF_e, sG_e, sA_e, sE_e, sEo_e, sK_e, sQ_e, sI_e, sR_e, sV_e, sB_e, sC_e, sD_e, sN_e, sP_e, sY_e, st_0, st_S, zc_0, zc_S, r_eq, r_ne, r_lt, r_le, r_gt, r_ge, rb_ite, rb_0, rb_1, v_isSheet_t h, h, e, n9]
    have o1 := zOk_of k_X8_lose hI.1 h1 ⟨zthis, hk, trivial⟩
    have o2 := zOk_of k_X9_lose o1 h2 ⟨zthat, hk, trivial⟩
    refine ⟨_, _, _, h1, h2, zInv_S o2 hI (fun a b _ _ g1 g2 => ?_) ?_ ?_⟩
    · unfold zput
      rw [if_neg (by omega), if_neg (by omega)]
    · rw [zput_o (by decide), zput_o (by omega), zput_o (by decide), zput_o (by omega)]; exact hI.2.1.1.symm
    · intro j j0 j1
      obtain ⟨s1, s2, s3, s4, s5⟩ := hS j j0 j1
      have e1 : ∀ b, b ≠ 1 → zput (zput σ (29 + 2 * k) 1 0) 38 k (-9) (29 + 2 * j) b = σ (29 + 2 * j) b := fun b hb => by rw [zput_o (by omega), zput_i hb]
      refine ⟨?_, ?_, ?_, ?_, fun i i0 i1 => ?_⟩
      · by_cases hj : j = k
        · subst hj
          right
          rw [zput_self, zput_o (by omega), zput_self]
          exact ⟨rfl, rfl⟩
        · rw [e1 2 (by decide), zput_o (a := 29 + 2 * j) (by omega), zput_o (a := 29 + 2 * j) (by omega), zput_i hj, zput_o (by omega)]
          exact s1
      · rw [e1 3 (by decide), zput_o (by decide), zput_o (by omega)]; exact s2
      · rw [zput_o (by decide), zput_o (by omega)]; exact s3
      · rw [zput_o (by decide), zput_o (by omega)]; exact s4
      · rw [zput_o (by decide), zput_o (by omega), zput_o (by omega), zput_o (by omega)]; exact s5 i i0 i1
  · refine zq (ts := [0]) k_X8_lose k_X9_lose hI ⟨hk, trivial⟩ (r := 0) (σ1 := σ) (σ2 := σ) ?_ ?_ (zSame.rf σ) (zSame.rf σ)
    · simp [e_X8_lose, d_X8_lose, xC_e, xL_e, xU_e, xB_e, xD_e, xF_e, xG_e, xA_e, xE_e, xH_e, xI_e, xZ_e, xK_e, aN_e, aC_e, cR_e, cV_e, cA_e, cO_e, cN_e, bs_e, bn_e, zg_0, zg_S, sS_e, sX_e, sF_e, sG_e, sA_e, sE_e, sEo_e, sK_e, sQ_e, sI_e, sR_e, sV_e, sB_e, sC_e, sD_e, sN_e, sP_e, sY_e, st_0, st_S, zc_0, zc_S, r_eq, r_ne, r_lt, r_le, r_gt, r_ge, rb_ite, rb_0, rb_1, w_isSheet_t h, h, p1]
    · have e : zput σ 38 k (-9) = σ := by rw [← p2, zput_id]
      simp [e_X9_lose, d_X9_lose, xC_e, xL_e, xU_e, xB_e, xD_e, xF_e, xG_e, xA_e, xE_e, xH_e, xI_e, xZ_e, xK_e, aN_e, aC_e, cR_e, cV_e, cA_e, cO_e, cN_e, bs_e, bn_e, zg_0, zg_S, sS_e, sX_e, sF_e, sG_e, sA_e, sE_e, sEo_e, sK_e, sQ_e, sI_e, sR_e, sV_e, sB_e, sC_e, sD_e, sN_e, sP_e, sY_e, st_0, st_S, zc_0, zc_S, r_eq, r_ne, r_lt, r_le, r_gt, r_ge, rb_ite, rb_0, rb_1, v_isSheet_t h, h, p2, e]
/-- a pair that leaves a fault and nothing else -/
theorem zqf {f g : List Int → zHp → Option (Int × zHp)} {as : List Int} {σ : zHp} {r x : Int} {n1 n2 : MethodName} {w1 w2 : List Cond} {fr1 lo1 rt1 fr2 lo2 rt2 : Nat} {ts : List Nat} (k1 : zCon n1 w1 fr1 lo1 (10 :: ts) rt1 f) (k2 : zCon n2 w2 fr2 lo2 (47 :: ts) rt2 g) (hI : zInv σ) (ha : zOkA ts as)
    (h1 : f (0 :: as) σ = some (r, zput σ 0 8 x)) (h2 : ∀ τ, (∀ a b : Int, ¬ (a = 0 ∧ b = 8) → τ a b = σ a b) → g (37 :: as) τ = some (r, zput τ 37 0 x)) : ∃ r σ1 σ2, f (0 :: as) σ = some (r, σ1) ∧ g (37 :: as) σ1 = some (r, σ2) ∧ zInv σ2 := by
  have h2 := h2 (zput σ 0 8 x) (fun a b hab => by
    unfold zput
    rw [if_neg (by omega)])
  have o1 := zOk_of k1 hI.1 h1 ⟨zthis, ha⟩
  have o2 := zOk_of k2 o1 h2 ⟨zthat, ha⟩
  refine ⟨_, _, _, h1, h2, zInv_F o2 hI (fun a b q1 q2 => ?_) ?_ ?_⟩
  · unfold zput
    rw [if_neg (by omega), if_neg (by omega)]
  · simp [zput]
  · have := hI.2.1.2
    simp [zput, this]
/-- sheets as the reference tells them -/
theorem zSh {σ : zHp} {k : Int} (hS : zIS σ) (h : 0 ≤ k ∧ k < 4) : (σ (29 + 2 * k) 1 = 1 ∧ σ 38 k = σ (29 + 2 * k) 2 ∧ 0 ≤ σ (29 + 2 * k) 2 ∧ σ (29 + 2 * k) 2 ≤ 2 ∧ σ 38 k ≠ -9) ∨ (σ (29 + 2 * k) 1 = 0 ∧ σ 38 k = -9) := by
  rcases (hS k h.1 h.2).1 with ⟨p1, p2, p3, p4⟩ | ⟨p1, p2⟩
  · exact Or.inl ⟨p1, p2, by omega, by omega, by omega⟩
  · exact Or.inr ⟨p1, p2⟩
theorem w_hasNumber (o i : Int) (σ : zHp) : m_X6_hasNumber [o, i] σ = some (if 0 ≤ i ∧ i < σ o 3 then 1 else 0, σ) := by
  simp only [e_X6_hasNumber, d_X6_hasNumber, xC_e, xL_e, xU_e, xB_e, xD_e, xF_e, xG_e, xA_e, xE_e, xH_e, xI_e, xZ_e, xK_e, aN_e, aC_e, cR_e, cV_e, cA_e, cO_e, cN_e, bs_e, bn_e, zg_0, zg_S, sS_e, sX_e, sF_e, sG_e, sA_e, sE_e, sEo_e, sK_e, sQ_e, sI_e, sR_e, sV_e, sB_e, sC_e, sD_e, sN_e, sP_e, sY_e, st_0, st_S, zc_0, zc_S, r_eq, r_ne, r_lt, r_le, r_gt, r_ge, rb_ite, rb_0, rb_1]
  by_cases h : 0 ≤ i <;> by_cases h2 : i < σ o 3 <;> simp [h, h2, xC_e, xL_e, xU_e, xB_e, xD_e, xF_e, xG_e, xA_e, xE_e, xH_e, xI_e, xZ_e, xK_e, aN_e, aC_e, cR_e, cV_e, cA_e, cO_e, cN_e, bs_e, bn_e, zg_0, zg_S, sS_e, sX_e, sF_e, sG_e, sA_e, sE_e, sEo_e, sK_e, sQ_e, sI_e, sR_e, sV_e, sB_e, sC_e, sD_e, sN_e, sP_e, sY_e, st_0, st_S, zc_0, zc_S]
theorem w_hasNumber_t {o i : Int} {σ : zHp} (h : 0 ≤ i ∧ i < σ o 3) : m_X6_hasNumber [o, i] σ = some (1, σ) := by rw [w_hasNumber, if_pos h]
theorem w_hasNumber_f {o i : Int} {σ : zHp} (h : ¬ (0 ≤ i ∧ i < σ o 3)) : m_X6_hasNumber [o, i] σ = some (0, σ) := by rw [w_hasNumber, if_neg h]
theorem w_faultOfSort (o s : Int) (σ : zHp) : m_X6_faultOfSort [o, s] σ = some (if σ o 1 = 0 then 1 else if σ o 2 = s then 0 else 2, σ) := by
  simp only [e_X6_faultOfSort, d_X6_faultOfSort, xC_e, xL_e, xU_e, xB_e, xD_e, xF_e, xG_e, xA_e, xE_e, xH_e, xI_e, xZ_e, xK_e, aN_e, aC_e, cR_e, cV_e, cA_e, cO_e, cN_e, bs_e, bn_e, zg_0, zg_S, sS_e, sX_e, sF_e, sG_e, sA_e, sE_e, sEo_e, sK_e, sQ_e, sI_e, sR_e, sV_e, sB_e, sC_e, sD_e, sN_e, sP_e, sY_e, st_0, st_S, zc_0, zc_S, r_eq, r_ne, r_lt, r_le, r_gt, r_ge, rb_ite, rb_0, rb_1]
  by_cases h : σ o 1 = 0 <;> by_cases h2 : σ o 2 = s <;> simp [h, h2, xC_e, xL_e, xU_e, xB_e, xD_e, xF_e, xG_e, xA_e, xE_e, xH_e, xI_e, xZ_e, xK_e, aN_e, aC_e, cR_e, cV_e, cA_e, cO_e, cN_e, bs_e, bn_e, zg_0, zg_S, sS_e, sX_e, sF_e, sG_e, sA_e, sE_e, sEo_e, sK_e, sQ_e, sI_e, sR_e, sV_e, sB_e, sC_e, sD_e, sN_e, sP_e, sY_e, st_0, st_S, zc_0, zc_S, rb]
theorem zp27 : zp_27 zInv := by
  intro k i s hk hi hs σ hI
  have hS := zI10 hI
  have ha : zOkA [0, 0, 0] [k, i, s] := ⟨hk, hi, hs, trivial⟩
  by_cases h : (0 ≤ k ∧ k < 4) ∧ 0 ≤ s ∧ s ≤ 2
  case neg =>
    refine zqf k_X8_cell k_X9_cell hI ha (r := -9223372036854775808) (x := 0) ?_ (fun τ hτ => ?_)
    · by_cases h1 : 0 ≤ k ∧ k < 4
      · have h2 : ¬ (0 ≤ s ∧ s ≤ 2) := fun q => h ⟨h1, q⟩
        simp [e_X8_cell, d_X8_cell, xC_e, xL_e, xU_e, xB_e, xD_e, xF_e, xG_e, xA_e, xE_e, xH_e, xI_e, xZ_e, xK_e, aN_e, aC_e, cR_e, cV_e, cA_e, cO_e, cN_e, bs_e, bn_e, zg_0, zg_S, sS_e, sX_e, sF_e, sG_e, sA_e, sE_e, sEo_e, sK_e, sQ_e, sI_e, sR_e, sV_e, sB_e, sC_e, sD_e, sN_e, sP_e, sY_e, st_0, st_S, zc_0, zc_S, r_eq, r_ne, r_lt, r_le, r_gt, r_ge, rb_ite, rb_0, rb_1, w_isSheet_t h1, w_isSort_f h2]
      · simp [e_X8_cell, d_X8_cell, xC_e, xL_e, xU_e, xB_e, xD_e, xF_e, xG_e, xA_e, xE_e, xH_e, xI_e, xZ_e, xK_e, aN_e, aC_e, cR_e, cV_e, cA_e, cO_e, cN_e, bs_e, bn_e, zg_0, zg_S, sS_e, sX_e, sF_e, sG_e, sA_e, sE_e, sEo_e, sK_e, sQ_e, sI_e, sR_e, sV_e, sB_e, sC_e, sD_e, sN_e, sP_e, sY_e, st_0, st_S, zc_0, zc_S, r_eq, r_ne, r_lt, r_le, r_gt, r_ge, rb_ite, rb_0, rb_1, w_isSheet_f h1]
    · by_cases h1 : 0 ≤ k ∧ k < 4
      · have h2 : ¬ (0 ≤ s ∧ s ≤ 2) := fun q => h ⟨h1, q⟩
        simp [e_X9_cell, d_X9_cell, xC_e, xL_e, xU_e, xB_e, xD_e, xF_e, xG_e, xA_e, xE_e, xH_e, xI_e, xZ_e, xK_e, aN_e, aC_e, cR_e, cV_e, cA_e, cO_e, cN_e, bs_e, bn_e, zg_0, zg_S, sS_e, sX_e, sF_e, sG_e, sA_e, sE_e, sEo_e, sK_e, sQ_e, sI_e, sR_e, sV_e, sB_e, sC_e, sD_e, sN_e, sP_e, sY_e, st_0, st_S, zc_0, zc_S, r_eq, r_ne, r_lt, r_le, r_gt, r_ge, rb_ite, rb_0, rb_1, v_isSheet_t h1, v_isSort_f h2]
      · simp [e_X9_cell, d_X9_cell, xC_e, xL_e, xU_e, xB_e, xD_e, xF_e, xG_e, xA_e, xE_e, xH_e, xI_e, xZ_e, xK_e, aN_e, aC_e, cR_e, cV_e, cA_e, cO_e, cN_e, bs_e, bn_e, zg_0, zg_S, sS_e, sX_e, sF_e, sG_e, sA_e, sE_e, sEo_e, sK_e, sQ_e, sI_e, sR_e, sV_e, sB_e, sC_e, sD_e, sN_e, sP_e, sY_e, st_0, st_S, zc_0, zc_S, r_eq, r_ne, r_lt, r_le, r_gt, r_ge, rb_ite, rb_0, rb_1, v_isSheet_f h1]
  obtain ⟨h, hs2⟩ := h
  have z8 : ∀ (v a b : Int), a ≠ 0 → zput σ 0 8 v a b = σ a b := fun v a b h => zput_o h b
  have o0 : 29 + 2 * k ≠ 0 := by omega
  have o9 : 29 + 2 * k + 1 ≠ 0 := by omega
  rcases zSh hS h with ⟨p1, p2, p3, p4, p5⟩ | ⟨p1, p2⟩
  case inr =>
    refine zqf k_X8_cell k_X9_cell hI ha (r := -9223372036854775808) (x := 1) ?_ (fun τ hτ => ?_)
    · simp [e_X8_cell, d_X8_cell, xC_e, xL_e, xU_e, xB_e, xD_e, xF_e, xG_e, xA_e, xE_e, xH_e, xI_e, xZ_e, xK_e, aN_e, aC_e, cR_e, cV_e, cA_e, cO_e, cN_e, bs_e, bn_e, zg_0, zg_S, sS_e, sX_e, sF_e, sG_e, sA_e, sE_e, sEo_e, sK_e, sQ_e, sI_e, sR_e, sV_e, sB_e, sC_e, sD_e, sN_e, sP_e, sY_e, st_0, st_S, zc_0, zc_S, r_eq, r_ne, r_lt, r_le, r_gt, r_ge, rb_ite, rb_0, rb_1, w_isSheet_t h, w_isSort_t hs2, h, w_faultOfSort, z8 _ _ _ o0, p1, zput_put, zput_self]
    · have e38 : zput τ 37 0 0 38 k = -9 := by rw [zput_o (by decide), hτ _ _ (by omega)]; exact p2
      simp [e_X9_cell, d_X9_cell, xC_e, xL_e, xU_e, xB_e, xD_e, xF_e, xG_e, xA_e, xE_e, xH_e, xI_e, xZ_e, xK_e, aN_e, aC_e, cR_e, cV_e, cA_e, cO_e, cN_e, bs_e, bn_e, zg_0, zg_S, sS_e, sX_e, sF_e, sG_e, sA_e, sE_e, sEo_e, sK_e, sQ_e, sI_e, sR_e, sV_e, sB_e, sC_e, sD_e, sN_e, sP_e, sY_e, st_0, st_S, zc_0, zc_S, r_eq, r_ne, r_lt, r_le, r_gt, r_ge, rb_ite, rb_0, rb_1, v_isSheet_t h, v_isSort_t hs2, h, e38, v_lost, zput_put]
  by_cases ss : σ (29 + 2 * k) 2 = s
  case neg =>
    refine zqf k_X8_cell k_X9_cell hI ha (r := -9223372036854775808) (x := 2) ?_ (fun τ hτ => ?_)
    · simp [e_X8_cell, d_X8_cell, xC_e, xL_e, xU_e, xB_e, xD_e, xF_e, xG_e, xA_e, xE_e, xH_e, xI_e, xZ_e, xK_e, aN_e, aC_e, cR_e, cV_e, cA_e, cO_e, cN_e, bs_e, bn_e, zg_0, zg_S, sS_e, sX_e, sF_e, sG_e, sA_e, sE_e, sEo_e, sK_e, sQ_e, sI_e, sR_e, sV_e, sB_e, sC_e, sD_e, sN_e, sP_e, sY_e, st_0, st_S, zc_0, zc_S, r_eq, r_ne, r_lt, r_le, r_gt, r_ge, rb_ite, rb_0, rb_1, w_isSheet_t h, w_isSort_t hs2, h, w_faultOfSort, z8 _ _ _ o0, p1, ss, zput_put, zput_self]
    · have e38 : zput τ 37 0 0 38 k = σ (29 + 2 * k) 2 := by rw [zput_o (by decide), hτ _ _ (by omega)]; exact p2
      have n9 : ¬ σ (29 + 2 * k) 2 = -9 := by omega
      simp [e_X9_cell, d_X9_cell, xC_e, xL_e, xU_e, xB_e, xD_e, xF_e, xG_e, xA_e, xE_e, xH_e, xI_e, xZ_e, xK_e, aN_e, aC_e, cR_e, cV_e, cA_e, cO_e, cN_e, bs_e, bn_e, zg_0, zg_S, sS_e, sX_e, sF_e, sG_e, sA_e, sE_e, sEo_e, sK_e, sQ_e, sI_e, sR_e, sV_e, sB_e, sC_e, sD_e, sN_e, sP_e, sY_e, st_0, st_S, zc_0, zc_S, r_eq, r_ne, r_lt, r_le, r_gt, r_ge, rb_ite, rb_0, rb_1, v_isSheet_t h, v_isSort_t hs2, h, e38, v_lost, zput_put, ss, n9]
  obtain ⟨-, q2, q3, q4, q5⟩ := hS k h.1 h.2
  have key : ∀ τ : zHp, (∀ a b : Int, ¬ (a = 0 ∧ b = 8) → τ a b = σ a b) → zput τ 37 0 0 38 k = s ∧ zput τ 37 0 0 39 k = σ (29 + 2 * k) 3 ∧ (∀ a, zput τ 37 0 0 40 a = σ 40 a) := by
    intro τ hτ
    refine ⟨?_, ?_, fun a => ?_⟩
    · rw [zput_o (by decide), hτ _ _ (by omega), p2, ss]
    · rw [zput_o (by decide), hτ _ _ (by omega), q2]
    · rw [zput_o (by decide), hτ _ _ (by omega)]
  have n9 : ¬ s = -9 := by omega
  have el : o_isub (σ (29 + 2 * k) 3) 1 = σ (29 + 2 * k) 3 - 1 := w32_id ⟨by omega, by omega⟩
  by_cases hi2 : 0 ≤ i ∧ i < σ (29 + 2 * k) 3
  case neg =>
    refine zqf k_X8_cell k_X9_cell hI ha (r := -9223372036854775808) (x := 3) ?_ (fun τ hτ => ?_)
    · have w : ∀ τ : zHp, τ (29 + 2 * k) 3 = σ (29 + 2 * k) 3 → m_X6_hasNumber [29 + 2 * k, i] τ = some (0, τ) := fun τ h => w_hasNumber_f (by rw [h]; exact hi2)
      simp [e_X8_cell, d_X8_cell, xC_e, xL_e, xU_e, xB_e, xD_e, xF_e, xG_e, xA_e, xE_e, xH_e, xI_e, xZ_e, xK_e, aN_e, aC_e, cR_e, cV_e, cA_e, cO_e, cN_e, bs_e, bn_e, zg_0, zg_S, sS_e, sX_e, sF_e, sG_e, sA_e, sE_e, sEo_e, sK_e, sQ_e, sI_e, sR_e, sV_e, sB_e, sC_e, sD_e, sN_e, sP_e, sY_e, st_0, st_S, zc_0, zc_S, r_eq, r_ne, r_lt, r_le, r_gt, r_ge, rb_ite, rb_0, rb_1, w_isSheet_t h, w_isSort_t hs2, h, w_faultOfSort, z8 _ _ _ o0, p1, ss, zput_put, zput_self, w]
    · obtain ⟨k1, k2, k3⟩ := key τ hτ
      have w : ¬ (0 ≤ i ∧ i ≤ σ (29 + 2 * k) 3 - 1) := by omega
      simp [e_X9_cell, d_X9_cell, xC_e, xL_e, xU_e, xB_e, xD_e, xF_e, xG_e, xA_e, xE_e, xH_e, xI_e, xZ_e, xK_e, aN_e, aC_e, cR_e, cV_e, cA_e, cO_e, cN_e, bs_e, bn_e, zg_0, zg_S, sS_e, sX_e, sF_e, sG_e, sA_e, sE_e, sEo_e, sK_e, sQ_e, sI_e, sR_e, sV_e, sB_e, sC_e, sD_e, sN_e, sP_e, sY_e, st_0, st_S, zc_0, zc_S, r_eq, r_ne, r_lt, r_le, r_gt, r_ge, rb_ite, rb_0, rb_1, v_isSheet_t h, v_isSort_t hs2, h, k1, n9, k2, el, v_within_f w, v_lost, zput_put]
  · have i6 : 0 ≤ i ∧ i < 60 := by omega
    refine zqf k_X8_cell k_X9_cell hI ha (r := σ (29 + 2 * k + 1) i) (x := 0) ?_ (fun τ hτ => ?_)
    · have w : ∀ τ : zHp, τ (29 + 2 * k) 3 = σ (29 + 2 * k) 3 → m_X6_hasNumber [29 + 2 * k, i] τ = some (1, τ) := fun τ h => w_hasNumber_t (by rw [h]; exact hi2)
      simp [e_X8_cell, d_X8_cell, xC_e, xL_e, xU_e, xB_e, xD_e, xF_e, xG_e, xA_e, xE_e, xH_e, xI_e, xZ_e, xK_e, aN_e, aC_e, cR_e, cV_e, cA_e, cO_e, cN_e, bs_e, bn_e, zg_0, zg_S, sS_e, sX_e, sF_e, sG_e, sA_e, sE_e, sEo_e, sK_e, sQ_e, sI_e, sR_e, sV_e, sB_e, sC_e, sD_e, sN_e, sP_e, sY_e, st_0, st_S, zc_0, zc_S, r_eq, r_ne, r_lt, r_le, r_gt, r_ge, rb_ite, rb_0, rb_1, w_isSheet_t h, w_isSort_t hs2, h, w_faultOfSort, z8 _ _ _ o0, p1, ss, zput_put, zput_self, w, i6, z8 _ _ _ o9]
    · obtain ⟨k1, k2, k3⟩ := key τ hτ
      have w : 0 ≤ i ∧ i ≤ σ (29 + 2 * k) 3 - 1 := by omega
      have e6 : o_iadd (o_imul 60 k) i = 60 * k + i := by
        have a1 : o_imul 60 k = 60 * k := w32_id ⟨by omega, by omega⟩
        rw [a1]
        exact w32_id ⟨by omega, by omega⟩
      have b6 : 0 ≤ 60 * k + i ∧ 60 * k + i < 240 := by omega
      simp [e_X9_cell, d_X9_cell, xC_e, xL_e, xU_e, xB_e, xD_e, xF_e, xG_e, xA_e, xE_e, xH_e, xI_e, xZ_e, xK_e, aN_e, aC_e, cR_e, cV_e, cA_e, cO_e, cN_e, bs_e, bn_e, zg_0, zg_S, sS_e, sX_e, sF_e, sG_e, sA_e, sE_e, sEo_e, sK_e, sQ_e, sI_e, sR_e, sV_e, sB_e, sC_e, sD_e, sN_e, sP_e, sY_e, st_0, st_S, zc_0, zc_S, r_eq, r_ne, r_lt, r_le, r_gt, r_ge, rb_ite, rb_0, rb_1, v_isSheet_t h, v_isSort_t hs2, h, k1, n9, k2, el, v_within_t w, e6, b6, k3, q5 i i6.1 i6.2]
