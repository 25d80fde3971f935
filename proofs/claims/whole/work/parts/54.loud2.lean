theorem zDim_b (σ : zHp) (kind f t : Int) (n : Nat) (hn : n ≤ 4) : 1 ≤ zDim σ kind f t n ∧ zDim σ kind f t n ≤ 256 := by
  rw [zDim_p]
  have c1 := zcn_le (zPn σ f t) n
  have c2 := zcn_le (zHl σ kind f t) n
  have hm : zcn (zPn σ f t) n + zcn (zHl σ kind f t) n ≤ 8 := by omega
  generalize zcn (zPn σ f t) n + zcn (zHl σ kind f t) n = m at *
  have h1 : 0 < 2 ^ m := Nat.pow_pos (by decide)
  have h2 : 2 ^ m ≤ 2 ^ 8 := Nat.pow_le_pow_right (by decide) (by omega)
  omega
theorem zU_b (k : Int) : 1 ≤ zU k ∧ zU k ≤ 2 := by unfold zU; split <;> omega
theorem zDn_b {σ : zHp} (hL : zIL σ) {kind f t : Int} (hf : 0 ≤ f ∧ f < σ 1 2) (ht : 0 ≤ t ∧ t < σ 1 2) : 1 ≤ zDn σ kind f t ∧ zDn σ kind f t ≤ 11008 := by
  obtain ⟨d0, d1, -⟩ := zFar_d hL (kind := kind) hf ht
  obtain ⟨l1, l2, l3, l4, l5, l6, -⟩ := zLen_i hL hf ht
  have b := zDim_b σ kind f t (zLen σ f t - 1).toNat (by omega)
  have u := zU_b kind
  unfold zDn
  generalize zDim σ kind f t (zLen σ f t - 1).toNat = x at *
  have h1 : 1 * 1 ≤ (zU kind + zFar σ f t) * x := Int.mul_le_mul (by omega) b.1 (by omega) (by omega)
  have h2 : (zU kind + zFar σ f t) * x ≤ 43 * 256 := Int.mul_le_mul (by omega) b.2 (by omega) (by omega)
  omega
theorem zDim_S (σ : zHp) (kind f t : Int) (k : Nat) : zDim σ kind f t (k + 1) = zDim σ kind f t k * (zM1 σ kind f t (zBt σ f t ((k + 1 : Nat) : Int)) * zM2 σ (zBt σ f t ((k + 1 : Nat) : Int))) := rfl
theorem zM1_b (σ : zHp) (a b c d : Int) : 1 ≤ zM1 σ a b c d ∧ zM1 σ a b c d ≤ 2 := by unfold zM1; split <;> omega
theorem zM2_b (σ : zHp) (d : Int) : 1 ≤ zM2 σ d ∧ zM2 σ d ≤ 2 := by unfold zM2; split <;> omega
theorem zWud_b {a w : Int} (hw : 0 ≤ w ∧ w ≤ 39) : 1 ≤ zWu a w ∧ zWu a w ≤ 19 ∧ 1 ≤ zWd a w ∧ zWd a w ≤ 19 := by
  unfold zWu zWd
  split
  · omega
  · split <;> omega
def zPu (σ : zHp) (kd f c w : Int) : Int := zU kd * zWu (zAl (zRo σ f c) (zCo σ f c) w) w
def zQd (σ : zHp) (kd f c w : Int) : Int := zDn σ kd f c * zWd (zAl (zRo σ f c) (zCo σ f c) w) w
theorem v_findLoud {σ : zHp} (hL : zIL σ) (hH : zIH σ) (hp : ∀ k : Int, 0 ≤ k → σ 42 k = 0 ∨ σ 42 k = 1) {b c w : Int} (hb : 0 ≤ b ∧ b < 7) (hf : 0 ≤ σ 45 b ∧ σ 45 b < σ 1 2) (hc : 0 ≤ c ∧ c < σ 1 2) (hw : 0 ≤ w ∧ w ≤ 39) :
    m_X9_findLoud [37, b, c, w] σ = some (0, zput (zput σ 37 18 (zPu σ (σ 44 b) (σ 45 b) c w)) 37 19 (zQd σ (σ 44 b) (σ 45 b) c w)) := by
  generalize hfe : σ 45 b = f at *
  generalize hke : σ 44 b = kd at *
  have nN := zN_eq hL
  obtain ⟨d0, d1, -⟩ := zFar_d hL (kind := kd) hf hc
  obtain ⟨l1, l2, l3, l4, l5, l6, l7, l8, l9, l10, l11⟩ := zLen_i hL hf hc
  have rf := zRC hL hf
  have rc := zRC hL hc
  have u := zU_b kd
  have W6 : σ 37 6 = σ 1 1 := hL.2.2.1
  have m1 := zmul_i (x := zRo σ f c) (y := zRo σ f c) 4 4 (by omega) (by omega)
  have m2 := zmul_i (x := zCo σ f c) (y := zCo σ f c) 5 5 (by omega) (by omega)
  have e1 : o_imul (zRo σ f c) (zRo σ f c) = zRo σ f c * zRo σ f c := w32_id ⟨by omega, by omega⟩
  have e2 : o_imul (zCo σ f c) (zCo σ f c) = zCo σ f c * zCo σ f c := w32_id ⟨by omega, by omega⟩
  have e3 : o_iadd (zRo σ f c * zRo σ f c) (zCo σ f c * zCo σ f c) = zFar σ f c := w32_id ⟨by omega, by omega⟩
  generalize hS : (fun k : Nat => zput (zput σ 37 18 (zU kd)) 37 19 ((zU kd + zFar σ f c) * zDim σ kd f c k)) = S
  have hl := zl_seq (c := lc_X9_findLoud_1) (f := lf_X9_findLoud_1) (s := ls_X9_findLoud_1) (fun k => [37, b, c, w, f / σ 1 1, f % σ 1 1, zRo σ f c, zCo σ f c, zFar σ f c, zLen σ f c, ((k + 1 : Nat) : Int), 0, 0]) S (zLen σ f c - 1).toNat
    (fun k hk => by
      have : ((k + 1 : Nat) : Int) < zLen σ f c := by omega
      simp only [lc_X9_findLoud_1, xC_e, xL_e, xU_e, xB_e, xD_e, xF_e, xG_e, xA_e, xE_e, xH_e, xI_e, xZ_e, xK_e, aN_e, aC_e, cR_e, cV_e, cA_e, cO_e, cN_e, bs_e, bn_e, zg_0, zg_S, sS_e, sX_e, sF_e, sG_e, sA_e, sE_e, sEo_e, sK_e, sQ_e, sI_e, sR_e, sV_e, sB_e, sC_e, sD_e, sN_e, sP_e, sY_e, st_0, st_S, zc_0, zc_S, r_lt]
      rw [decide_eq_true this])
    (fun k hk => by
      have k1 : 1 ≤ ((k + 1 : Nat) : Int) ∧ ((k + 1 : Nat) : Int) < zLen σ f c := by omega
      refine ⟨0, [37, b, c, w, f / σ 1 1, f % σ 1 1, zRo σ f c, zCo σ f c, zFar σ f c, zLen σ f c, ((k + 1 : Nat) : Int), 0, 0], S (k + 1), ?_, Or.inl rfl, ?_⟩
      · have Se : ∀ x y, x ≠ 37 → S k x y = σ x y := fun x y q => by rw [← hS]; show zput (zput σ 37 18 _) 37 19 _ x y = _; rw [zput_o q, zput_o q]
        have S6 : S k 37 6 = σ 1 1 := by rw [← hS, ← W6]; show zput (zput σ 37 18 _) 37 19 _ 37 6 = _; rw [zput_i (by decide), zput_i (by decide)]
        have S19 : S k 37 19 = (zU kd + zFar σ f c) * zDim σ kd f c k := by rw [← hS]; exact zput_self _ _ _ _
        obtain ⟨b1, b2, b3, b4⟩ := zBt_i hL hf hc k1
        have bl := zBt_lt hL hf hc k1
        have a1 : o_iadd (f / σ 1 1) (zOn (zRo σ f c) ((k + 1 : Nat) : Int) (zLen σ f c)) = f / σ 1 1 + zOn (zRo σ f c) ((k + 1 : Nat) : Int) (zLen σ f c) := w32_id ⟨by omega, by omega⟩
        have bm := zmul_i (x := σ 1 1) (y := f / σ 1 1 + zOn (zRo σ f c) ((k + 1 : Nat) : Int) (zLen σ f c)) 6 5 (by omega) (by omega)
        have a2 : o_imul (σ 1 1) (f / σ 1 1 + zOn (zRo σ f c) ((k + 1 : Nat) : Int) (zLen σ f c)) = σ 1 1 * (f / σ 1 1 + zOn (zRo σ f c) ((k + 1 : Nat) : Int) (zLen σ f c)) := w32_id ⟨by omega, by omega⟩
        have a3 : o_iadd (σ 1 1 * (f / σ 1 1 + zOn (zRo σ f c) ((k + 1 : Nat) : Int) (zLen σ f c))) (f % σ 1 1) = σ 1 1 * (f / σ 1 1 + zOn (zRo σ f c) ((k + 1 : Nat) : Int) (zLen σ f c)) + f % σ 1 1 := w32_id ⟨by omega, by omega⟩
        have a4 : o_iadd (σ 1 1 * (f / σ 1 1 + zOn (zRo σ f c) ((k + 1 : Nat) : Int) (zLen σ f c)) + f % σ 1 1) (zOn (zCo σ f c) ((k + 1 : Nat) : Int) (zLen σ f c)) = zBt σ f c ((k + 1 : Nat) : Int) := by
          show w32 (zBt σ f c ((k + 1 : Nat) : Int)) = _
          exact w32_id ⟨by omega, by omega⟩
        have body := v_findBody (σ := σ) (τ := S k) (w := w) (row := f / σ 1 1) (col := f % σ 1 1) (far := zFar σ f c) hb (f := f) (kd := kd) (c := c) (bt := zBt σ f c ((k + 1 : Nat) : Int)) (by omega) (by omega) (by omega) (by rw [Se _ _ (by decide)]; exact hfe) (by rw [Se _ _ (by decide)]; exact hke) (by rw [Se _ _ (by decide)]; exact (hH f hf.1 hf.2).2.2.1) (by rw [Se _ _ (by decide)]; exact (hH c hc.1 hc.2).2.2.1) (by rw [Se _ _ (by decide)]; exact (hH _ bl.1 bl.2).2.2.1) (Se _ _ (by decide)) (hp _ bl.1) (v_onTo l6 l7 l8 k1.1 k1.2 (S k)) (v_onTo l6 l9 l10 k1.1 k1.2 (S k)) (by rw [S6, a1, a2, a3, a4])
        rw [body, S19]
        have x1 := zDim_b σ kd f c k (by omega)
        have y1 := zM1_b σ kd f c (zBt σ f c ((k + 1 : Nat) : Int))
        have y2 := zM2_b σ (zBt σ f c ((k + 1 : Nat) : Int))
        have z1 := zmul_i (x := zU kd + zFar σ f c) (y := zDim σ kd f c k) 43 256 (by omega) (by omega)
        have z2 := zmul_i (x := (zU kd + zFar σ f c) * zDim σ kd f c k) (y := zM1 σ kd f c (zBt σ f c ((k + 1 : Nat) : Int))) 11008 2 (by omega) (by omega)
        have z3 := zmul_i (x := (zU kd + zFar σ f c) * zDim σ kd f c k * zM1 σ kd f c (zBt σ f c ((k + 1 : Nat) : Int))) (y := zM2 σ (zBt σ f c ((k + 1 : Nat) : Int))) 22016 2 (by omega) (by omega)
        have o1 : o_lmul ((zU kd + zFar σ f c) * zDim σ kd f c k) (zM1 σ kd f c (zBt σ f c ((k + 1 : Nat) : Int))) = (zU kd + zFar σ f c) * zDim σ kd f c k * zM1 σ kd f c (zBt σ f c ((k + 1 : Nat) : Int)) := w64_id ⟨by omega, by omega⟩
        have o2 : o_lmul ((zU kd + zFar σ f c) * zDim σ kd f c k * zM1 σ kd f c (zBt σ f c ((k + 1 : Nat) : Int))) (zM2 σ (zBt σ f c ((k + 1 : Nat) : Int))) = (zU kd + zFar σ f c) * zDim σ kd f c (k + 1) := by
          rw [zDim_S, ← Int.mul_assoc, ← Int.mul_assoc]
          exact w64_id ⟨by omega, by omega⟩
        rw [o1, o2, ← hS]
        show some (0, _, zput (zput (zput σ 37 18 (zU kd)) 37 19 _) 37 19 _) = _
        rw [zput_put]
      · have e := zinc (k := k + 1) (by omega)
        generalize ((k + 1 : Nat) : Int) = kk at e ⊢
        simp only [ls_X9_findLoud_1, xC_e, xL_e, xU_e, xB_e, xD_e, xF_e, xG_e, xA_e, xE_e, xH_e, xI_e, xZ_e, xK_e, aN_e, aC_e, cR_e, cV_e, cA_e, cO_e, cN_e, bs_e, bn_e, zg_0, zg_S, sS_e, sX_e, sF_e, sG_e, sA_e, sE_e, sEo_e, sK_e, sQ_e, sI_e, sR_e, sV_e, sB_e, sC_e, sD_e, sN_e, sP_e, sY_e, st_0, st_S, zc_0, zc_S, e])
    (by
      have q : ¬ ((((zLen σ f c - 1).toNat + 1 : Nat) : Int) < zLen σ f c) := by omega
      simp only [lc_X9_findLoud_1, xC_e, xL_e, xU_e, xB_e, xD_e, xF_e, xG_e, xA_e, xE_e, xH_e, xI_e, xZ_e, xK_e, aN_e, aC_e, cR_e, cV_e, cA_e, cO_e, cN_e, bs_e, bn_e, zg_0, zg_S, sS_e, sX_e, sF_e, sG_e, sA_e, sE_e, sEo_e, sK_e, sQ_e, sI_e, sR_e, sV_e, sB_e, sC_e, sD_e, sN_e, sP_e, sY_e, st_0, st_S, zc_0, zc_S, r_lt]
      rw [decide_eq_false q])
    (zf_lt (by omega))
  have S0 : S 0 = zput (zput σ 37 18 (zU kd)) 37 19 (zU kd + zFar σ f c) := by
    rw [← hS]
    show zput (zput σ 37 18 (zU kd)) 37 19 ((zU kd + zFar σ f c) * 1) = _
    rw [Int.mul_one]
  have Sn : S (zLen σ f c - 1).toNat = zput (zput σ 37 18 (zU kd)) 37 19 (zDn σ kd f c) := by rw [← hS]; rfl
  rw [Sn] at hl
  have hl2 : sW lc_X9_findLoud_1 lf_X9_findLoud_1 ls_X9_findLoud_1 [37, b, c, w, f / σ 1 1, f % σ 1 1, zRo σ f c, zCo σ f c, zFar σ f c, zLen σ f c, 1, 0, 0] (S 0) = some (0, [37, b, c, w, f / σ 1 1, f % σ 1 1, zRo σ f c, zCo σ f c, zFar σ f c, zLen σ f c, (((zLen σ f c - 1).toNat + 1 : Nat) : Int), 0, 0], zput (zput σ 37 18 (zU kd)) 37 19 (zDn σ kd f c)) := hl
  rw [S0] at hl2
  clear hl hS S0 Sn
  have db := zDn_b hL (kind := kd) hf hc
  have wb := zWud_b (a := zAl (zRo σ f c) (zCo σ f c) w) hw
  have ev := v_findEval (σ := σ) (w := w) (f := f) (W := σ 1 1) (row := f / σ 1 1) (col := f % σ 1 1) (cr := c / σ 1 1) (cc := c % σ 1 1) (U := zU kd) (D1 := zDn σ kd f c) hb hfe hke W6 (by omega) (zdiv_e (by omega) (by omega)) (zmod_e (by omega)) (zdiv_e (by omega) (by omega)) (zmod_e (by omega)) (dr := zRo σ f c) (w32_id ⟨by omega, by omega⟩) (dc := zCo σ f c) (w32_id ⟨by omega, by omega⟩) (by rw [e1, e2, e3]) rfl (D0 := zU kd + zFar σ f c) (w64_id ⟨by omega, by omega⟩)
    (v_size (by omega)) (v_size (by omega)) (n := zLen σ f c) (by unfold zLen; split <;> omega) hl2 (a := zAl (zRo σ f c) (zCo σ f c) w) (fun τ => by rw [zdiv_e (by omega) (by decide)]; exact v_along (by omega) (by omega) hw τ)
  rw [ev]
  have i1 : o_iadd 10 (zmod w 10) = 10 + w % 10 := by
    rw [zmod_e hw.1]
    exact w32_id ⟨by omega, by omega⟩
  unfold zPu zQd zWu zWd
  rw [i1]
  generalize zAl (zRo σ f c) (zCo σ f c) w = a at *
  by_cases p : 0 < a
  · have k1 := zmul_i (x := zU kd) (y := 10 + w % 10) 2 19 (by omega) (by omega)
    have o1 : o_lmul (zU kd) (10 + w % 10) = zU kd * (10 + w % 10) := w64_id ⟨by omega, by omega⟩
    have o2 : o_lmul (zDn σ kd f c) 10 = zDn σ kd f c * 10 := w64_id ⟨by omega, by omega⟩
    rw [if_pos p, if_pos p, if_pos p, o1, o2]
  · by_cases p2 : a < 0
    · have k1 := zmul_i (x := zDn σ kd f c) (y := 10 + w % 10) 11008 19 (by omega) (by omega)
      have o1 : o_lmul (zU kd) 10 = zU kd * 10 := w64_id ⟨by omega, by omega⟩
      have o2 : o_lmul (zDn σ kd f c) (10 + w % 10) = zDn σ kd f c * (10 + w % 10) := w64_id ⟨by omega, by omega⟩
      rw [if_neg p, if_neg p, if_neg p, if_pos p2, if_pos p2, if_pos p2, o1, o2]
    · rw [if_neg p, if_neg p, if_neg p, if_neg p2, if_neg p2, if_neg p2, Int.mul_one, Int.mul_one]
