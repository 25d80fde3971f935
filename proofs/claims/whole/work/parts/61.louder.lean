theorem zPQ_b {σ : zHp} (hL : zIL σ) {kd f c w : Int} (hf : 0 ≤ f ∧ f < σ 1 2) (hc : 0 ≤ c ∧ c < σ 1 2) (hw : 0 ≤ w ∧ w ≤ 39) : 1 ≤ zPu σ kd f c w ∧ zPu σ kd f c w ≤ 38 ∧ 1 ≤ zQd σ kd f c w ∧ zQd σ kd f c w ≤ 209152 := by
  have db := zDn_b hL (kind := kd) hf hc
  have u := zU_b kd
  have wb := zWud_b (a := zAl (zRo σ f c) (zCo σ f c) w) hw
  unfold zPu zQd
  generalize zAl (zRo σ f c) (zCo σ f c) w = a at *
  generalize zWu a w = x at *
  generalize zWd a w = y at *
  generalize zDn σ kd f c = d at *
  generalize zU kd = v at *
  have h1 : 1 * 1 ≤ v * x := Int.mul_le_mul (by omega) (by omega) (by omega) (by omega)
  have h2 : v * x ≤ 2 * 19 := Int.mul_le_mul (by omega) (by omega) (by omega) (by omega)
  have h3 : 1 * 1 ≤ d * y := Int.mul_le_mul (by omega) (by omega) (by omega) (by omega)
  have h4 : d * y ≤ 11008 * 19 := Int.mul_le_mul (by omega) (by omega) (by omega) (by omega)
  omega
theorem v_louderBy {τ : zHp} {a b c wa wb pa pb qa qb : Int} (ha : 0 ≤ a ∧ a < 7) (hb : 0 ≤ b ∧ b < 7) (hc : 0 ≤ c ∧ c < 30) (e1 : τ 46 a = wa) (e2 : τ 46 b = wb) (e3 : τ 47 (30 * a + c) = pa) (e4 : τ 47 (30 * b + c) = pb) (e5 : τ 48 (30 * a + c) = qa) (e6 : τ 48 (30 * b + c) = qb)
    (w1 : 0 ≤ wa ∧ wa ≤ 99) (w2 : 0 ≤ wb ∧ wb ≤ 99) (p1 : 1 ≤ pa ∧ pa ≤ 38) (p2 : 1 ≤ pb ∧ pb ≤ 38) (q1 : 1 ≤ qa ∧ qa ≤ 209152) (q2 : 1 ≤ qb ∧ qb ≤ 209152) : m_X9_louderBy [37, a, b, c] τ = some (wa * pa * qb - wb * pb * qa, τ) := by
  have z1 := (z30 ha hc).2
  have z2 := (z30 hb hc).2
  have i1 : 0 ≤ 30 * a + c ∧ 30 * a + c < 210 := by omega
  have i2 : 0 ≤ 30 * b + c ∧ 30 * b + c < 210 := by omega
  have k1 := zmul_i (x := wa) (y := pa) 99 38 (by omega) (by omega)
  have k2 := zmul_i (x := wa * pa) (y := qb) 3762 209152 (by omega) (by omega)
  have k3 := zmul_i (x := wb) (y := pb) 99 38 (by omega) (by omega)
  have k4 := zmul_i (x := wb * pb) (y := qa) 3762 209152 (by omega) (by omega)
  have o1 : o_lmul wa pa = wa * pa := w64_id ⟨by omega, by omega⟩
  have o2 : o_lmul (wa * pa) qb = wa * pa * qb := w64_id ⟨by omega, by omega⟩
  have o3 : o_lmul wb pb = wb * pb := w64_id ⟨by omega, by omega⟩
  have o4 : o_lmul (wb * pb) qa = wb * pb * qa := w64_id ⟨by omega, by omega⟩
  have o5 : o_lsub (wa * pa * qb) (wb * pb * qa) = wa * pa * qb - wb * pb * qa := w64_id ⟨by omega, by omega⟩
  simp [e_X9_louderBy, d_X9_louderBy, xC_e, xL_e, xU_e, xB_e, xD_e, xF_e, xG_e, xA_e, xE_e, xH_e, xI_e, xZ_e, xK_e, aN_e, aC_e, cR_e, cV_e, cA_e, cO_e, cN_e, bs_e, bn_e, zg_0, zg_S, sS_e, sX_e, sF_e, sG_e, sA_e, sE_e, sEo_e, sK_e, sQ_e, sI_e, sR_e, sV_e, sB_e, sC_e, sD_e, sN_e, sP_e, sY_e, st_0, st_S, zc_0, zc_S, ha, hb, z1, z2, i1, i2, e1, e2, e3, e4, e5, e6, o1, o2, o3, o4, o5]
theorem v_isHeard {τ : zHp} {a c wa pa qa ear : Int} (ha : 0 ≤ a ∧ a < 7) (hc : 0 ≤ c ∧ c < 30) (e1 : τ 46 a = wa) (e3 : τ 47 (30 * a + c) = pa) (e5 : τ 48 (30 * a + c) = qa) (e7 : τ 37 7 = ear)
    (w1 : 0 ≤ wa ∧ wa ≤ 99) (p1 : 1 ≤ pa ∧ pa ≤ 38) (q1 : 1 ≤ qa ∧ qa ≤ 209152) (h7 : 0 ≤ ear ∧ ear ≤ 99) : m_X9_isHeard [37, a, c] τ = some (if ear * qa ≤ 10 * wa * pa then 1 else 0, τ) := by
  have z1 := (z30 ha hc).2
  have i1 : 0 ≤ 30 * a + c ∧ 30 * a + c < 210 := by omega
  have o0 : o_lmul 10 wa = 10 * wa := w64_id ⟨by omega, by omega⟩
  have k1 := zmul_i (x := 10 * wa) (y := pa) 990 38 (by omega) (by omega)
  have k2 := zmul_i (x := ear) (y := qa) 99 209152 (by omega) (by omega)
  have o1 : o_lmul (10 * wa) pa = 10 * wa * pa := w64_id ⟨by omega, by omega⟩
  have o2 : o_lmul ear qa = ear * qa := w64_id ⟨by omega, by omega⟩
  by_cases q : ear * qa ≤ 10 * wa * pa <;> simp [e_X9_isHeard, d_X9_isHeard, xC_e, xL_e, xU_e, xB_e, xD_e, xF_e, xG_e, xA_e, xE_e, xH_e, xI_e, xZ_e, xK_e, aN_e, aC_e, cR_e, cV_e, cA_e, cO_e, cN_e, bs_e, bn_e, zg_0, zg_S, sS_e, sX_e, sF_e, sG_e, sA_e, sE_e, sEo_e, sK_e, sQ_e, sI_e, sR_e, sV_e, sB_e, sC_e, sD_e, sN_e, sP_e, sY_e, st_0, st_S, zc_0, zc_S, r_eq, r_ne, r_lt, r_le, r_gt, r_ge, rb_ite, rb_0, rb_1, ha, z1, i1, e1, e3, e5, e7, o0, o1, o2, q]
