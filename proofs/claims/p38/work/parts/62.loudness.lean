theorem zGr_b {σ : zHp} {v f c w : Int} (hv : 1 ≤ v ∧ v ≤ zONE) (hw : 0 ≤ w ∧ w ≤ 39) : 1 ≤ zGr σ v f c w ∧ zGr σ v f c w ≤ 21508378785653760 := by
  have k := zK_b (a := zAl (zRo σ f c) (zCo σ f c) w) hw
  have hv2 : v ≤ 59579996636160 := hv.2
  unfold zGr
  generalize zK (zAl (zRo σ f c) (zCo σ f c) w) w = x at *
  have h1 : 1 * 1 ≤ v * x := Int.mul_le_mul (by omega) (by omega) (by omega) (by omega)
  have h2 : v * x ≤ 59579996636160 * 361 := Int.mul_le_mul (by omega) (by omega) (by omega) (by omega)
  omega
theorem w_loudness {τ : zHp} {b c wb g : Int} (hb : 0 ≤ b ∧ b < 6) (hc : 0 ≤ c ∧ c < 30) (e1 : τ 9 b = wb) (e2 : τ 12 (30 * b + c) = g) (w1 : 0 ≤ wb ∧ wb ≤ 99) (g1 : 1 ≤ g ∧ g ≤ 21508378785653760) : m_X0_loudness [10, b, c] τ = some (wb * g, τ) := by
  have z1 := (z30 (b := b) (c := c) (by omega) hc).1
  have i1 : 0 ≤ 30 * b + c ∧ 30 * b + c < 180 := by omega
  have k1 := zmul_i (x := wb) (y := g) 99 21508378785653760 (by omega) (by omega)
  have o1 : o_lmul wb g = wb * g := w64_id ⟨by omega, by omega⟩
  simp [e_X0_loudness, d_X0_loudness, xC_e, xL_e, xU_e, xB_e, xD_e, xF_e, xG_e, xA_e, xE_e, xH_e, xI_e, xZ_e, xK_e, aN_e, aC_e, cR_e, cV_e, cA_e, cO_e, cN_e, bs_e, bn_e, zg_0, zg_S, sS_e, sX_e, sF_e, sG_e, sA_e, sE_e, sEo_e, sK_e, sQ_e, sI_e, sR_e, sV_e, sB_e, sC_e, sD_e, sN_e, st_0, st_S, zc_0, zc_S, hb, z1, i1, e1, e2, o1]
