theorem zPQ_b {σ : zHp} (hL : zIL σ) {kd f c w : Int} (hf : 0 ≤ f ∧ f < σ 1 2) (hc : 0 ≤ c ∧ c < σ 1 2) (hw : 0 ≤ w ∧ w ≤ 39) : 1 ≤ zPu σ kd f c w ∧ zPu σ kd f c w ≤ 38 ∧ 1 ≤ zQd σ kd f c w ∧ zQd σ kd f c w ≤ 209152 := by
  have db := zDn_b hL (kind := kd) hf hc
  have u := zU_b kd
  have wb := zWud_b (a := zAl (zRo σ f c) (zCo σ f c) w) hw
  unfold zPu zQd
  generalize zAl (zRo σ f c) (zCo σ f c) w = a at *
  generalize zWu a w = x at *
  generalize zWd a w = y at *
  generalize zDn σ kd f c = d at *
  generalize zU kd = v at *
  have h1 : 1 * 1 ≤ v * x := Int.mul_le_mul (by omega) (by omega) (by omega) (by omega)
  have h2 : v * x ≤ 2 * 19 := Int.mul_le_mul (by omega) (by omega) (by omega) (by omega)
  have h3 : 1 * 1 ≤ d * y := Int.mul_le_mul (by omega) (by omega) (by omega) (by omega)
  have h4 : d * y ≤ 11008 * 19 := Int.mul_le_mul (by omega) (by omega) (by omega) (by omega)
  omega
