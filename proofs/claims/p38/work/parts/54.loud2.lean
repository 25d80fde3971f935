theorem zDim_b (σ : zHp) (kind f t : Int) (n : Nat) (hn : n ≤ 4) : 1 ≤ zDim σ kind f t n ∧ zDim σ kind f t n ≤ 256 := by
  rw [zDim_p]
  have c1 := zcn_le (zPn σ f t) n
  have c2 := zcn_le (zHl σ kind f t) n
  have hm : zcn (zPn σ f t) n + zcn (zHl σ kind f t) n ≤ 8 := by omega
  generalize zcn (zPn σ f t) n + zcn (zHl σ kind f t) n = m at *
  have h1 : 0 < 2 ^ m := Nat.pow_pos (by decide)
  have h2 : 2 ^ m ≤ 2 ^ 8 := Nat.pow_le_pow_right (by decide) (by omega)
  omega
theorem zU_b (k : Int) : 1 ≤ zU k ∧ zU k ≤ 2 := by unfold zU; split <;> omega
theorem zDn_b {σ : zHp} (hL : zIL σ) {kind f t : Int} (hf : 0 ≤ f ∧ f < σ 1 2) (ht : 0 ≤ t ∧ t < σ 1 2) : 1 ≤ zDn σ kind f t ∧ zDn σ kind f t ≤ 11008 := by
  obtain ⟨d0, d1, -⟩ := zFar_d hL (kind := kind) hf ht
  obtain ⟨l1, l2, l3, l4, l5, l6, -⟩ := zLen_i hL hf ht
  have b := zDim_b σ kind f t (zLen σ f t - 1).toNat (by omega)
  have u := zU_b kind
  unfold zDn
  generalize zDim σ kind f t (zLen σ f t - 1).toNat = x at *
  have h1 : 1 * 1 ≤ (zU kind + zFar σ f t) * x := Int.mul_le_mul (by omega) b.1 (by omega) (by omega)
  have h2 : (zU kind + zFar σ f t) * x ≤ 43 * 256 := Int.mul_le_mul (by omega) b.2 (by omega) (by omega)
  omega
theorem zDim_S (σ : zHp) (kind f t : Int) (k : Nat) : zDim σ kind f t (k + 1) = zDim σ kind f t k * (zM1 σ kind f t (zBt σ f t ((k + 1 : Nat) : Int)) * zM2 σ (zBt σ f t ((k + 1 : Nat) : Int))) := rfl
theorem zM1_b (σ : zHp) (a b c d : Int) : 1 ≤ zM1 σ a b c d ∧ zM1 σ a b c d ≤ 2 := by unfold zM1; split <;> omega
theorem zM2_b (σ : zHp) (d : Int) : 1 ≤ zM2 σ d ∧ zM2 σ d ≤ 2 := by unfold zM2; split <;> omega
theorem zWud_b {a w : Int} (hw : 0 ≤ w ∧ w ≤ 39) : 1 ≤ zWu a w ∧ zWu a w ≤ 19 ∧ 1 ≤ zWd a w ∧ zWd a w ≤ 19 := by
  unfold zWu zWd
  split
  · omega
  · split <;> omega
def zPu (σ : zHp) (kd f c w : Int) : Int := zU kd * zWu (zAl (zRo σ f c) (zCo σ f c) w) w
def zQd (σ : zHp) (kd f c w : Int) : Int := zDn σ kd f c * zWd (zAl (zRo σ f c) (zCo σ f c) w) w
