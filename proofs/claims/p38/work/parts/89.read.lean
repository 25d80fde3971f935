/-! land is read: the reference -/
theorem zGo_p {V : Nat → Int} {r : Nat} (hr : r < zHi V) {j : Nat} (hj : j ≤ zWi V) : 3 + r * (zWi V + 1) + j < 3 + zHi V * (1 + zWi V) ∧ (3 + r * (zWi V + 1) + j - 3) % (1 + zWi V) = j := by
  have m1 : (r + 1) * (zWi V + 1) ≤ zHi V * (zWi V + 1) := Nat.mul_le_mul_right _ hr
  have m2 : (r + 1) * (zWi V + 1) = r * (zWi V + 1) + (zWi V + 1) := Nat.succ_mul _ _
  have m3 : zHi V * (1 + zWi V) = zHi V * (zWi V + 1) := by rw [Nat.add_comm]
  constructor
  · rw [m3]
    generalize zHi V * (zWi V + 1) = z1 at *
    generalize (r + 1) * (zWi V + 1) = z2 at *
    generalize r * (zWi V + 1) = z3 at *
    omega
  · have e : 3 + r * (zWi V + 1) + j - 3 = (1 + zWi V) * r + j := by
      rw [Nat.mul_comm (1 + zWi V) r, Nat.add_comm 1 (zWi V)]
      generalize r * (zWi V + 1) = z3
      omega
    rw [e]
    exact (zdm (by omega)).2
theorem zGo_s {V : Nat → Int} {r : Nat} (hr : r < zHi V) : zGo V (3 + r * (zWi V + 1)) = decide (V (3 + r * (zWi V + 1)) = 59) := by
  have h := zGo_p hr (j := 0) (Nat.zero_le _)
  rw [Nat.add_zero] at h
  rw [zGo3 (Nat.le_add_right _ _), decide_eq_true h.1, Bool.true_and, if_pos h.2]
theorem zGo_d {V : Nat → Int} {r k : Nat} (hr : r < zHi V) (hk : k < zWi V) : zGo V (3 + r * (zWi V + 1) + 1 + k) = decide (48 ≤ V (3 + r * (zWi V + 1) + 1 + k) ∧ V (3 + r * (zWi V + 1) + 1 + k) ≤ 57) := by
  have h := zGo_p hr (j := 1 + k) (by omega)
  rw [← Nat.add_assoc] at h
  have n0 : ¬ 1 + k = 0 := by omega
  rw [zGo3 (by generalize r * (zWi V + 1) = z; omega), decide_eq_true h.1, Bool.true_and, h.2, if_neg n0]
theorem zGo_e (V : Nat → Int) : zGo V (3 + zHi V * (1 + zWi V)) = false := by
  rw [zGo3 (Nat.le_add_right _ _), decide_eq_false (Nat.lt_irrefl _), Bool.false_and]
