/-! comparing: grains on one side, fractions on the other -/
theorem zsgn {K X Y Z : Int} (hK : 0 < K) (hZ : 0 < Z) (h : K * X = Y * Z) : (0 < X ↔ 0 < Y) ∧ (X = 0 ↔ Y = 0) := by
  rcases Int.lt_trichotomy X 0 with x | x | x
  · have k1 : K * X < 0 := Int.mul_neg_of_pos_of_neg hK x
    have y : Y < 0 := by
      rcases Int.lt_or_le Y 0 with y | y
      · exact y
      · have := Int.mul_nonneg y (show 0 ≤ Z by omega)
        omega
    omega
  · subst x
    rw [Int.mul_zero] at h
    have y : Y = 0 := by
      rcases Int.mul_eq_zero.mp h.symm with y | y
      · exact y
      · omega
    omega
  · have k1 : 0 < K * X := Int.mul_pos hK x
    have y : 0 < Y := by
      rcases Int.lt_or_le 0 Y with y | y
      · exact y
      · have := Int.mul_nonneg (show 0 ≤ -Y by omega) (show 0 ≤ Z by omega)
        rw [Int.neg_mul] at this
        omega
    omega
theorem zcmp {K wa wb Ga Gb Pa Pb Qa Qb : Int} (hK : 0 < K) (hqa : 0 < Qa) (hqb : 0 < Qb) (ha : Ga * Qa = K * Pa) (hb : Gb * Qb = K * Pb) : (0 < wa * Pa * Qb - wb * Pb * Qa ↔ 0 < wa * Ga - wb * Gb) ∧ (wa * Pa * Qb - wb * Pb * Qa = 0 ↔ wa * Ga - wb * Gb = 0) := by
  refine zsgn hK (Int.mul_pos hqa hqb) ?_
  have e1 : K * (wa * Pa * Qb) = wa * Ga * (Qa * Qb) := by
    calc K * (wa * Pa * Qb) = wa * (K * Pa) * Qb := by ac_rfl
      _ = wa * (Ga * Qa) * Qb := by rw [ha]
      _ = wa * Ga * (Qa * Qb) := by ac_rfl
  have e2 : K * (wb * Pb * Qa) = wb * Gb * (Qa * Qb) := by
    calc K * (wb * Pb * Qa) = wb * (K * Pb) * Qa := by ac_rfl
      _ = wb * (Gb * Qb) * Qa := by rw [hb]
      _ = wb * Gb * (Qa * Qb) := by ac_rfl
  rw [Int.mul_sub, Int.sub_mul, e1, e2]
/-- heard: 10 times on the one side, faint on the other -/
theorem zhear {one s ear w G P Q : Int} (h1 : 0 < one) (hs : 0 < s) (hq : 0 < Q) (h : G * Q = one * 10 * s * P) : ear * Q ≤ 10 * w * P ↔ ear * one * s ≤ w * G := by
  have k := zsgn (K := one * s) (X := 10 * w * P - ear * Q + 1 - 1) (Y := w * G - ear * one * s) (Z := Q) (Int.mul_pos h1 hs) hq (by
    rw [Int.add_sub_cancel, Int.mul_sub, Int.sub_mul]
    have e1 : one * s * (10 * w * P) = w * G * Q := by
      calc one * s * (10 * w * P) = w * (one * 10 * s * P) := by ac_rfl
        _ = w * (G * Q) := by rw [h]
        _ = w * G * Q := by ac_rfl
    have e2 : one * s * (ear * Q) = ear * one * s * Q := by ac_rfl
    rw [e1, e2])
  omega
