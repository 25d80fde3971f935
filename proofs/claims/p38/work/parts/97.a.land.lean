/-! the law's text is a land -/
def qV (τ : zHp) (j : Nat) : Int := τ 30 (j : Int)
theorem qV_a (τ : zHp) (W r j : Nat) : qV τ (3 + r * (W + 1) + j) = τ 30 (qA W r + (j : Int)) := by
  have e : ((3 + r * (W + 1) + j : Nat) : Int) = qA W r + (j : Int) := by
    have : ((r * (W + 1) : Nat) : Int) = (r : Int) * ((W : Int) + 1) := by rw [Int.natCast_mul]; rfl
    unfold qA
    rw [← this]
    generalize r * (W + 1) = z
    omega
  unfold qV
  rw [e]
theorem qRow_at {W j H : Nat} (h3 : 3 ≤ j) (hj : j < 3 + H * (1 + W)) : (j - 3) / (W + 1) < H ∧ j = 3 + (j - 3) / (W + 1) * (W + 1) + (j - 3) % (W + 1) ∧ (j - 3) % (W + 1) < W + 1 := by
  have d := Nat.div_add_mod (j - 3) (W + 1)
  have m := Nat.mod_lt (j - 3) (show 0 < W + 1 by omega)
  refine ⟨?_, ?_, m⟩
  · rw [Nat.div_lt_iff_lt_mul (by omega), Nat.add_comm W 1]
    generalize H * (1 + W) = z at *
    omega
  · rw [Nat.mul_comm] at d
    generalize (j - 3) / (W + 1) * (W + 1) = z at *
    omega
theorem qGo {τ : zHp} {H W : Nat} (h5 : 2 ≤ H ∧ H ≤ 5) (h6 : 2 ≤ W ∧ W ≤ 6) (s30 : τ 30 0 = 103 ∧ τ 30 1 = 48 + H ∧ τ 30 2 = 48 + W) (hr : ∀ r, r < H → qRw τ (qA W r) (qB W r) W) : zHi (qV τ) = H ∧ zWi (qV τ) = W ∧ ∀ j, j < 3 + H * (1 + W) → zGo (qV τ) j = true := by
  have v0 : qV τ 0 = 103 := s30.1
  have v1 : qV τ 1 = 48 + H := s30.2.1
  have v2 : qV τ 2 = 48 + W := s30.2.2
  have eH : zHi (qV τ) = H := by unfold zHi; rw [v1]; omega
  have eW : zWi (qV τ) = W := by unfold zWi; rw [v2]; omega
  refine ⟨eH, eW, fun j hj => ?_⟩
  by_cases j3 : 3 ≤ j
  · obtain ⟨r1, r2, r3⟩ := qRow_at j3 hj
    generalize (j - 3) / (W + 1) = r at r1 r2
    generalize (j - 3) % (W + 1) = q at r2 r3
    have row := hr r r1
    rw [r2]
    by_cases q0 : q = 0
    · subst q0
      rw [Nat.add_zero]
      have := zGo_s (V := qV τ) (r := r) (by rw [eH]; exact r1)
      rw [eW] at this
      rw [this]
      have e := qV_a τ W r 0
      rw [Nat.add_zero] at e
      rw [e, show qA W r + ((0 : Nat) : Int) = qA W r by omega, row.1]
      rfl
    · obtain ⟨k, rfl⟩ : ∃ k, q = 1 + k := ⟨q - 1, by omega⟩
      have := zGo_d (V := qV τ) (r := r) (k := k) (by rw [eH]; exact r1) (by rw [eW]; omega)
      rw [eW] at this
      rw [← Nat.add_assoc, this, Nat.add_assoc, qV_a, show qA W r + ((1 + k : Nat) : Int) = qA W r + 1 + (k : Int) by omega]
      have c := row.2 (k : Int) (by omega) (by omega)
      rw [c.2]
      exact decide_eq_true ⟨by omega, by omega⟩
  · have : j = 0 ∨ j = 1 ∨ j = 2 := by omega
    rcases this with rfl | rfl | rfl
    · exact decide_eq_true v0
    · exact decide_eq_true (by rw [v1]; omega)
    · exact decide_eq_true (by rw [v2]; omega)
theorem qHt {τ : zHp} {H W : Nat} (hW : 2 ≤ W) (hr : ∀ r, r < H → qRw τ (qA W r) (qB W r) W) {c : Nat} (hc : c < H * W) : τ 37 (3 + (c : Int)) = zHt (qV τ) W c := by
  have d := Nat.div_add_mod c W
  have m := Nat.mod_lt c (show 0 < W by omega)
  have rH : c / W < H := by rw [Nat.div_lt_iff_lt_mul (by omega)]; exact hc
  have row := (hr _ rH).2 ((c % W : Nat) : Int) (by omega) (by omega)
  unfold zHt
  rw [show 4 + c / W * (W + 1) + c % W = 3 + c / W * (W + 1) + (1 + c % W) by generalize c / W * (W + 1) = z; omega, qV_a, show qA W (c / W) + ((1 + c % W : Nat) : Int) = qA W (c / W) + 1 + ((c % W : Nat) : Int) by omega, row.2]
  have e : qB W (c / W) + ((c % W : Nat) : Int) = 3 + (c : Int) := by
    have : ((W * (c / W) : Nat) : Int) = (W : Int) * ((c / W : Nat) : Int) := Int.natCast_mul _ _
    unfold qB
    rw [← this]
    generalize W * (c / W) = z at *
    omega
  rw [e]
  omega
theorem qA_n {H W : Nat} : qA W H = ((3 + H * (1 + W) : Nat) : Int) := by
  have : ((H * (1 + W) : Nat) : Int) = (H : Int) * ((W : Int) + 1) := by rw [Int.natCast_mul, Nat.add_comm]; rfl
  unfold qA
  rw [← this]
  generalize H * (1 + W) = z
  omega
theorem q_landed {τ : zHp} {H W : Nat} (ho : zOk τ) (hS : zIS τ) (h5 : 2 ≤ H ∧ H ≤ 5) (h6 : 2 ≤ W ∧ W ≤ 6) (s29 : τ 29 1 = 1 ∧ τ 29 2 = 0 ∧ τ 29 3 = 50) (s30 : τ 30 0 = 103 ∧ τ 30 1 = 48 + H ∧ τ 30 2 = 48 + W) (s37 : τ 37 0 = H ∧ τ 37 1 = W ∧ τ 37 2 = 10 ∧ τ 37 40 = 0 ∧ τ 37 41 = 0) (hr : ∀ r, r < H → qRw τ (qA W r) (qB W r) W) :
    ∃ A, m_X8_land [0, 0, 0, 0, qA W H] τ = some (((H * W : Nat) : Int), A) ∧ zInv A ∧ zGm A ∧ A 1 2 = ((H * W : Nat) : Int) ∧ A 1 3 = 0 ∧ A 6 0 = 0 ∧ A 10 2 = 10 ∧ (∀ a b : Int, ¬ (a = 0 ∧ b = 8) → a ≠ 1 → a ≠ 2 → a ≠ 3 → a ≠ 4 → a ≠ 5 → ¬ (a = 6 ∧ b = 0) → ¬ (a = 14 ∧ b = 2) → ¬ (a = 10 ∧ b = 2) → A a b = τ a b) := by
  obtain ⟨eH, eW, go⟩ := qGo h5 h6 s30 hr
  have n35 : 3 + H * (1 + W) ≤ 50 := by
    have := Nat.mul_le_mul h5.2 (show 1 + W ≤ 7 by omega)
    generalize H * (1 + W) = z at *
    omega
  have n3 : 2 < 3 + H * (1 + W) := by
    have := Nat.mul_le_mul h5.1 (show 1 ≤ 1 + W by omega)
    generalize H * (1 + W) = z at *
    omega
  have en : (qA W H) = ((3 + H * (1 + W) : Nat) : Int) := qA_n
  generalize hn : 3 + H * (1 + W) = n at *
  rw [en]
  have fr : m_X6_faultOfRow [29 + 2 * 0, 0, 0, (n : Int)] (zput τ 0 8 0) = some (0, zput τ 0 8 0) := by
    have e : ∀ k, zput τ 0 8 0 29 k = τ 29 k := fun k => zput_o (by decide) k
    have := w_faultOfRow (σ := zput τ 0 8 0) (o := 29) (so := 0) (i := 0) (n := (n : Int)) (by rw [e, s29.2.2]; decide)
    rw [e, e, e, s29.1, s29.2.1, s29.2.2, if_neg (by decide), if_pos rfl, if_neg (by omega), if_pos ⟨by decide, by omega, by decide, by omega⟩] at this
    exact this
  obtain ⟨q, q1, q2⟩ := w_fft (σ := zput τ 0 8 0) (o := 30) (i := 0) (n := n) (V := qV τ) (fun k hk => ⟨by rw [zput_o (by decide), Int.zero_add]; rfl, ho.1 30 k⟩) ⟨by decide, by omega⟩
  have qn : q = n := by
    rcases Nat.lt_trichotomy q n with z | z | z
    · exact absurd ⟨z, go q z⟩ q1.2
    · exact z
    · exact absurd (q1.1 n z).1 (Nat.lt_irrefl _)
  rw [if_pos ⟨qn, n3, by rw [eH, eW, hn]⟩] at q2
  obtain ⟨υ, t1, t2, t3⟩ := w_tk (σ := zput τ 0 8 0) (o := 30) (i := 0) (n := n) (V := qV τ) (by decide) (fun k hk => by rw [zput_o (by decide), Int.zero_add]; rfl) ⟨by decide, by omega⟩ (by rw [eH, eW, hn]) go
  rw [eH, eW] at t2 t3
  rw [Nat.mul_comm W H] at t2 t3
  have hl := w_ldEv (s := 0) (so := 0) (i := 0) (n := (n : Int)) (by decide) (by decide) fr q2 t1
  have hA := zLA_of t2
  have C30 : H * W ≤ 30 := Nat.mul_le_mul h5.2 h6.2
  have oA := zOk_of k_X8_land ho hl ⟨zthis, z32_00, z32_00, z32_00, ⟨by omega, by omega⟩, trivial⟩
  have e12 : υ 1 2 = ((H * W : Nat) : Int) := by
    have := hA.2.2.1.2.2.1
    rw [zput_o (by decide), zput_o (by decide), zput_o (by decide)] at this
    exact this
  rw [e12] at hl
  generalize zput (zput (zput υ 6 0 0) 14 2 0) 10 2 10 = A at hl hA oA
  have hI := zLd_inv hS oA hA h5 h6 C30 (Int.natCast_mul _ _) t3
  obtain ⟨eA, A08, ⟨A10, A11, A12, A13⟩, A60, A142, A102, A24, A5⟩ := hA
  have e37 : ∀ k, A 37 k = τ 37 k := fun k => eA 37 k (fun q => absurd q.1 (by decide)) (by decide) (by decide) (by decide) (by decide) (by decide) (fun q => absurd q.1 (by decide)) (fun q => absurd q.1 (by decide)) (fun q => absurd q.1 (by decide))
  refine ⟨A, hl, hI, ⟨by rw [e37, s37.1, A10], by rw [e37, s37.2.1, A11], fun c c0 c1 => ?_, by rw [e37, s37.2.2.2.1, A13]⟩, A12, A13, A60, A102, eA⟩
  rw [A12] at c1
  obtain ⟨m, rfl⟩ : ∃ m : Nat, c = (m : Int) := ⟨c.toNat, (Int.toNat_of_nonneg c0).symm⟩
  have mC : m < H * W := Int.ofNat_lt.mp c1
  rw [e37, (A24 m mC).1]
  exact qHt h6.1 hr mC
