/-! the rows of the text -/
theorem q_putRows {L : Nat} {xs : Nat → Int32} {s5 : zHp} {x4 : Int} {H W : Nat} (h5 : H ≤ 5) (h6 : W ≤ 6) (w1 : s5 29 1 = 1) (w2 : s5 29 2 = 0) (w3 : s5 29 3 = 50) (g0 : s5 37 0 = H) (g1 : s5 37 1 = W) :
    ∃ τ, sW (lc_L_put_2 L xs) (lf_L_put_2 L xs) (ls_L_put_2 L xs) [0, 0, 0, 37, x4, qA W 0, 0, 0, 0] s5 = some (0, [0, 0, 0, 37, x4, qA W H, 0 + (H : Int), 0, 0], τ) ∧ qPb s5 τ ∧ ∀ r, r < H → qRw τ (qA W r) (qB W r) W := by
  exact zfor0 (c := lc_L_put_2 L xs) (f := lf_L_put_2 L xs) (i := 6) (lo := 0) (σ := s5) H (fun k => [0, 0, 0, 37, x4, qA W k, 0 + (k : Int), 0, 0]) (fun k y => qPb s5 y ∧ ∀ r, r < k → qRw y (qA W r) (qB W r) W) ⟨qPb.rf s5, fun r hr => by omega⟩ (fun k => rfl) (by decide) (by omega)
    (fun k y hk hy => by
      rw [q_ptC2 (n := (H : Int)) (by rw [hy.1.2.1 0 (by decide)]; exact g0)]
      have : (0 + (k : Int) < (H : Int)) ↔ k < H := by omega
      simp only [this])
    (fun k y hk hy => by
      have bA := qA_i (W := W) (r := k) h6 (by omega)
      have bB := qB_i (W := W) (r := k) h6 (by omega)
      obtain ⟨z, z1, z2, z3, z4⟩ := q_putRow (L := L) (xs := xs) (x4 := x4) (r := (k : Int)) (A := qA W k) (B := qB W k) (fA := qA W) (fB := qB W) (m := k) hy.1 w1 w2 w3 g1 h6 ⟨by omega, by omega⟩ bA ⟨bB.1, bB.2.1⟩ bB.2.2 (fun r2 h2 => qAB_lt h2) hy.2
      rw [qA_S] at z1
      rw [z0k]
      refine ⟨_, _, _, z1, Or.inl rfl, rfl, rfl, z2, fun r hr => ?_⟩
      by_cases q : r = k
      · rw [q]; exact z4
      · exact z3 r (by omega))
