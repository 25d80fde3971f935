/-! the whole text -/
theorem q_put (L : Nat) (xs : Nat → Int32) (σ : zHp) : ∃ (H W : Nat) (τ : zHp), (2 ≤ H ∧ H ≤ 5) ∧ (2 ≤ W ∧ W ≤ 6) ∧ m_L_put L xs [0, 0, 0, 37] σ = some (qA W H, τ) ∧ (τ 29 1 = 1 ∧ τ 29 2 = 0 ∧ τ 29 3 = 50) ∧ (τ 30 0 = 103 ∧ τ 30 1 = 48 + H ∧ τ 30 2 = 48 + W) ∧ (τ 37 0 = H ∧ τ 37 1 = W ∧ τ 37 2 = 10 ∧ τ 37 40 = 0 ∧ τ 37 41 = 0) ∧ (∀ r, r < H → qRw τ (qA W r) (qB W r) W) ∧ ∀ a b : Int, a ≠ 0 → a ≠ 29 → a ≠ 30 → a ≠ 37 → τ a b = σ a b := by
  obtain ⟨a0, a1⟩ := qs_i (v := qc L xs 0) (n := 4) (by decide)
  obtain ⟨b0, b1⟩ := qs_i (v := zShr (qc L xs 0) 3) (n := 5) (by decide)
  have ka := q_some (v := qc L xs 0) (n := 4) (by decide) σ
  have kb := q_some (v := zShr (qc L xs 0) 3) (n := 5) (by decide)
  have kc := q_cell L xs (Int.le_refl 0) σ
  generalize qs (qc L xs 0) 4 = a at a0 a1 ka
  generalize qs (zShr (qc L xs 0) 3) 5 = b at b0 b1 kb
  generalize qc L xs 0 = x4 at ka kb kc
  obtain ⟨H, hH⟩ : ∃ H : Nat, (H : Int) = 2 + a := ⟨(2 + a).toNat, by omega⟩
  obtain ⟨W, hW⟩ : ∃ W : Nat, (W : Int) = 2 + b := ⟨(2 + b).toNat, by omega⟩
  have eH : o_iadd 2 a = (H : Int) := by rw [hH]; exact w32_id ⟨by omega, by omega⟩
  have eW : o_iadd 2 b = (W : Int) := by rw [hW]; exact w32_id ⟨by omega, by omega⟩
  have h5 : 2 ≤ H ∧ H ≤ 5 := by omega
  have h6 : 2 ≤ W ∧ W ≤ 6 := by omega
  clear hH hW a0 a1 b0 b1
  have kb := kb (zput σ 37 0 (H : Int))
  generalize hs1 : zput (zput (zput (zput (zput σ 37 0 (H : Int)) 37 1 (W : Int)) 37 2 10) 37 40 0) 37 41 0 = s1
  have t0 : s1 37 0 = H := by rw [← hs1, zput_i (by decide), zput_i (by decide), zput_i (by decide), zput_i (by decide), zput_self]
  have t1 : s1 37 1 = W := by rw [← hs1, zput_i (by decide), zput_i (by decide), zput_i (by decide), zput_self]
  have t2 : s1 37 2 = 10 := by rw [← hs1, zput_i (by decide), zput_i (by decide), zput_self]
  have t3 : s1 37 40 = 0 := by rw [← hs1, zput_i (by decide), zput_self]
  have t4 : s1 37 41 = 0 := by rw [← hs1, zput_self]
  have so : ∀ a b : Int, a ≠ 37 → s1 a b = σ a b := fun a b h => by rw [← hs1, zput_o h, zput_o h, zput_o h, zput_o h, zput_o h]
  obtain ⟨s2, s3, s4, s5, p1, p2, p3, p4, w29, w30, wo⟩ := q_putHead h5.2 h6.2 t0 t1
  have w37 : ∀ j, s5 37 j = s1 37 j := fun j => wo 37 j (by decide) (by decide) (by decide)
  obtain ⟨τ, hl, u1, u2⟩ := q_putRows (L := L) (xs := xs) (x4 := x4) h5.2 h6.2 w29.1 w29.2.1 w29.2.2 ((w37 0).trans t0) ((w37 1).trans t1)
  have A0 : qA W 0 = 3 := by unfold qA; omega
  rw [A0] at hl
  have hm := q_putEval kc ka kb eH eW hs1 p1 p2 p3 p4 hl
  refine ⟨H, W, τ, h5, h6, hm, ?_, ?_, ?_, u2, fun a b q1 q2 q3 q4 => ?_⟩
  · rw [u1.1 29 1 (by decide) (by decide) (by decide), u1.1 29 2 (by decide) (by decide) (by decide), u1.1 29 3 (by decide) (by decide) (by decide)]
    exact w29
  · rw [u1.2.2 0 (by decide), u1.2.2 1 (by decide), u1.2.2 2 (by decide)]
    exact w30
  · rw [u1.2.1 0 (by decide), u1.2.1 1 (by decide), u1.2.1 2 (by decide), u1.2.1 40 (by decide), u1.2.1 41 (by decide), w37, w37, w37, w37, w37]
    exact ⟨t0, t1, t2, t3, t4⟩
  · rw [u1.1 a b q3 q4 (fun q => q1 q.1), wo a b q1 q2 q3, so a b q4]
