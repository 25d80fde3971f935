/-! land is another: what both sides then tell -/
def zLA (σ A : zHp) (V : Nat → Int) (H W C : Nat) : Prop := (∀ a b : Int, ¬ (a = 0 ∧ b = 8) → a ≠ 1 → a ≠ 2 → a ≠ 3 → a ≠ 4 → a ≠ 5 → ¬ (a = 6 ∧ b = 0) → ¬ (a = 14 ∧ b = 2) → ¬ (a = 10 ∧ b = 2) → A a b = σ a b) ∧ A 0 8 = 0 ∧ (A 1 0 = (H : Int) ∧ A 1 1 = (W : Int) ∧ A 1 2 = (C : Int) ∧ A 1 3 = 0) ∧ A 6 0 = 0 ∧ A 14 2 = 0 ∧ A 10 2 = 10 ∧
  (∀ c : Nat, c < C → A 2 c = zHt V W c ∧ A 3 c = ((c / W : Nat) : Int) ∧ A 4 c = ((c % W : Nat) : Int)) ∧ ∀ h : Int, 0 ≤ h → h < 10 → A 5 h = zSt2 (fun c => decide (h < zHt V W c)) C
theorem zLA_of {σ τ : zHp} {V : Nat → Int} {H W C : Nat} (h : zTk (zput (zput (zput (zput (zput σ 0 8 0) 1 0 (H : Int)) 1 1 (W : Int)) 1 2 (C : Int)) 1 3 0) τ V W C) : zLA σ (zput (zput (zput τ 6 0 0) 14 2 0) 10 2 10) V H W C := by
  obtain ⟨t2, t3, t4⟩ := h
  have A1 : ∀ b : Int, zput (zput (zput τ 6 0 0) 14 2 0) 10 2 10 1 b = τ 1 b := fun b => by rw [zput_o (by decide), zput_o (by decide), zput_o (by decide)]
  refine ⟨fun a b z1 y1 y2 y3 y4 y5 z4 z5 z6 => ?_, ?_, ⟨?_, ?_, ?_, ?_⟩, ?_, ?_, zput_self _ _ _ _, fun c hc => ?_, fun h h0 h1 => ?_⟩
  · rw [zput_n z6, zput_n z5, zput_n z4, t2 a b y2 y3 y4 y5, zput_o y1, zput_o y1, zput_o y1, zput_o y1, zput_n z1]
  · rw [zput_o (by decide), zput_o (by decide), zput_o (by decide), t2 0 8 (by decide) (by decide) (by decide) (by decide), zput_o (by decide), zput_o (by decide), zput_o (by decide), zput_o (by decide), zput_self]
  · rw [A1, t2 1 0 (by decide) (by decide) (by decide) (by decide), zput_i (by decide), zput_i (by decide), zput_i (by decide), zput_self]
  · rw [A1, t2 1 1 (by decide) (by decide) (by decide) (by decide), zput_i (by decide), zput_i (by decide), zput_self]
  · rw [A1, t2 1 2 (by decide) (by decide) (by decide) (by decide), zput_i (by decide), zput_self]
  · rw [A1, t2 1 3 (by decide) (by decide) (by decide) (by decide), zput_self]
  · rw [zput_o (by decide), zput_o (by decide), zput_self]
  · rw [zput_o (by decide), zput_self]
  · rw [zput_o (by decide), zput_o (by decide), zput_o (by decide), zput_o (by decide), zput_o (by decide), zput_o (by decide), zput_o (by decide), zput_o (by decide), zput_o (by decide)]
    exact t3 c hc
  · rw [zput_o (by decide), zput_o (by decide), zput_o (by decide)]
    exact t4 h h0 h1
theorem zLd_inv {σ A : zHp} {V : Nat → Int} {H W C : Nat} (hS : zIS σ) (ho : zOk A) (hA : zLA σ A V H W C) (h5 : 2 ≤ H ∧ H ≤ 5) (h6 : 2 ≤ W ∧ W ≤ 6) (C30 : C ≤ 30) (hC : (C : Int) = (H : Int) * (W : Int)) (dig : ∀ c : Nat, c < C → 0 ≤ zHt V W c ∧ zHt V W c ≤ 9) : zInv A := by
  obtain ⟨eA, A08, ⟨A10, A11, A12, A13⟩, A60, A142, A102, A24, A5⟩ := hA
  have f2 : zIL A := by
    refine ⟨Or.inr ⟨?_, ?_, ?_, ?_⟩, rfl, rfl, by rw [A12, A10, A11]; exact hC⟩
    · rw [A10]; exact Int.ofNat_le.mpr h5.1
    · rw [A10]; exact Int.ofNat_le.mpr h5.2
    · rw [A11]; exact Int.ofNat_le.mpr h6.1
    · rw [A11]; exact Int.ofNat_le.mpr h6.2
  have f3 : zIH A := by
    intro c c0 c1
    rw [A12] at c1
    obtain ⟨m, rfl⟩ : ∃ m : Nat, c = (m : Int) := ⟨c.toNat, (Int.toNat_of_nonneg c0).symm⟩
    have mC : m < C := Int.ofNat_lt.mp c1
    have b := dig m mC
    have a := A24 m mC
    rw [a.1, a.2.1, a.2.2, A11]
    exact ⟨b.1, b.2, rfl, rfl, rfl⟩
  have f4 : zIB A := by
    intro h h0 h9 c hc
    rw [A5 h h0 h9, A12, zt_St2 _ C (Nat.le_trans C30 (by decide))]
    by_cases q : c < C
    · rw [decide_eq_true q, Bool.true_and, (A24 c q).1]
      by_cases p : h < zHt V W c
      · rw [decide_eq_true p, decide_eq_true ⟨Int.ofNat_lt.mpr q, p⟩]
      · rw [decide_eq_false p, decide_eq_false (fun z => p z.2)]
    · rw [decide_eq_false q, Bool.false_and, decide_eq_false (fun z => q (Int.ofNat_lt.mp z.1))]
  have f5 : zIP A := by
    intro c hc
    have e : zpl A (c : Int) = 0 := by rw [zpl_n, A13, zbt0]; rfl
    rw [A13, zbt0, A12, e]
    exact (decide_eq_false (fun z => absurd z.2 (by decide))).symm
  have f6 : zIE A := ⟨rfl, by rw [A102]; decide, by rw [A102]; decide⟩
  have f7 : zIN A := ⟨rfl, by rw [A60]; decide, by rw [A60]; decide, fun b b0 b1 => by rw [A60] at b1; exact absurd (Int.lt_of_le_of_lt b0 b1) (by decide)⟩
  have f8 : zIC A := fun b c b0 b1 => by rw [A60] at b1; exact absurd (Int.lt_of_le_of_lt b0 b1) (by decide)
  refine ⟨ho, trivial, f2, f3, f4, f5, f6, f7, f8, trivial, zIS_c hS (fun o z1 z2 => ?_)⟩
  exact eA o 3 (fun z => by omega) (by omega) (by omega) (by omega) (by omega) (by omega) (fun z => by omega) (fun z => by omega) (fun z => by omega)
theorem zw30 {C : Nat} (h : C ≤ 30) : w32 (C : Int) = (C : Int) := w32_id ⟨by omega, by omega⟩
