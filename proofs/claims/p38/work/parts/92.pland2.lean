/-! land is another: what both sides then tell -/
def zLA (σ A : zHp) (V : Nat → Int) (H W C : Nat) : Prop := (∀ a b : Int, ¬ (a = 0 ∧ b = 8) → a ≠ 1 → a ≠ 2 → a ≠ 3 → a ≠ 4 → a ≠ 5 → ¬ (a = 6 ∧ b = 0) → ¬ (a = 14 ∧ b = 2) → ¬ (a = 10 ∧ b = 2) → A a b = σ a b) ∧ A 0 8 = 0 ∧ (A 1 0 = (H : Int) ∧ A 1 1 = (W : Int) ∧ A 1 2 = (C : Int) ∧ A 1 3 = 0) ∧ A 6 0 = 0 ∧ A 14 2 = 0 ∧ A 10 2 = 10 ∧
  (∀ c : Nat, c < C → A 2 c = zHt V W c ∧ A 3 c = ((c / W : Nat) : Int) ∧ A 4 c = ((c % W : Nat) : Int)) ∧ ∀ h : Int, 0 ≤ h → h < 10 → A 5 h = zSt2 (fun c => decide (h < zHt V W c)) C
theorem zLA_of {σ τ : zHp} {V : Nat → Int} {H W C : Nat} (h : zTk (zput (zput (zput (zput (zput σ 0 8 0) 1 0 (H : Int)) 1 1 (W : Int)) 1 2 (C : Int)) 1 3 0) τ V W C) : zLA σ (zput (zput (zput τ 6 0 0) 14 2 0) 10 2 10) V H W C := by
  obtain ⟨t2, t3, t4⟩ := h
  have A1 : ∀ b : Int, zput (zput (zput τ 6 0 0) 14 2 0) 10 2 10 1 b = τ 1 b := fun b => by rw [zput_o (by decide), zput_o (by decide), zput_o (by decide)]
  refine ⟨fun a b z1 y1 y2 y3 y4 y5 z4 z5 z6 => ?_, ?_, ⟨?_, ?_, ?_, ?_⟩, ?_, ?_, zput_self _ _ _ _, fun c hc => ?_, fun h h0 h1 => ?_⟩
  · rw [zput_n z6, zput_n z5, zput_n z4, t2 a b y2 y3 y4 y5, zput_o y1, zput_o y1, zput_o y1, zput_o y1, zput_n z1]
  · rw [zput_o (by decide), zput_o (by decide), zput_o (by decide), t2 0 8 (by decide) (by decide) (by decide) (by decide), zput_o (by decide), zput_o (by decide), zput_o (by decide), zput_o (by decide), zput_self]
  · rw [A1, t2 1 0 (by decide) (by decide) (by decide) (by decide), zput_i (by decide), zput_i (by decide), zput_i (by decide), zput_self]
  · rw [A1, t2 1 1 (by decide) (by decide) (by decide) (by decide), zput_i (by decide), zput_i (by decide), zput_self]
  · rw [A1, t2 1 2 (by decide) (by decide) (by decide) (by decide), zput_i (by decide), zput_self]
  · rw [A1, t2 1 3 (by decide) (by decide) (by decide) (by decide), zput_self]
  · rw [zput_o (by decide), zput_o (by decide), zput_self]
  · rw [zput_o (by decide), zput_self]
  · rw [zput_o (by decide), zput_o (by decide), zput_o (by decide), zput_o (by decide), zput_o (by decide), zput_o (by decide), zput_o (by decide), zput_o (by decide), zput_o (by decide)]
    exact t3 c hc
  · rw [zput_o (by decide), zput_o (by decide), zput_o (by decide)]
    exact t4 h h0 h1
def zLZ (A Z : zHp) (V : Nat → Int) (H W C : Nat) : Prop := (∀ a b : Int, a ≠ 41 → a ≠ 42 → a ≠ 43 → ¬ (a = 37 ∧ (b = 0 ∨ b = 5 ∨ b = 6 ∨ b = 7 ∨ b = 10 ∨ b = 11 ∨ b = 12 ∨ b = 14 ∨ b = 23)) → Z a b = A a b) ∧ Z 37 0 = 0 ∧ Z 37 5 = (H : Int) ∧ Z 37 6 = (W : Int) ∧ Z 37 7 = 10 ∧ Z 37 14 = 0 ∧ Z 37 23 = 0 ∧ ∀ c : Nat, c < C → Z 41 c = zHt V W c ∧ Z 42 c = 0
theorem zLd_inv {σ A Z : zHp} {V : Nat → Int} {H W C : Nat} (hI : zInv σ) (ho : zOk Z) (hA : zLA σ A V H W C) (hZ : zLZ A Z V H W C) (h5 : 2 ≤ H ∧ H ≤ 5) (h6 : 2 ≤ W ∧ W ≤ 6) (C30 : C ≤ 30) (hC : (C : Int) = (H : Int) * (W : Int)) (dig : ∀ c : Nat, c < C → 0 ≤ zHt V W c ∧ zHt V W c ≤ 9) : zInv Z := by
  have hS := zI10 hI
  have hF := hI.2.1.2
  obtain ⟨eA, A08, ⟨A10, A11, A12, A13⟩, A60, A142, A102, A24, A5⟩ := hA
  obtain ⟨eZ, Z0, Z5, Z6, Z7, Z14, Z23, Z41⟩ := hZ
  clear hI
  have E1 : ∀ b : Int, Z 1 b = A 1 b := fun b => eZ 1 b (by decide) (by decide) (by decide) (fun z => absurd z.1 (by decide))
  have E2 : ∀ b : Int, Z 2 b = A 2 b := fun b => eZ 2 b (by decide) (by decide) (by decide) (fun z => absurd z.1 (by decide))
  have E3 : ∀ b : Int, Z 3 b = A 3 b := fun b => eZ 3 b (by decide) (by decide) (by decide) (fun z => absurd z.1 (by decide))
  have E4 : ∀ b : Int, Z 4 b = A 4 b := fun b => eZ 4 b (by decide) (by decide) (by decide) (fun z => absurd z.1 (by decide))
  have E5 : ∀ b : Int, Z 5 b = A 5 b := fun b => eZ 5 b (by decide) (by decide) (by decide) (fun z => absurd z.1 (by decide))
  have E60 : Z 6 0 = 0 := by rw [eZ 6 0 (by decide) (by decide) (by decide) (by decide), A60]
  have E142 : Z 14 2 = 0 := by rw [eZ 14 2 (by decide) (by decide) (by decide) (by decide), A142]
  have E102 : Z 10 2 = 10 := by rw [eZ 10 2 (by decide) (by decide) (by decide) (by decide), A102]
  have E12 : Z 1 2 = (C : Int) := by rw [E1, A12]
  have eS : ∀ a b : Int, 29 ≤ a → a ≤ 40 → a ≠ 37 → Z a b = σ a b := fun a b z1 z2 z3 => by
    rw [eZ a b (by clear eA eZ; omega) (by clear eA eZ; omega) (by clear eA eZ; omega) (fun z => z3 z.1), eA a b (fun z => by rw [z.1] at z1; exact absurd z1 (by decide)) (by clear eA eZ; omega) (by clear eA eZ; omega) (by clear eA eZ; omega) (by clear eA eZ; omega) (by clear eA eZ; omega) (fun z => by rw [z.1] at z1; exact absurd z1 (by decide)) (fun z => by rw [z.1] at z1; exact absurd z1 (by decide)) (fun z => by rw [z.1] at z1; exact absurd z1 (by decide))]
  have f1 : zIF Z := ⟨by rw [eZ 0 8 (by decide) (by decide) (by decide) (by decide), A08, Z0], by
    rw [eZ 0 9 (by decide) (by decide) (by decide) (by decide), eZ 37 1 (by decide) (by decide) (by decide) (by decide), eA 0 9 (by decide) (by decide) (by decide) (by decide) (by decide) (by decide) (by decide) (by decide) (by decide), eA 37 1 (by decide) (by decide) (by decide) (by decide) (by decide) (by decide) (by decide) (by decide) (by decide)]
    exact hF⟩
  have f2 : zIL Z := by
    refine ⟨Or.inr ⟨?_, ?_, ?_, ?_⟩, by rw [Z5, E1, A10], by rw [Z6, E1, A11], by rw [E12, E1, E1, A10, A11]; exact hC⟩
    · rw [E1, A10]; exact Int.ofNat_le.mpr h5.1
    · rw [E1, A10]; exact Int.ofNat_le.mpr h5.2
    · rw [E1, A11]; exact Int.ofNat_le.mpr h6.1
    · rw [E1, A11]; exact Int.ofNat_le.mpr h6.2
  have f3 : zIH Z := by
    intro c c0 c1
    rw [E12] at c1
    obtain ⟨m, rfl⟩ : ∃ m : Nat, c = (m : Int) := ⟨c.toNat, (Int.toNat_of_nonneg c0).symm⟩
    have mC : m < C := Int.ofNat_lt.mp c1
    have b := dig m mC
    have q := Z41 m mC
    have a := A24 m mC
    rw [E2, a.1, q.1, E3, a.2.1, E4, a.2.2, E1, A11]
    exact ⟨b.1, b.2, rfl, rfl, rfl⟩
  have f4 : zIB Z := by
    intro h h0 h9 c hc
    rw [E5, A5 h h0 h9, E12, E2, zt_St2 _ C (Nat.le_trans C30 (by decide))]
    by_cases q : c < C
    · rw [decide_eq_true q, Bool.true_and, (A24 c q).1]
      by_cases p : h < zHt V W c
      · rw [decide_eq_true p, decide_eq_true ⟨Int.ofNat_lt.mpr q, p⟩]
      · rw [decide_eq_false p, decide_eq_false (fun z => p z.2)]
    · rw [decide_eq_false q, Bool.false_and, decide_eq_false (fun z => q (Int.ofNat_lt.mp z.1))]
  have f5 : zIP Z := by
    intro c hc
    rw [E1, A13, zbt0, E12]
    refine (decide_eq_false (fun z => ?_)).symm
    have q := (Z41 c (Int.ofNat_lt.mp z.1)).2
    rw [q] at z
    exact absurd z.2 (by decide)
  have f6 : zIE Z := ⟨by rw [Z7, E102], by rw [E102]; decide, by rw [E102]; decide⟩
  have f7 : zIN Z := ⟨by rw [Z14, E60], by rw [E60]; decide, by rw [E60]; decide, fun b b0 b1 => by rw [E60] at b1; exact absurd (Int.lt_of_le_of_lt b0 b1) (by decide)⟩
  have f8 : zIC Z := fun b c b0 b1 => by rw [E60] at b1; exact absurd (Int.lt_of_le_of_lt b0 b1) (by decide)
  have f9 : zIR Z := ⟨by rw [Z23, E142], by rw [E142]; decide, by rw [E142]; decide, fun k k0 k1 => by rw [E142] at k1; exact absurd (Int.lt_of_le_of_lt k0 k1) (by decide)⟩
  exact ⟨ho, f1, f2, f3, f4, f5, f6, f7, f8, f9, zIS_c hS (fun o k z1 z2 => eS o k z1 (Int.le_trans z2 (by decide)) (fun z => by rw [z] at z2; exact absurd z2 (by decide))) (fun k => eS 38 k (by decide) (by decide) (by decide)) (fun k => eS 39 k (by decide) (by decide) (by decide)) (fun k => eS 40 k (by decide) (by decide) (by decide))⟩
theorem zw30 {C : Nat} (h : C ≤ 30) : w32 (C : Int) = (C : Int) := w32_id ⟨by omega, by omega⟩
