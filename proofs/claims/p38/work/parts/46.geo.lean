/-! the way between two cells -/
def zOnB (on k n : Int) : Bool := !(decide (on ≤ n) && decide (-n ≤ on) && decide (1 ≤ k)) || ((!decide (0 ≤ on) || (decide (0 ≤ zOn on k n) && decide (zOn on k n ≤ on))) && (!decide (on ≤ 0) || (decide (on ≤ zOn on k n) && decide (zOn on k n ≤ 0))) && (!decide (on = n) || decide (zOn on k n = k)) && (!decide (on = -n) || decide (zOn on k n = -k)))
theorem zOn_t : ∀ a : Nat, a < 11 → ∀ n : Nat, n < 6 → ∀ k : Nat, k < n → zOnB ((a : Int) - 5) k n = true := by decide +kernel
theorem zOn_i {on k n : Int} (hn : n ≤ 5) (h1 : on ≤ n) (h2 : -n ≤ on) (hk : 1 ≤ k) (hk2 : k < n) : (0 ≤ on → 0 ≤ zOn on k n ∧ zOn on k n ≤ on) ∧ (on ≤ 0 → on ≤ zOn on k n ∧ zOn on k n ≤ 0) ∧ (on = n → zOn on k n = k) ∧ (on = -n → zOn on k n = -k) := by
  have h := zOn_t (on + 5).toNat (by omega) n.toNat (by omega) k.toNat (by omega)
  have e1 : (((on + 5).toNat : Nat) : Int) - 5 = on := by omega
  have e2 : ((n.toNat : Nat) : Int) = n := by omega
  have e3 : ((k.toNat : Nat) : Int) = k := by omega
  rw [e1, e2, e3] at h
  simp only [zOnB, Bool.or_eq_true, Bool.and_eq_true, Bool.not_eq_true', decide_eq_true_eq, decide_eq_false_iff_not] at h
  rw [decide_eq_true h1, decide_eq_true h2, decide_eq_true hk] at h
  simp only [Bool.and_self, Bool.true_eq_false, false_or] at h
  obtain ⟨⟨⟨p1, p2⟩, p3⟩, p4⟩ := h
  refine ⟨fun q => ?_, fun q => ?_, fun q => ?_, fun q => ?_⟩
  · exact p1.resolve_left (fun z => z q)
  · exact p2.resolve_left (fun z => z q)
  · exact p3.resolve_left (fun z => z q)
  · exact p4.resolve_left (fun z => z q)
/-- a cell's row and column -/
theorem zRC {σ : zHp} (hL : zIL σ) {c : Int} (h : 0 ≤ c ∧ c < σ 1 2) : 2 ≤ σ 1 1 ∧ σ 1 1 ≤ 6 ∧ 2 ≤ σ 1 0 ∧ σ 1 0 ≤ 5 ∧ 0 ≤ c / σ 1 1 ∧ c / σ 1 1 < σ 1 0 ∧ 0 ≤ c % σ 1 1 ∧ c % σ 1 1 < σ 1 1 ∧ c = σ 1 1 * (c / σ 1 1) + c % σ 1 1 := by
  obtain ⟨h1, -, -, h4⟩ := hL
  rcases h1 with ⟨q1, q2⟩ | ⟨q1, q2, q3, q4⟩
  · rw [q1] at h4
    omega
  · have e := Int.emod_add_mul_ediv c (σ 1 1)
    have p : 0 < σ 1 1 := by omega
    have m1 := Int.emod_nonneg c (show σ 1 1 ≠ 0 by omega)
    have m2 := Int.emod_lt_of_pos c p
    have d1 := Int.ediv_nonneg h.1 (show 0 ≤ σ 1 1 by omega)
    have d2 : c / σ 1 1 < σ 1 0 := by
      refine Int.ediv_lt_of_lt_mul p ?_
      rw [← h4]; exact h.2
    exact ⟨q3, q4, q1, q2, d1, d2, m1, m2, by omega⟩
theorem zLen_i {σ : zHp} (hL : zIL σ) {f t : Int} (hf : 0 ≤ f ∧ f < σ 1 2) (ht : 0 ≤ t ∧ t < σ 1 2) : -4 ≤ zRo σ f t ∧ zRo σ f t ≤ 4 ∧ -5 ≤ zCo σ f t ∧ zCo σ f t ≤ 5 ∧ 0 ≤ zLen σ f t ∧ zLen σ f t ≤ 5 ∧ zRo σ f t ≤ zLen σ f t ∧ -zLen σ f t ≤ zRo σ f t ∧ zCo σ f t ≤ zLen σ f t ∧ -zLen σ f t ≤ zCo σ f t ∧ (zLen σ f t = zRo σ f t ∨ zLen σ f t = -zRo σ f t ∨ zLen σ f t = zCo σ f t ∨ zLen σ f t = -zCo σ f t) := by
  have a := zRC hL hf
  have b := zRC hL ht
  unfold zLen zRo zCo
  omega
/-- between: a row and a column of the land, other ones for another step -/
theorem zBt_i {σ : zHp} (hL : zIL σ) {f t k : Int} (hf : 0 ≤ f ∧ f < σ 1 2) (ht : 0 ≤ t ∧ t < σ 1 2) (hk : 1 ≤ k ∧ k < zLen σ f t) : 0 ≤ f / σ 1 1 + zOn (zRo σ f t) k (zLen σ f t) ∧ f / σ 1 1 + zOn (zRo σ f t) k (zLen σ f t) < σ 1 0 ∧ 0 ≤ f % σ 1 1 + zOn (zCo σ f t) k (zLen σ f t) ∧ f % σ 1 1 + zOn (zCo σ f t) k (zLen σ f t) < σ 1 1 := by
  obtain ⟨l1, l2, l3, l4, l5, l6, l7, l8, l9, l10, -⟩ := zLen_i hL hf ht
  obtain ⟨r1, r2, -, -⟩ := zOn_i l6 l7 l8 hk.1 hk.2
  obtain ⟨c1, c2, -, -⟩ := zOn_i l6 l9 l10 hk.1 hk.2
  have a := zRC hL hf
  have b := zRC hL ht
  have e1 : zRo σ f t = t / σ 1 1 - f / σ 1 1 := rfl
  have e2 : zCo σ f t = t % σ 1 1 - f % σ 1 1 := rfl
  rcases Int.le_total 0 (zRo σ f t) with p | p <;> rcases Int.le_total 0 (zCo σ f t) with q | q
  · have := r1 p
    have := c1 q
    omega
  · have := r1 p
    have := c2 q
    omega
  · have := r2 p
    have := c1 q
    omega
  · have := r2 p
    have := c2 q
    omega
theorem zrc_lt {w r c h : Int} (hr : 0 ≤ r ∧ r < h) (hc : 0 ≤ c ∧ c < w) : 0 ≤ w * r + c ∧ w * r + c < h * w := by
  have h1 : 0 ≤ w * r := Int.mul_nonneg (by omega) hr.1
  have h2 : w * (r + 1) ≤ w * h := Int.mul_le_mul_of_nonneg_left (by omega) (by omega)
  rw [Int.mul_add, Int.mul_one] at h2
  rw [Int.mul_comm h w]
  omega
theorem zrc_inj {w r c r2 c2 : Int} (hc : 0 ≤ c ∧ c < w) (hc2 : 0 ≤ c2 ∧ c2 < w) (h : w * r + c = w * r2 + c2) : r = r2 ∧ c = c2 := by
  have e : (w * r + c) / w = r := by
    rw [Int.mul_add_ediv_left _ _ (by omega), Int.ediv_eq_zero_of_lt hc.1 hc.2]; omega
  have e2 : (w * r2 + c2) / w = r2 := by
    rw [Int.mul_add_ediv_left _ _ (by omega), Int.ediv_eq_zero_of_lt hc2.1 hc2.2]; omega
  have : r = r2 := by rw [← e, ← e2, h]
  subst this
  omega
theorem zBt_lt {σ : zHp} (hL : zIL σ) {f t k : Int} (hf : 0 ≤ f ∧ f < σ 1 2) (ht : 0 ≤ t ∧ t < σ 1 2) (hk : 1 ≤ k ∧ k < zLen σ f t) : 0 ≤ zBt σ f t k ∧ zBt σ f t k < σ 1 2 := by
  obtain ⟨h1, h2, h3, h4⟩ := zBt_i hL hf ht hk
  have := zrc_lt ⟨h1, h2⟩ ⟨h3, h4⟩
  have e := hL.2.2.2
  unfold zBt
  omega
theorem zBt_ne {σ : zHp} (hL : zIL σ) {f t k j : Int} (hf : 0 ≤ f ∧ f < σ 1 2) (ht : 0 ≤ t ∧ t < σ 1 2) (hk : 1 ≤ k ∧ k < zLen σ f t) (hj : 1 ≤ j ∧ j < zLen σ f t) (h : zBt σ f t k = zBt σ f t j) : k = j := by
  obtain ⟨h1, h2, h3, h4⟩ := zBt_i hL hf ht hk
  obtain ⟨g1, g2, g3, g4⟩ := zBt_i hL hf ht hj
  obtain ⟨l1, l2, l3, l4, l5, l6, l7, l8, l9, l10, l11⟩ := zLen_i hL hf ht
  unfold zBt at h
  obtain ⟨x1, x2⟩ := zrc_inj ⟨h3, h4⟩ ⟨g3, g4⟩ (by rw [← Int.add_assoc, ← Int.add_assoc]; exact h)
  obtain ⟨-, -, r1, r2⟩ := zOn_i l6 l7 l8 hk.1 hk.2
  obtain ⟨-, -, c1, c2⟩ := zOn_i l6 l9 l10 hk.1 hk.2
  obtain ⟨-, -, s1, s2⟩ := zOn_i l6 l7 l8 hj.1 hj.2
  obtain ⟨-, -, d1, d2⟩ := zOn_i l6 l9 l10 hj.1 hj.2
  rcases l11 with e | e | e | e
  · have := r1 e.symm
    have := s1 e.symm
    omega
  · have := r2 (by omega)
    have := s2 (by omega)
    omega
  · have := c1 e.symm
    have := d1 e.symm
    omega
  · have := c2 (by omega)
    have := d2 (by omega)
    omega
