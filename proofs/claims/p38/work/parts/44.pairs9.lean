theorem zcn_z {f : Nat → Bool} : ∀ n : Nat, (∀ i, i < n → f i = false) → zcn f n = 0
  | 0, _ => rfl
  | n + 1, h => by
    unfold zcn
    rw [zcn_z n (fun i hi => h i (by omega)), h n (by omega)]
    rfl
theorem zcn_cut {f : Nat → Bool} {m n : Nat} (hm : m ≤ n) (h : ∀ i, m ≤ i → i < n → f i = false) : zcn f n = zcn f m := by
  have e := zcn_add f m (n - m)
  rw [show m + (n - m) = n by omega] at e
  rw [e, zcn_z (n - m) (fun i hi => h (m + i) (by omega) (by omega))]
  rfl
theorem zPl {σ : zHp} (_ : zOk σ) (k : Int) (_ : 0 ≤ k) : zpl σ k = 0 ∨ zpl σ k = 1 := by
  unfold zpl
  split
  · exact Or.inr rfl
  · exact Or.inl rfl
theorem zPlanted {σ : zHp} (hI : zInv σ) : zcnt (σ 1 3) = (zcn (fun c => decide (zpl σ c = 1)) (σ 1 2).toNat : Nat) := by
  have hP : zIP σ := hI.2.2.2.2.2.1
  have hN := zN_eq hI.2.2.1
  unfold zcnt
  rw [zcn_cut (m := (σ 1 2).toNat) (n := 32) (by omega) (fun i h1 h2 => by rw [hP i h2, decide_eq_false]; omega)]
  congr 1
  refine zcn_c _ (fun i hi => ?_)
  rw [hP i (by omega)]
  have : (i : Int) < σ 1 2 := by omega
  simp [this]
