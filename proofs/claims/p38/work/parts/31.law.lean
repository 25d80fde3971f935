/-! the law's loop, out of its 35 calls: I holds between the calls -/
theorem xT_e (e : List Int) (σ : zHp) (L : Nat) (xs : Nat → Int32) (g : zX) : xT L xs g e σ = (g e σ).bind fun q => if 0 ≤ q.1 ∧ q.1 < L then some ((xs q.1.toNat).toInt, q.2) else none := rfl
theorem r_ne_self (x : Int) : r_ne x x = false := by simp [r_ne]
theorem zl_inv {c : zC} {f s : zS} (E : Nat → List Int) (I : Nat → zHp → Prop) (n : Nat) {σ : zHp} (h0 : I 0 σ) (hc : ∀ k σ, k < n → I k σ → c (E k) σ = some (true, σ))
    (hb : ∀ k σ, k < n → I k σ → ∃ t e τ τ2, f (E k) σ = some (t, e, τ) ∧ (t = 0 ∨ t = 3) ∧ s e τ = some (0, E (k + 1), τ2) ∧ I (k + 1) τ2) (hn : ∀ σ, I n σ → c (E n) σ = some (false, σ)) (hf : n < zfuel) : ∃ τ, I n τ ∧ sW c f s (E 0) σ = some (0, E n, τ) := by
  have key : ∀ (j k m : Nat) (σ : zHp), k + j = n → j < m → I k σ → ∃ τ, I n τ ∧ zloop c f s m (E k) σ = some (0, E n, τ) := by
    intro j
    induction j with
    | zero =>
      intro k m σ hk hm hI
      obtain ⟨m, rfl⟩ : ∃ m', m = m' + 1 := ⟨m - 1, by omega⟩
      have : k = n := by omega
      subst this
      refine ⟨σ, hI, ?_⟩
      simp only [zloop, hn σ hI, bs_e]
      rfl
    | succ j ih =>
      intro k m σ hk hm hI
      obtain ⟨m, rfl⟩ : ∃ m', m = m' + 1 := ⟨m - 1, by omega⟩
      obtain ⟨t, e, τ, τ2, h1, h2, h3, h4⟩ := hb k σ (by omega) hI
      obtain ⟨τ3, h5, h6⟩ := ih (k + 1) m τ2 (by omega) (by omega) h4
      refine ⟨τ3, h5, ?_⟩
      simp only [zloop, hc k σ (by omega) hI, bs_e, h1, h2, h3, if_true]
      exact h6
  exact key n 0 zfuel σ (by omega) hf h0
theorem zpick_out {d : zS} : ∀ (gs : List zS) (v : Int), (gs.length : Int) ≤ v → zpick d gs v = d
  | [], _, _ => rfl
  | g :: gs, v, h => by
    have h2 : ((gs.length + 1 : Nat) : Int) ≤ v := by simpa using h
    show (if v = 0 then g else zpick d gs (v - 1)) = d
    rw [if_neg (by omega)]
    exact zpick_out gs (v - 1) (by omega)
theorem zAnd_63 (x : Int) : 0 ≤ zAnd x 63 ∧ zAnd x 63 < 64 := by
  unfold zAnd
  have e : (Int32.ofInt x &&& Int32.ofInt 63).toInt = ((Int32.ofInt x &&& Int32.ofInt 63).toBitVec.toNat : Int) := by
    show BitVec.toInt _ = _
    refine BitVec.toInt_eq_toNat_of_lt ?_
    have h : (Int32.ofInt x &&& Int32.ofInt 63).toBitVec.toNat ≤ 63 := by
      rw [Int32.toBitVec_and, BitVec.toNat_and]
      exact Nat.le_trans Nat.and_le_right (Nat.le_of_ble_eq_true rfl)
    omega
  have h : (Int32.ofInt x &&& Int32.ofInt 63).toBitVec.toNat ≤ 63 := by
    rw [Int32.toBitVec_and, BitVec.toNat_and]
    exact Nat.le_trans Nat.and_le_right (Nat.le_of_ble_eq_true rfl)
  rw [e]
  omega
