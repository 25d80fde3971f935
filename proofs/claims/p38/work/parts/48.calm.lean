theorem zsh_l : ∀ c : Nat, c < 64 → (((Int32.ofInt (c : Int)).toInt64 &&& 63).toBitVec.smod 64).toNat = c := by decide +kernel
theorem zLshr_e {x : Int} {c : Nat} (h : 0 ≤ x ∧ x < 9223372036854775808) (hc : c < 64) : zLshr x c = x / ((2 ^ c : Nat) : Int) := by
  unfold zLshr
  show (Int64.ofInt x >>> ((Int32.ofInt (c : Int)).toInt64 &&& 63)).toBitVec.toInt = _
  rw [Int64.toBitVec_shiftRight]
  show ((Int64.ofInt x).toBitVec.sshiftRight (((Int32.ofInt (c : Int)).toInt64 &&& 63).toBitVec.smod 64).toNat).toInt = _
  rw [zsh_l c hc, BitVec.toInt_sshiftRight]
  have e : (Int64.ofInt x).toBitVec.toInt = x := z64_ti ⟨by omega, by omega⟩
  rw [e, Int.shiftRight_eq_div_pow]
/-- one more -/
theorem zcn_upd {f g : Nat → Bool} {c : Nat} (h0 : f c = false) : ∀ n : Nat, (∀ i, i < n → i ≠ c → g i = f i) → zcn g n = zcn f n + if c < n ∧ g c = true then 1 else 0
  | 0, _ => by simp [zcn]
  | n + 1, he => by
    have ih := zcn_upd h0 n (fun i hi => he i (by omega))
    unfold zcn
    rw [ih]
    by_cases h : n = c
    · subst h
      rw [h0]
      simp
    · rw [he n (by omega) h]
      by_cases q : g c = true
      · by_cases r : c < n
        · have r2 : c < n + 1 := by omega
          simp [q, r, r2]
          omega
        · have r2 : ¬ c < n + 1 := by omega
          simp [q, r, r2]
      · simp [q]
theorem zt_Wy {σ : zHp} {f t : Int} (hb : ∀ k : Nat, 1 ≤ k → (k : Int) < zLen σ f t → 0 ≤ zBt σ f t k ∧ zBt σ f t k < 32) (i : Nat) : ∀ m : Nat, (m : Int) < zLen σ f t ∨ m = 0 → zt (zWy σ f t m) i = true → ∃ k : Nat, 1 ≤ k ∧ k ≤ m ∧ zBt σ f t k = i
  | 0, _, h => by
    have : zt (zWy σ f t 0) i = false := zbt0 i
    rw [this] at h
    cases h
  | m + 1, hm, h => by
    have b := hb (m + 1) (by omega) (by omega)
    have e : zt (zWy σ f t (m + 1)) i = (zt (zWy σ f t m) i || zt (zShl 1 (zBt σ f t ((m + 1 : Nat) : Int))) i) := zt_or _ _ i
    rw [e, zt_bit_i b] at h
    rcases Bool.or_eq_true_iff.mp h with q | q
    · obtain ⟨k, k1, k2, k3⟩ := zt_Wy hb i m (by omega) q
      exact ⟨k, k1, by omega, k3⟩
    · exact ⟨m + 1, by omega, by omega, (of_decide_eq_true q).symm⟩
theorem zcnt_Wy {σ : zHp} (hL : zIL σ) {f t : Int} (hf : 0 ≤ f ∧ f < σ 1 2) (ht : 0 ≤ t ∧ t < σ 1 2) (M : Int) : ∀ m : Nat, (m : Int) < zLen σ f t ∨ m = 0 → zcnt (zAnd (zWy σ f t m) M) = (zcn (fun k => zt M (zBt σ f t ((k + 1 : Nat) : Int)).toNat) m : Nat)
  | 0, _ => by
    unfold zcnt
    rw [zcn_z 32 (fun i _ => by rw [zt_and]; show (zt 0 i && _) = false; rw [zbt0]; rfl)]
    rfl
  | m + 1, hm => by
    have hN := zN_eq hL
    have hb : ∀ k : Nat, 1 ≤ k → (k : Int) < zLen σ f t → 0 ≤ zBt σ f t k ∧ zBt σ f t k < 32 := fun k h1 h2 => by
      have := zBt_lt hL hf ht (k := (k : Int)) ⟨by omega, h2⟩
      omega
    have b := hb (m + 1) (by omega) (by omega)
    have ih := zcnt_Wy hL hf ht M m (by omega)
    have e : ∀ i, zt (zWy σ f t (m + 1)) i = (zt (zWy σ f t m) i || zt (zShl 1 (zBt σ f t ((m + 1 : Nat) : Int))) i) := fun i => zt_or _ _ i
    generalize hc : zBt σ f t ((m + 1 : Nat) : Int) = c at e b
    have c1 : ((c.toNat : Nat) : Int) = c := by omega
    have h0 : zt (zWy σ f t m) c.toNat = false := by
      cases q : zt (zWy σ f t m) c.toNat with
      | false => rfl
      | true =>
        obtain ⟨k, k1, k2, k3⟩ := zt_Wy hb c.toNat m (by omega) q
        rw [c1, ← hc] at k3
        have := zBt_ne hL hf ht ⟨by omega, by omega⟩ ⟨by omega, by omega⟩ k3
        omega
    have up := zcn_upd (f := zt (zAnd (zWy σ f t m) M)) (g := zt (zAnd (zWy σ f t (m + 1)) M)) (c := c.toNat) (by rw [zt_and, h0]; rfl) 32 (fun i _ hi => by
      have : ¬ (i : Int) = c := by omega
      rw [zt_and, zt_and, e, zt_bit_i b, decide_eq_false this, Bool.or_false])
    unfold zcnt at ih ⊢
    rw [up, Int.natCast_add, ih]
    have g : zt (zAnd (zWy σ f t (m + 1)) M) c.toNat = zt M c.toNat := by
      rw [zt_and, e, zt_bit_i b, decide_eq_true c1, Bool.or_true, Bool.true_and]
    have l : c.toNat < 32 := by omega
    show _ = ((zcn (fun k => zt M (zBt σ f t ((k + 1 : Nat) : Int)).toNat) m + if zt M (zBt σ f t ((m + 1 : Nat) : Int)).toNat = true then 1 else 0 : Nat) : Int)
    rw [g, hc, Int.natCast_add]
    simp [l]
theorem zcn_S (f : Nat → Bool) (n : Nat) : zcn f (n + 1) = zcn f n + if f n = true then 1 else 0 := rfl
/-- dimmed: as many halvings as there are hills and planted ones -/
def zHl (σ : zHp) (kind f t : Int) (k : Nat) : Bool := decide (σ 2 f < σ 2 (zBt σ f t (k + 1)) ∧ σ 2 t < σ 2 (zBt σ f t (k + 1)) ∧ kind ≠ 2)
def zPn (σ : zHp) (f t : Int) (k : Nat) : Bool := decide (zpl σ (zBt σ f t (k + 1)) = 1)
theorem zDim_p (σ : zHp) (kind f t : Int) : ∀ n, zDim σ kind f t n = ((2 ^ (zcn (zPn σ f t) n + zcn (zHl σ kind f t) n) : Nat) : Int)
  | 0 => rfl
  | n + 1 => by
    unfold zDim
    rw [zDim_p σ kind f t n, zcn_S, zcn_S]
    generalize hx : zcn (zPn σ f t) n + zcn (zHl σ kind f t) n = x
    by_cases h1 : σ 2 f < σ 2 (zBt σ f t (n + 1)) ∧ σ 2 t < σ 2 (zBt σ f t (n + 1)) ∧ kind ≠ 2
    · by_cases h2 : zpl σ (zBt σ f t (n + 1)) = 1
      · have a : zHl σ kind f t n = true := decide_eq_true h1
        have b : zPn σ f t n = true := decide_eq_true h2
        rw [if_pos h1, if_pos h2, if_pos a, if_pos b, show zcn (zPn σ f t) n + 1 + (zcn (zHl σ kind f t) n + 1) = x + 2 by omega, Nat.pow_add]
        simp
      · have a : zHl σ kind f t n = true := decide_eq_true h1
        have b : ¬ zPn σ f t n = true := by rw [zPn, decide_eq_true_eq]; exact h2
        rw [if_pos h1, if_neg h2, if_pos a, if_neg b, show zcn (zPn σ f t) n + 0 + (zcn (zHl σ kind f t) n + 1) = x + 1 by omega, Nat.pow_add]
        simp
    · by_cases h2 : zpl σ (zBt σ f t (n + 1)) = 1
      · have a : ¬ zHl σ kind f t n = true := by rw [zHl, decide_eq_true_eq]; exact h1
        have b : zPn σ f t n = true := decide_eq_true h2
        rw [if_neg h1, if_pos h2, if_neg a, if_pos b, show zcn (zPn σ f t) n + 1 + (zcn (zHl σ kind f t) n + 0) = x + 1 by omega, Nat.pow_add]
        simp
      · have a : ¬ zHl σ kind f t n = true := by rw [zHl, decide_eq_true_eq]; exact h1
        have b : ¬ zPn σ f t n = true := by rw [zPn, decide_eq_true_eq]; exact h2
        rw [if_neg h1, if_neg h2, if_neg a, if_neg b, show zcn (zPn σ f t) n + 0 + (zcn (zHl σ kind f t) n + 0) = x by omega]
        simp
