/-! what the names come to, a row each: used to run a body on locals that are written out -/
theorem bs_e {α β : Type} (a : α) (f : α → Option β) : (some a).bind f = f a := rfl
theorem bn_e {α β : Type} (f : α → Option β) : (none : Option α).bind f = none := rfl
theorem zg_0 (a : Int) (l : List Int) : zg (a :: l) 0 = a := rfl
theorem zg_S (a : Int) (l : List Int) (n : Nat) : zg (a :: l) (n + 1) = zg l n := rfl
theorem st_0 (a v : Int) (l : List Int) : (a :: l).set 0 v = v :: l := rfl
theorem st_S (a v : Int) (l : List Int) (n : Nat) : (a :: l).set (n + 1) v = a :: l.set n v := rfl
theorem zc_0 (e : List Int) : zclr [] e = e := rfl
theorem zc_S (k : Nat) (ks : List Nat) (e : List Int) : zclr (k :: ks) e = zclr ks (e.set k 0) := rfl
section EVS
variable (e : List Int) (σ : zHp) (f g h : zX) (c d : zC) (u v w : zS) (o k N : Int) (i : Nat)
theorem xC_e : xC o e σ = some (o, σ) := rfl
theorem xL_e : xL i e σ = some (zg e i, σ) := rfl
theorem xU_e (op : Int → Int) : xU op f e σ = (f e σ).bind fun r => some (op r.1, r.2) := rfl
theorem xB_e (op : Int → Int → Int) : xB op f g e σ = (f e σ).bind fun r => (g e r.2).bind fun q => some (op r.1 q.1, q.2) := rfl
theorem xD_e (op : Int → Int → Int) : xD op f g e σ = (f e σ).bind fun r => (g e r.2).bind fun q => if q.1 = 0 then none else some (op r.1 q.1, q.2) := rfl
theorem xF_e : xF f k e σ = (f e σ).bind fun r => some (r.2 r.1 k, r.2) := rfl
theorem xG_e : xG o k e σ = some (σ o k, σ) := rfl
theorem xA_e : xA f N g e σ = (f e σ).bind fun r => (g e r.2).bind fun q => if 0 ≤ q.1 ∧ q.1 < N then some (q.2 r.1 q.1, q.2) else none := rfl
theorem xE_e : xE o N g e σ = (g e σ).bind fun q => if 0 ≤ q.1 ∧ q.1 < N then some (q.2 o q.1, q.2) else none := rfl
theorem xH_e : xH g e σ = (g e σ).bind fun q => if 0 ≤ q.1 ∧ q.1 < 4 then some (29 + 2 * q.1, q.2) else none := rfl
theorem xI_e : xI c f g e σ = (c e σ).bind fun r => if r.1 then f e r.2 else g e r.2 := rfl
theorem xZ_e : xZ c e σ = (c e σ).bind fun r => some (if r.1 then 1 else 0, r.2) := rfl
theorem xK_e (m : List Int → zHp → Option (Int × zHp)) (fs : zAs) : xK m fs e σ = (fs e σ).bind fun r => m r.1 r.2 := rfl
theorem aN_e : aN e σ = some ([], σ) := rfl
theorem aC_e (fs : zAs) : aC f fs e σ = (f e σ).bind fun r => (fs e r.2).bind fun q => some (r.1 :: q.1, q.2) := rfl
theorem cR_e (rel : Int → Int → Bool) : cR rel f g e σ = (f e σ).bind fun r => (g e r.2).bind fun q => some (rel r.1 q.1, q.2) := rfl
theorem cV_e (rel : Int → Bool) : cV rel f e σ = (f e σ).bind fun r => some (rel r.1, r.2) := rfl
theorem cA_e : cA c d e σ = (c e σ).bind fun r => if r.1 then d e r.2 else some (false, r.2) := rfl
theorem cO_e : cO c d e σ = (c e σ).bind fun r => if r.1 then some (true, r.2) else d e r.2 := rfl
theorem cN_e : cN c e σ = (c e σ).bind fun r => some (!r.1, r.2) := rfl
theorem sS_e : sS i f e σ = (f e σ).bind fun r => some (0, e.set i r.1, r.2) := rfl
theorem sX_e : sX f e σ = (f e σ).bind fun r => some (0, e, r.2) := rfl
theorem sF_e : sF f k g e σ = (f e σ).bind fun r => (g e r.2).bind fun q => some (0, e, zput q.2 r.1 k q.1) := rfl
theorem sG_e : sG o k f e σ = (f e σ).bind fun q => some (0, e, zput q.2 o k q.1) := rfl
theorem sA_e : sA f N g h e σ = (f e σ).bind fun r => (g e r.2).bind fun i => (h e i.2).bind fun q => if 0 ≤ i.1 ∧ i.1 < N then some (0, e, zput q.2 r.1 i.1 q.1) else none := rfl
theorem sE_e : sE o N g f e σ = (g e σ).bind fun i => (f e i.2).bind fun q => if 0 ≤ i.1 ∧ i.1 < N then some (0, e, zput q.2 o i.1 q.1) else none := rfl
theorem sEo_e (op : Int → Int → Int) : sEo op o N g f e σ = (g e σ).bind fun i => if 0 ≤ i.1 ∧ i.1 < N then (f e i.2).bind fun q => some (0, e, zput q.2 o i.1 (op (i.2 o i.1) q.1)) else none := rfl
theorem sK_e : sK e σ = some (0, e, σ) := rfl
theorem sQ_e : sQ u v e σ = (u e σ).bind fun r => if r.1 = 0 then v r.2.1 r.2.2 else some r := rfl
theorem sI_e : sI c u v e σ = (c e σ).bind fun r => if r.1 then u e r.2 else v e r.2 := rfl
theorem sR_e : sR f e σ = (f e σ).bind fun r => some (1, [r.1], r.2) := rfl
theorem sV_e : sV e σ = some (1, [0], σ) := rfl
theorem sB_e : sB e σ = some (2, e, σ) := rfl
theorem sC_e : sC e σ = some (3, e, σ) := rfl
theorem sD_e (ks : List Nat) : sD ks u e σ = (u e σ).bind fun r => if r.1 = 1 then some r else some (r.1, zclr ks r.2.1, r.2.2) := rfl
theorem sN_e (lo : Int) (gs : List zS) : sN f lo gs u e σ = (f e σ).bind fun r => ((if r.1 < lo then u else zpick u gs (r.1 - lo)) e r.2).bind fun q => if q.1 = 2 then some (0, q.2) else some q := rfl
end EVS
/-! loops -/
/-- n rounds, each to its end, then out -/
theorem zl_seq {c : zC} {f s : zS} (E : Nat → List Int) (S : Nat → zHp) (n : Nat) (hc : ∀ k, k < n → c (E k) (S k) = some (true, S k))
    (hb : ∀ k, k < n → ∃ t e τ, f (E k) (S k) = some (t, e, τ) ∧ (t = 0 ∨ t = 3) ∧ s e τ = some (0, E (k + 1), S (k + 1))) (hn : c (E n) (S n) = some (false, S n)) (hf : n < zfuel) : sW c f s (E 0) (S 0) = some (0, E n, S n) := by
  have key : ∀ (j k m : Nat), k + j = n → j < m → zloop c f s m (E k) (S k) = some (0, E n, S n) := by
    intro j
    induction j with
    | zero =>
      intro k m hk hm
      obtain ⟨m, rfl⟩ : ∃ m', m = m' + 1 := ⟨m - 1, by omega⟩
      have : k = n := by omega
      subst this
      simp only [zloop, hn, bs_e]
      rfl
    | succ j ih =>
      intro k m hk hm
      obtain ⟨m, rfl⟩ : ∃ m', m = m' + 1 := ⟨m - 1, by omega⟩
      obtain ⟨t, e, τ, h1, h2, h3⟩ := hb k (by omega)
      simp only [zloop, hc k (by omega), bs_e, h1, h2, h3, if_true]
      exact ih (k + 1) m (by omega) (by omega)
  exact key n 0 zfuel (by omega) hf
/-- n rounds to their ends, then a round that answers -/
theorem zl_ret {c : zC} {f s : zS} (E : Nat → List Int) (S : Nat → zHp) (n : Nat) {e1 : List Int} {τ1 : zHp} (hc : ∀ k, k ≤ n → c (E k) (S k) = some (true, S k))
    (hb : ∀ k, k < n → ∃ t e τ, f (E k) (S k) = some (t, e, τ) ∧ (t = 0 ∨ t = 3) ∧ s e τ = some (0, E (k + 1), S (k + 1))) (hn : f (E n) (S n) = some (1, e1, τ1)) (hf : n < zfuel) : sW c f s (E 0) (S 0) = some (1, e1, τ1) := by
  have key : ∀ (j k m : Nat), k + j = n → j < m → zloop c f s m (E k) (S k) = some (1, e1, τ1) := by
    intro j
    induction j with
    | zero =>
      intro k m hk hm
      obtain ⟨m, rfl⟩ : ∃ m', m = m' + 1 := ⟨m - 1, by omega⟩
      have : k = n := by omega
      subst this
      simp [zloop, hc k (by omega), bs_e, hn]
    | succ j ih =>
      intro k m hk hm
      obtain ⟨m, rfl⟩ : ∃ m', m = m' + 1 := ⟨m - 1, by omega⟩
      obtain ⟨t, e, τ, h1, h2, h3⟩ := hb k (by omega)
      simp only [zloop, hc k (by omega), bs_e, h1, h2, h3, if_true]
      exact ih (k + 1) m (by omega) (by omega)
  exact key n 0 zfuel (by omega) hf
theorem zf_lt {n : Nat} (h : n ≤ 5000000) : n < zfuel := Nat.lt_of_le_of_lt h (Nat.lt_of_succ_le (Nat.le_of_ble_eq_true rfl))
