/-! loops of any kind: J holds ahead of each round, Q when it is over (0) or has answered (1) -/
theorem zl_m {c : zC} {f s : zS} (J : Nat → List Int → zHp → Prop) (Q : Nat → List Int → zHp → Prop) (n : Nat) {e : List Int} {σ : zHp} (h0 : J 0 e σ)
    (hb : ∀ k e σ, J k e σ → (∃ σ', c e σ = some (false, σ') ∧ Q 0 e σ') ∨ (k < n ∧ ∃ σ', c e σ = some (true, σ') ∧ ∃ t e1 τ, f e σ' = some (t, e1, τ) ∧ ((t = 1 ∧ Q 1 e1 τ) ∨ ((t = 0 ∨ t = 3) ∧ ∃ e2 τ2, s e1 τ = some (0, e2, τ2) ∧ J (k + 1) e2 τ2)))) (hf : n < zfuel) :
    ∃ t e2 τ, sW c f s e σ = some (t, e2, τ) ∧ Q t e2 τ := by
  have key : ∀ (j k m : Nat) (e : List Int) (σ : zHp), n ≤ k + j → j < m → J k e σ → ∃ t e2 τ, zloop c f s m e σ = some (t, e2, τ) ∧ Q t e2 τ := by
    intro j
    induction j with
    | zero =>
      intro k m e σ hk hm hJ
      obtain ⟨m, rfl⟩ : ∃ m', m = m' + 1 := ⟨m - 1, by omega⟩
      rcases hb k e σ hJ with ⟨σ', h1, h2⟩ | ⟨h, -⟩
      · refine ⟨0, e, σ', ?_, h2⟩
        simp only [zloop, h1, bs_e]
        rfl
      · omega
    | succ j ih =>
      intro k m e σ hk hm hJ
      obtain ⟨m, rfl⟩ : ∃ m', m = m' + 1 := ⟨m - 1, by omega⟩
      rcases hb k e σ hJ with ⟨σ', h1, h2⟩ | ⟨-, σ', h1, t, e1, τ, h2, h3⟩
      · refine ⟨0, e, σ', ?_, h2⟩
        simp only [zloop, h1, bs_e]
        rfl
      · rcases h3 with ⟨rfl, h4⟩ | ⟨h4, e2, τ2, h5, h6⟩
        · refine ⟨1, e1, τ, ?_, h4⟩
          simp [zloop, h1, bs_e, h2]
        · obtain ⟨t', e3, τ3, h7, h8⟩ := ih (k + 1) m e2 τ2 (by omega) (by omega) h6
          refine ⟨t', e3, τ3, ?_, h8⟩
          simp only [zloop, h1, bs_e, h2, h4, h5, if_true]
          exact h7
  exact key n 0 zfuel e σ (by omega) hf h0
/-- rounds that are counted in local i from lo on; a round may answer -/
theorem zfor {c : zC} {f : zS} {i : Nat} {lo : Int} (n : Nat) (E : Nat → List Int) (I : Nat → zHp → Prop) (Q : Nat → List Int → zHp → Prop) {σ : zHp} (h0 : I 0 σ)
    (hE : ∀ k, zg (E k) i = lo + (k : Int)) (hlo : -1000000 ≤ lo ∧ lo ≤ 1000000) (hn : n ≤ 1000000)
    (hc : ∀ k τ, k ≤ n → I k τ → c (E k) τ = some (decide (k < n), τ))
    (hb : ∀ k τ, k < n → I k τ → (∃ e υ, f (E k) τ = some (1, e, υ) ∧ Q 1 e υ) ∨ (∃ t e υ, f (E k) τ = some (t, e, υ) ∧ (t = 0 ∨ t = 3) ∧ zg e i = lo + (k : Int) ∧ e.set i (lo + ((k + 1 : Nat) : Int)) = E (k + 1) ∧ I (k + 1) υ))
    (hq : ∀ τ, I n τ → Q 0 (E n) τ) : ∃ t e τ, sW c f (sS i (xB o_iadd (xL i) (xC 1))) (E 0) σ = some (t, e, τ) ∧ Q t e τ := by
  refine zl_m (fun k e τ => k ≤ n ∧ e = E k ∧ I k τ) Q n ⟨Nat.zero_le _, rfl, h0⟩ ?_ (zf_lt (by omega))
  rintro k e τ ⟨hk, rfl, hI⟩
  by_cases q : k < n
  · refine Or.inr ⟨q, τ, by rw [hc k τ hk hI, decide_eq_true q], ?_⟩
    rcases hb k τ q hI with ⟨e1, υ, h1, h2⟩ | ⟨t, e1, υ, h1, h2, h3, h4, h5⟩
    · exact ⟨1, e1, υ, h1, Or.inl ⟨rfl, h2⟩⟩
    · refine ⟨t, e1, υ, h1, Or.inr ⟨h2, E (k + 1), υ, ?_, by omega, rfl, h5⟩⟩
      have e : o_iadd (lo + (k : Int)) 1 = lo + ((k + 1 : Nat) : Int) := by
        have : o_iadd (lo + (k : Int)) 1 = lo + (k : Int) + 1 := w32_id ⟨by omega, by omega⟩
        omega
      simp only [sS_e, xB_e, xL_e, xC_e, bs_e, h3, e, h4]
  · have : k = n := by omega
    subst this
    exact Or.inl ⟨τ, by rw [hc k τ hk hI, decide_eq_false q], hq τ hI⟩
theorem zfor0 {c : zC} {f : zS} {i : Nat} {lo : Int} (n : Nat) (E : Nat → List Int) (I : Nat → zHp → Prop) {σ : zHp} (h0 : I 0 σ)
    (hE : ∀ k, zg (E k) i = lo + (k : Int)) (hlo : -1000000 ≤ lo ∧ lo ≤ 1000000) (hn : n ≤ 1000000)
    (hc : ∀ k τ, k ≤ n → I k τ → c (E k) τ = some (decide (k < n), τ))
    (hb : ∀ k τ, k < n → I k τ → ∃ t e υ, f (E k) τ = some (t, e, υ) ∧ (t = 0 ∨ t = 3) ∧ zg e i = lo + (k : Int) ∧ e.set i (lo + ((k + 1 : Nat) : Int)) = E (k + 1) ∧ I (k + 1) υ) :
    ∃ τ, sW c f (sS i (xB o_iadd (xL i) (xC 1))) (E 0) σ = some (0, E n, τ) ∧ I n τ := by
  obtain ⟨t, e, τ, h1, h2, h3, h4⟩ := zfor n E I (fun t e τ => t = 0 ∧ e = E n ∧ I n τ) h0 hE hlo hn hc (fun k τ hk hI => Or.inr (hb k τ hk hI)) (fun τ hI => ⟨rfl, rfl, hI⟩)
  subst h2
  subst h3
  exact ⟨τ, h1, h4⟩
/-- the same, where nothing is written -/
theorem zforP {c : zC} {f : zS} {i : Nat} {lo : Int} (n : Nat) (E : Nat → List Int) {σ : zHp}
    (hE : ∀ k, zg (E k) i = lo + (k : Int)) (hlo : -1000000 ≤ lo ∧ lo ≤ 1000000) (hn : n ≤ 1000000)
    (hc : ∀ k, k ≤ n → c (E k) σ = some (decide (k < n), σ))
    (hb : ∀ k, k < n → ∃ t e, f (E k) σ = some (t, e, σ) ∧ (t = 0 ∨ t = 3) ∧ zg e i = lo + (k : Int) ∧ e.set i (lo + ((k + 1 : Nat) : Int)) = E (k + 1)) :
    sW c f (sS i (xB o_iadd (xL i) (xC 1))) (E 0) σ = some (0, E n, σ) := by
  obtain ⟨τ, h1, h2⟩ := zfor0 n E (fun _ τ => τ = σ) (σ := σ) rfl hE hlo hn (fun k τ hk h => by subst h; exact hc k hk) (fun k τ hk h => by
    subst h
    obtain ⟨t, e, h1, h2, h3, h4⟩ := hb k hk
    exact ⟨t, e, τ, h1, h2, h3, h4, rfl⟩)
  subst h2
  exact h1
theorem zc_lt {i k n : Nat} {g : zX} {e : List Int} {σ : zHp} {x N : Int} (hx : zg e i = x) (hg : g e σ = some (N, σ)) (h : x < N ↔ k < n) : cR r_lt (xL i) g e σ = some (decide (k < n), σ) := by
  simp only [cR_e, xL_e, bs_e, hg, hx, r_lt, h]
theorem zc_le {i k n : Nat} {g : zX} {e : List Int} {σ : zHp} {x N : Int} (hx : zg e i = x) (hg : g e σ = some (N, σ)) (h : x ≤ N ↔ k < n) : cR r_le (xL i) g e σ = some (decide (k < n), σ) := by
  simp only [cR_e, xL_e, bs_e, hg, hx, r_le, h]
theorem zx_G {o k N : Int} {e : List Int} {σ : zHp} (h : σ o k = N) : xG o k e σ = some (N, σ) := by rw [xG_e, h]
/-! spec: sets, sums, the first -/
def zSt2 (f : Nat → Bool) : Nat → Int
  | 0 => 0
  | k + 1 => zOr (zSt2 f k) (if f k = true then zShl 1 (k : Int) else 0)
def zSm (f : Nat → Int) : Nat → Int
  | 0 => 0
  | k + 1 => zSm f k + f k
theorem zSt2_c {f g : Nat → Bool} : ∀ n : Nat, (∀ i, i < n → f i = g i) → zSt2 f n = zSt2 g n
  | 0, _ => rfl
  | n + 1, h => by
    unfold zSt2
    rw [zSt2_c n (fun i hi => h i (by omega)), h n (by omega)]
theorem zSm_c {f g : Nat → Int} : ∀ n : Nat, (∀ i, i < n → f i = g i) → zSm f n = zSm g n
  | 0, _ => rfl
  | n + 1, h => by
    unfold zSm
    rw [zSm_c n (fun i hi => h i (by omega)), h n (by omega)]
theorem zSm_b {f : Nat → Int} {lo hi : Int} : ∀ n : Nat, (∀ i, i < n → lo ≤ f i ∧ f i ≤ hi) → (n : Int) * lo ≤ zSm f n ∧ zSm f n ≤ (n : Int) * hi
  | 0, _ => by simp [zSm]
  | n + 1, h => by
    have := zSm_b n (fun i hi => h i (by omega))
    have b := h n (by omega)
    show _ ≤ zSm f n + f n ∧ zSm f n + f n ≤ _
    have e1 : ((n + 1 : Nat) : Int) * lo = (n : Int) * lo + lo := by rw [Int.natCast_succ, Int.add_mul, Int.one_mul]
    have e2 : ((n + 1 : Nat) : Int) * hi = (n : Int) * hi + hi := by rw [Int.natCast_succ, Int.add_mul, Int.one_mul]
    omega
theorem r32_0 : r32 0 := ⟨by decide, by decide⟩
theorem r32_St2 (f : Nat → Bool) : ∀ n, r32 (zSt2 f n)
  | 0 => r32_0
  | _ + 1 => r32_or _ _
theorem zt_St2 (f : Nat → Bool) : ∀ n : Nat, n ≤ 32 → ∀ i : Nat, zt (zSt2 f n) i = (decide (i < n) && f i)
  | 0, _, i => by
    show zt 0 i = _
    rw [zbt0]
    simp
  | n + 1, hn, i => by
    show zt (zOr (zSt2 f n) _) i = _
    rw [zt_or, zt_St2 f n (by omega)]
    by_cases h : f n = true
    · rw [if_pos h, zt_bit (by omega)]
      by_cases q : i = n
      · subst q
        simp [h]
      · have : (i < n + 1) ↔ (i < n) := by omega
        simp [q, this]
    · rw [if_neg h, zbt0]
      by_cases q : i = n
      · subst q
        simp [h]
      · have : (i < n + 1) ↔ (i < n) := by omega
        simp [this]
theorem zOr_0 {x : Int} (h : r32 x) : zOr x 0 = x := zt_ext (r32_or _ _) h (fun i hi => by rw [zt_or, zbt0, Bool.or_false])
theorem zcn_2 {f : Nat → Bool} : ∀ n : Nat, 2 ≤ zcn f n → ∃ i j, i < n ∧ j < n ∧ i ≠ j ∧ f i = true ∧ f j = true
  | 0, h => by simp [zcn] at h
  | n + 1, h => by
    have e : zcn f (n + 1) = zcn f n + if f n = true then 1 else 0 := rfl
    by_cases q : 2 ≤ zcn f n
    · obtain ⟨i, j, h1, h2, h3⟩ := zcn_2 n q
      exact ⟨i, j, by omega, by omega, h3⟩
    · by_cases r : f n = true
      · rw [if_pos r] at e
        have : ∃ i, i < n ∧ f i = true := by
          refine Classical.byContradiction (fun z => ?_)
          have := zcn_z n (f := f) (fun i hi => by
            cases hf : f i with
            | false => rfl
            | true => exact absurd ⟨i, hi, hf⟩ z)
          omega
        obtain ⟨i, h1, h2⟩ := this
        exact ⟨i, n, by omega, by omega, by omega, h2, r⟩
      · rw [if_neg r] at e
        omega
theorem zcn_ge {f : Nat → Bool} : ∀ n i : Nat, i < n → f i = true → 1 ≤ zcn f n
  | 0, i, h, _ => by omega
  | n + 1, i, h, hf => by
    have e : zcn f (n + 1) = zcn f n + if f n = true then 1 else 0 := rfl
    by_cases q : i = n
    · subst q
      rw [if_pos hf] at e
      omega
    · have := zcn_ge n i (by omega) hf
      omega
theorem zcn_ge2 {f : Nat → Bool} : ∀ n i j : Nat, i < j → j < n → f i = true → f j = true → 2 ≤ zcn f n
  | 0, i, j, _, h, _, _ => by omega
  | n + 1, i, j, hij, h, hi, hj => by
    have e : zcn f (n + 1) = zcn f n + if f n = true then 1 else 0 := rfl
    by_cases q : j = n
    · subst q
      rw [if_pos hj] at e
      have := zcn_ge j i hij hi
      omega
    · have := zcn_ge2 n i j hij (by omega) hi hj
      omega
