/-! keep: what is kept by a set -/
def zDd (σ : zHp) (w c : Int) (S : Nat → Bool) (x : Int) : Int := zLd (σ 9) (zGG σ w) c x / ((2 ^ zKs σ S (σ 8 x) c : Nat) : Int)
def zKk (σ : zHp) (w b c : Int) (S : Nat → Bool) : Bool := decide (zWh (zFF σ w) (zDd σ w c S) (zNb σ) = b)
theorem zKk_iff {σ : zHp} {w b c : Int} {S : Nat → Bool} (hb : 0 ≤ b ∧ b < zNb σ) : zKk σ w b c S = true ↔ zOwn (zFF σ w) (zDd σ w c S) (zNb σ) b := by
  unfold zKk
  rw [decide_eq_true_eq]
  exact zWh_own hb
theorem zcn_mono {f g : Nat → Bool} : ∀ n : Nat, (∀ i, i < n → f i = true → g i = true) → zcn f n ≤ zcn g n
  | 0, _ => Nat.le_refl _
  | n + 1, h => by
    have ih := zcn_mono n (fun i hi => h i (by omega))
    have e1 : zcn f (n + 1) = zcn f n + if f n = true then 1 else 0 := rfl
    have e2 : zcn g (n + 1) = zcn g n + if g n = true then 1 else 0 := rfl
    rw [e1, e2]
    by_cases p : f n = true
    · rw [if_pos p, if_pos (h n (by omega) p)]; omega
    · rw [if_neg p]; omega
/-- cell u lies on the way from f to t -/
def zOnW (σ : zHp) (f t : Int) (u : Nat) : Prop := ∃ k : Nat, k < (zLen σ f t - 1).toNat ∧ (zBt σ f t ((k + 1 : Nat) : Int)).toNat = u
theorem zKs_c {σ : zHp} {S T : Nat → Bool} {f t : Int} (h : ∀ u, zOnW σ f t u → S u = T u) : zKs σ S f t = zKs σ T f t :=
  zcn_c _ (fun k hk => h _ ⟨k, hk, rfl⟩)
theorem zKk_c {σ : zHp} {w b c : Int} {S T : Nat → Bool} (h : ∀ x : Int, 0 ≤ x → x < zNb σ → ∀ u, zOnW σ (σ 8 x) c u → S u = T u) : zKk σ w b c S = zKk σ w b c T := by
  have e : ∀ x : Int, 0 ≤ x → x < zNb σ → zDd σ w c S x = zDd σ w c T x := fun x x0 x1 => by
    unfold zDd
    rw [zKs_c (h x x0 x1)]
  unfold zKk
  rw [zWh_c e]
theorem zOnW_lt {σ : zHp} (hI : zInv σ) {x c : Int} (hx : 0 ≤ x ∧ x < zNb σ) (hc : 0 ≤ c ∧ c < σ 1 2) {u : Nat} (h : zOnW σ (σ 8 x) c u) : (u : Int) < σ 1 2 := by
  obtain ⟨nb1, nb2⟩ := zNb_e hI
  obtain ⟨k, k1, k2⟩ := h
  have b := zBt_lt hI.2.2.1 ((zI3 hI).2.2.2 x hx.1 (by omega)).2.1.2 hc (k := ((k + 1 : Nat) : Int)) (by omega)
  omega
theorem zdiv_anti {g : Int} (hg : 0 ≤ g) {j k : Nat} (h : j ≤ k) : g / ((2 ^ k : Nat) : Int) ≤ g / ((2 ^ j : Nat) : Int) := by
  have p : 0 < 2 ^ j := Nat.pow_pos (by decide)
  have q : 0 < 2 ^ k := Nat.pow_pos (by decide)
  have le : 2 ^ j ≤ 2 ^ k := Nat.pow_le_pow_right (by decide) h
  obtain ⟨m, rfl⟩ : ∃ m : Nat, g = (m : Int) := ⟨g.toNat, (Int.toNat_of_nonneg hg).symm⟩
  exact Int.ofNat_le.mpr (Nat.div_le_div_left le p)
/-- without a cell that dims no other bell it is kept as well -/
theorem zKk_rm {σ : zHp} (hI : zInv σ) {w b c : Int} (hw : 0 ≤ w ∧ w ≤ 39) (hb : 0 ≤ b ∧ b < zNb σ) (hc : 0 ≤ c ∧ c < σ 1 2) {S T : Nat → Bool} {u : Nat} (h : ∀ i, i ≠ u → S i = T i) (hT : T u = false) (hu : ∀ x : Int, 0 ≤ x → x < zNb σ → x ≠ b → ¬ zOnW σ (σ 8 x) c u) (hS : zKk σ w b c S = true) : zKk σ w b c T = true := by
  obtain ⟨nc1, nc2⟩ := zNc_e hI
  rw [zKk_iff hb] at hS ⊢
  obtain ⟨h1, h2⟩ := hS
  have lb := zLd_b (zCq_I hI hw) (zWt_I hI) hb (c := c) (by omega)
  have own : zDd σ w c S b ≤ zDd σ w c T b := by
    unfold zDd
    refine zdiv_anti (by omega) (zcn_mono _ (fun k hk hk2 => ?_))
    by_cases z : (zBt σ (σ 8 b) c ((k + 1 : Nat) : Int)).toNat = u
    · rw [z, hT] at hk2
      cases hk2
    · rw [h _ z]
      exact hk2
  refine ⟨by omega, fun x x0 x1 xb => ?_⟩
  have e : zDd σ w c T x = zDd σ w c S x := by
    unfold zDd
    rw [zKs_c (S := T) (T := S)]
    intro v hv
    refine (h v (fun z => ?_)).symm
    rw [z] at hv
    exact hu x x0 x1 xb hv
  have := h2 x x0 x1 xb
  omega
/-! searching in order -/
def zFx {α : Type} (g : Nat → Option α) : Nat → Nat → Option α
  | 0, _ => none
  | j + 1, f => match g f with
    | some r => some r
    | none => zFx g j (f + 1)
theorem zFx_S {α : Type} (g : Nat → Option α) (j f : Nat) : zFx g (j + 1) f = match g f with | some r => some r | none => zFx g j (f + 1) := rfl
theorem zFx_c {α : Type} {g h : Nat → Option α} : ∀ j f : Nat, (∀ i, f ≤ i → i < f + j → g i = h i) → zFx g j f = zFx h j f
  | 0, _, _ => rfl
  | j + 1, f, e => by
    rw [zFx_S, zFx_S, e f (Nat.le_refl _) (by omega), zFx_c j (f + 1) (fun i h1 h2 => e i (by omega) (by omega))]
theorem zFx_n {α : Type} {g : Nat → Option α} : ∀ j f : Nat, zFx g j f = none → ∀ i, f ≤ i → i < f + j → g i = none
  | 0, f, _, i, h1, h2 => by omega
  | j + 1, f, e, i, h1, h2 => by
    rw [zFx_S] at e
    cases hg : g f with
    | some r => rw [hg] at e; cases e
    | none =>
      rw [hg] at e
      by_cases z : i = f
      · rw [z]; exact hg
      · exact zFx_n j (f + 1) e i (by omega) (by omega)
theorem zFx_nn {α : Type} {g : Nat → Option α} : ∀ j f : Nat, (∀ i, f ≤ i → i < f + j → g i = none) → zFx g j f = none
  | 0, _, _ => rfl
  | j + 1, f, e => by
    rw [zFx_S, e f (Nat.le_refl _) (by omega)]
    exact zFx_nn j (f + 1) (fun i h1 h2 => e i (by omega) (by omega))
theorem zFx_s {α : Type} {g : Nat → Option α} {r : α} : ∀ j f : Nat, zFx g j f = some r → ∃ i, f ≤ i ∧ i < f + j ∧ g i = some r
  | 0, _, e => by cases e
  | j + 1, f, e => by
    rw [zFx_S] at e
    cases hg : g f with
    | some q =>
      rw [hg] at e
      exact ⟨f, Nat.le_refl _, by omega, by rw [hg]; exact e⟩
    | none =>
      rw [hg] at e
      obtain ⟨i, h1, h2, h3⟩ := zFx_s j (f + 1) e
      exact ⟨i, by omega, by omega, h3⟩
/-- cells x, y, z (-9: none) -/
def zS3 (x y z : Int) (i : Nat) : Bool := decide ((i : Int) = x ∨ (i : Int) = y ∨ (i : Int) = z)
/-- sets of n cells that keep it, in order: the first of them -/
def zR0 (K : Int → Int → Int → Bool) : Option (Int × Int × Int) := if K (-9) (-9) (-9) = true then some (-9, -9, -9) else none
def zRa (p : Nat → Bool) (K : Int → Int → Int → Bool) (C : Nat) : Option (Int × Int × Int) := zFx (fun x => if p x = true ∧ K x (-9) (-9) = true then some ((x : Int), -9, -9) else none) C 0
def zRbb (p : Nat → Bool) (K : Int → Int → Int → Bool) (C : Nat) : Option (Int × Int × Int) := zFx (fun x => zFx (fun y => if p x = true ∧ p y = true ∧ K x y (-9) = true then some ((x : Int), (y : Int), -9) else none) (C - (x + 1)) (x + 1)) C 0
def zRc (p : Nat → Bool) (K : Int → Int → Int → Bool) (C : Nat) : Option (Int × Int × Int) := zFx (fun x => zFx (fun y => zFx (fun z => if p x = true ∧ p y = true ∧ p z = true ∧ K x y z = true then some ((x : Int), (y : Int), (z : Int)) else none) (C - (y + 1)) (y + 1)) (C - (x + 1)) (x + 1)) C 0
/-- by useful ones alone it comes to the same, where fewer don't do -/
theorem zRa_u {p q : Nat → Bool} {K : Int → Int → Int → Bool} {C : Nat} (hpq : ∀ i, q i = true → p i = true) (h1 : ∀ x : Nat, p x = true → q x = false → K x (-9) (-9) = true → K (-9) (-9) (-9) = true) (hn : zR0 K = none) : zRa q K C = zRa p K C := by
  refine zFx_c _ _ (fun x _ _ => ?_)
  have n0 : ¬ K (-9) (-9) (-9) = true := fun z => by unfold zR0 at hn; rw [if_pos z] at hn; cases hn
  cases hq : q x
  · by_cases g : p x = true ∧ K x (-9) (-9) = true
    · exact absurd (h1 x g.1 hq g.2) n0
    · rw [if_neg g, if_neg (fun z => by cases z.1)]
  · simp only [hpq x hq]
theorem zRa_n {p : Nat → Bool} {K : Int → Int → Int → Bool} {C : Nat} (hn : zRa p K C = none) {x : Nat} (hx : x < C) (hp : p x = true) : ¬ K x (-9) (-9) = true := fun z => by
  have := zFx_n _ _ hn x (by omega) (by omega)
  rw [if_pos ⟨hp, z⟩] at this
  cases this
theorem zRbb_u {p q : Nat → Bool} {K : Int → Int → Int → Bool} {C : Nat} (hpq : ∀ i, q i = true → p i = true) (h1 : ∀ x y : Nat, x < y → p x = true → q x = false → K x y (-9) = true → K y (-9) (-9) = true) (h2 : ∀ x y : Nat, x < y → p y = true → q y = false → K x y (-9) = true → K x (-9) (-9) = true) (hn : zRa p K C = none) : zRbb q K C = zRbb p K C := by
  refine zFx_c _ _ (fun x _ x1 => zFx_c _ _ (fun y y0 y1 => ?_))
  cases hx : q x
  · by_cases g : p x = true ∧ p y = true ∧ K x y (-9) = true
    · exact absurd (h1 x y (by omega) g.1 hx g.2.2) (zRa_n hn (by omega) g.2.1)
    · rw [if_neg g, if_neg (fun z => by cases z.1)]
  · cases hy : q y
    · by_cases g : p x = true ∧ p y = true ∧ K x y (-9) = true
      · exact absurd (h2 x y (by omega) g.2.1 hy g.2.2) (zRa_n hn (by omega) g.1)
      · rw [if_neg g, if_neg (fun z => by cases z.2.1)]
    · simp only [hpq x hx, hpq y hy]
theorem zRbb_n {p : Nat → Bool} {K : Int → Int → Int → Bool} {C : Nat} (hn : zRbb p K C = none) {x y : Nat} (hxy : x < y) (hy : y < C) (px : p x = true) (py : p y = true) : ¬ K x y (-9) = true := fun z => by
  have h := zFx_n _ _ hn x (by omega) (by omega)
  have := zFx_n _ _ h y (by omega) (by omega)
  rw [if_pos ⟨px, py, z⟩] at this
  cases this
theorem zRc_u {p q : Nat → Bool} {K : Int → Int → Int → Bool} {C : Nat} (hpq : ∀ i, q i = true → p i = true) (h1 : ∀ x y z : Nat, x < y → y < z → p x = true → q x = false → K x y z = true → K y z (-9) = true) (h2 : ∀ x y z : Nat, x < y → y < z → p y = true → q y = false → K x y z = true → K x z (-9) = true) (h3 : ∀ x y z : Nat, x < y → y < z → p z = true → q z = false → K x y z = true → K x y (-9) = true) (hn : zRbb p K C = none) : zRc q K C = zRc p K C := by
  refine zFx_c _ _ (fun x _ x1 => zFx_c _ _ (fun y y0 y1 => zFx_c _ _ (fun z z0 z1 => ?_)))
  cases hx : q x
  · by_cases g : p x = true ∧ p y = true ∧ p z = true ∧ K x y z = true
    · exact absurd (h1 x y z (by omega) (by omega) g.1 hx g.2.2.2) (zRbb_n hn (by omega) (by omega) g.2.1 g.2.2.1)
    · rw [if_neg g, if_neg (fun z => by cases z.1)]
  · cases hy : q y
    · by_cases g : p x = true ∧ p y = true ∧ p z = true ∧ K x y z = true
      · exact absurd (h2 x y z (by omega) (by omega) g.2.1 hy g.2.2.2) (zRbb_n hn (by omega) (by omega) g.1 g.2.2.1)
      · rw [if_neg g, if_neg (fun z => by cases z.2.1)]
    · cases hz : q z
      · by_cases g : p x = true ∧ p y = true ∧ p z = true ∧ K x y z = true
        · exact absurd (h3 x y z (by omega) (by omega) g.2.2.1 hz g.2.2.2) (zRbb_n hn (by omega) (by omega) g.1 g.2.1)
        · rw [if_neg g, if_neg (fun z => by cases z.2.2.1)]
      · simp only [hpq x hx, hpq y hy, hpq z hz]
