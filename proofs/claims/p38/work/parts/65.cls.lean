/-! the class: what it has laid out, and what holds of the numbers -/
def zCp (σ : zHp) (n C : Nat) (F : Int) (W : Int → Int) (G : Int → Int → Int) : Prop := σ 6 0 = n ∧ σ 1 2 = C ∧ σ 10 5 = F ∧ (∀ b : Int, 0 ≤ b → b < n → σ 9 b = W b) ∧ ∀ b c : Int, 0 ≤ b → b < n → 0 ≤ c → c < C → σ 12 (30 * b + c) = G b c
def zCq (n C : Nat) (F : Int) (G : Int → Int → Int) : Prop := n ≤ 6 ∧ C ≤ 30 ∧ (0 ≤ F ∧ F ≤ 112069973672616960) ∧ ∀ b c : Int, 0 ≤ b → b < n → 0 ≤ c → c < C → 1 ≤ G b c ∧ G b c ≤ 21508378785653760
theorem zLd_b {n C : Nat} {F : Int} {W : Int → Int} {G : Int → Int → Int} (hQ : zCq n C F G) (hW : zWt n W) {b c : Int} (hb : 0 ≤ b ∧ b < n) (hc : 0 ≤ c ∧ c < C) : 1 ≤ zLd W G c b ∧ zLd W G c b ≤ 2129329499779722240 := by
  have g := hQ.2.2.2 b c hb.1 hb.2 hc.1 hc.2
  have w := hW b hb.1 hb.2
  unfold zLd
  have h1 : 1 * 1 ≤ W b * G b c := Int.mul_le_mul (by omega) (by omega) (by omega) (by omega)
  have h2 : W b * G b c ≤ 99 * 21508378785653760 := Int.mul_le_mul (by omega) (by omega) (by omega) (by omega)
  omega
theorem w_ld {σ : zHp} {n C : Nat} {F : Int} {W : Int → Int} {G : Int → Int → Int} (hC : zCp σ n C F W G) (hQ : zCq n C F G) (hW : zWt n W) {b c : Int} (hb : 0 ≤ b ∧ b < n) (hc : 0 ≤ c ∧ c < C) : m_X0_loudness [10, b, c] σ = some (zLd W G c b, σ) := by
  have n6 := hQ.1
  have c30 := hQ.2.1
  have w := hW b hb.1 hb.2
  exact w_loudness (by omega) (by omega) (hC.2.2.2.1 b hb.1 hb.2) (hC.2.2.2.2 b c hb.1 hb.2 hc.1 hc.2) (by omega) (hQ.2.2.2 b c hb.1 hb.2 hc.1 hc.2)
/-! the set of the loudest -/
def zLI (F : Int) (L : Int → Int) : Nat → Int × Int
  | 0 => (F, 0)
  | k + 1 => if (zLI F L k).1 < L k then (L k, zShl 1 (k : Int)) else if L k = (zLI F L k).1 then ((zLI F L k).1, zOr (zLI F L k).2 (zShl 1 (k : Int))) else zLI F L k
theorem zLI_S (F : Int) (L : Int → Int) (k : Nat) : zLI F L (k + 1) = if (zLI F L k).1 < L k then (L k, zShl 1 (k : Int)) else if L k = (zLI F L k).1 then ((zLI F L k).1, zOr (zLI F L k).2 (zShl 1 (k : Int))) else zLI F L k := rfl
theorem zLI_s (F : Int) (L : Int → Int) : ∀ n : Nat, n ≤ 32 → r32 (zLI F L n).2 ∧ F ≤ (zLI F L n).1 ∧ (∀ b : Int, 0 ≤ b → b < n → L b ≤ (zLI F L n).1) ∧ ((zLI F L n).1 = F ∨ ∃ b : Int, 0 ≤ b ∧ b < n ∧ L b = (zLI F L n).1) ∧ ∀ i : Nat, zt (zLI F L n).2 i = true ↔ i < n ∧ L i = (zLI F L n).1
  | 0, _ => ⟨r32_0, Int.le_refl _, fun b h0 h1 => by omega, Or.inl rfl, fun i => by
      show zt 0 i = true ↔ _
      rw [zbt0]
      simp⟩
  | n + 1, hn => by
    obtain ⟨h1, h2, h3, h4, h5⟩ := zLI_s F L n (by omega)
    rw [zLI_S]
    generalize zLI F L n = r at *
    by_cases p : r.1 < L n
    · rw [if_pos p]
      refine ⟨r32_shl _ _, by show F ≤ L n; omega, fun b b0 b1 => ?_, Or.inr ⟨n, by omega, by omega, rfl⟩, fun i => ?_⟩
      · show L b ≤ L n
        by_cases z : b = (n : Int)
        · rw [z]; exact Int.le_refl _
        · have := h3 b b0 (by omega)
          omega
      · show zt (zShl 1 (n : Int)) i = true ↔ i < n + 1 ∧ L i = L n
        rw [zt_bit (by omega), decide_eq_true_eq]
        constructor
        · rintro rfl
          exact ⟨by omega, rfl⟩
        · rintro ⟨i1, i2⟩
          rcases Nat.lt_or_ge i n with q | q
          · have := h3 (i : Int) (by omega) (by omega)
            omega
          · omega
    · rw [if_neg p]
      by_cases p2 : L n = r.1
      · rw [if_pos p2]
        refine ⟨r32_or _ _, h2, fun b b0 b1 => ?_, Or.inr ⟨n, by omega, by omega, p2⟩, fun i => ?_⟩
        · show L b ≤ r.1
          by_cases z : b = (n : Int)
          · rw [z]; omega
          · exact h3 b b0 (by omega)
        · show zt (zOr r.2 (zShl 1 (n : Int))) i = true ↔ i < n + 1 ∧ L i = r.1
          rw [zt_or, zt_bit (by omega), Bool.or_eq_true, h5, decide_eq_true_eq]
          constructor
          · rintro (⟨i1, i2⟩ | rfl)
            · exact ⟨by omega, i2⟩
            · exact ⟨by omega, p2⟩
          · rintro ⟨i1, i2⟩
            rcases Nat.lt_or_ge i n with q | q
            · exact Or.inl ⟨q, i2⟩
            · exact Or.inr (by omega)
      · rw [if_neg p2]
        refine ⟨h1, h2, fun b b0 b1 => ?_, ?_, fun i => ?_⟩
        · by_cases z : b = (n : Int)
          · rw [z]; omega
          · exact h3 b b0 (by omega)
        · rcases h4 with h4 | ⟨b, b0, b1, b2⟩
          · exact Or.inl h4
          · exact Or.inr ⟨b, b0, by omega, b2⟩
        · rw [h5]
          constructor
          · rintro ⟨i1, i2⟩
            exact ⟨by omega, i2⟩
          · rintro ⟨i1, i2⟩
            refine ⟨?_, i2⟩
            rcases Nat.lt_or_ge i n with q | q
            · exact q
            · have : i = n := by omega
              subst this
              exact absurd i2 p2
theorem zLI_t (F : Int) (L : Int → Int) (n : Nat) (hn : n ≤ 32) (i : Nat) : zt (zLI F L n).2 i = decide (i < n ∧ F ≤ L (zMo L n).2 ∧ L i = L (zMo L n).2) := by
  obtain ⟨h1, h2, h3, h4, h5⟩ := zLI_s F L n hn
  have e : zt (zLI F L n).2 i = true ↔ (i < n ∧ F ≤ L (zMo L n).2 ∧ L i = L (zMo L n).2) := by
    rw [h5]
    rcases Nat.eq_zero_or_pos n with q | q
    · omega
    · obtain ⟨s1, s2, s3, s4, s5⟩ := zMo_s L n q
      constructor
      · rintro ⟨i1, i2⟩
        have a := h3 _ s2 s3
        have b := s4 (i : Int) (by omega) (by omega)
        exact ⟨i1, by omega, by omega⟩
      · rintro ⟨i1, i2, i3⟩
        refine ⟨i1, ?_⟩
        have a := h3 _ s2 s3
        rcases h4 with h4 | ⟨b, b0, b1, b2⟩
        · omega
        · have := s4 b b0 b1
          omega
  by_cases z : zt (zLI F L n).2 i = true
  · rw [z]
    exact (decide_eq_true (e.mp z)).symm
  · rw [decide_eq_false (fun y => z (e.mpr y))]
    exact Bool.eq_false_iff.mpr z
theorem w_liBody {σ : zHp} {c mo s k g : Int} (h : m_X0_loudness [10, k, c] σ = some (g, σ)) : lf_X0_loudestIn_1 [10, c, mo, 0, s, k, 0, 0] σ = some (0, if mo < g then [10, c, g, 0, zShl 1 k, k, 0, 0] else if g = mo then [10, c, mo, 0, zOr s (zShl 1 k), k, 0, 0] else [10, c, mo, 0, s, k, 0, 0], σ) := by
  by_cases p : mo < g
  · simp [lf_X0_loudestIn_1, xC_e, xL_e, xU_e, xB_e, xD_e, xF_e, xG_e, xA_e, xE_e, xH_e, xI_e, xZ_e, xK_e, aN_e, aC_e, cR_e, cV_e, cA_e, cO_e, cN_e, bs_e, bn_e, zg_0, zg_S, sS_e, sX_e, sF_e, sG_e, sA_e, sE_e, sEo_e, sK_e, sQ_e, sI_e, sR_e, sV_e, sB_e, sC_e, sD_e, sN_e, st_0, st_S, zc_0, zc_S, r_eq, r_ne, r_lt, r_le, r_gt, r_ge, rb_ite, rb_0, rb_1, h, p]
  · by_cases p2 : g = mo
    · simp [lf_X0_loudestIn_1, xC_e, xL_e, xU_e, xB_e, xD_e, xF_e, xG_e, xA_e, xE_e, xH_e, xI_e, xZ_e, xK_e, aN_e, aC_e, cR_e, cV_e, cA_e, cO_e, cN_e, bs_e, bn_e, zg_0, zg_S, sS_e, sX_e, sF_e, sG_e, sA_e, sE_e, sEo_e, sK_e, sQ_e, sI_e, sR_e, sV_e, sB_e, sC_e, sD_e, sN_e, st_0, st_S, zc_0, zc_S, r_eq, r_ne, r_lt, r_le, r_gt, r_ge, rb_ite, rb_0, rb_1, h, p2]
    · simp [lf_X0_loudestIn_1, xC_e, xL_e, xU_e, xB_e, xD_e, xF_e, xG_e, xA_e, xE_e, xH_e, xI_e, xZ_e, xK_e, aN_e, aC_e, cR_e, cV_e, cA_e, cO_e, cN_e, bs_e, bn_e, zg_0, zg_S, sS_e, sX_e, sF_e, sG_e, sA_e, sE_e, sEo_e, sK_e, sQ_e, sI_e, sR_e, sV_e, sB_e, sC_e, sD_e, sN_e, st_0, st_S, zc_0, zc_S, r_eq, r_ne, r_lt, r_le, r_gt, r_ge, rb_ite, rb_0, rb_1, h, p, p2]
theorem w_liEval {σ : zHp} {c F mo s k : Int} (hF : σ 10 5 = F) (h : sW lc_X0_loudestIn_1 lf_X0_loudestIn_1 ls_X0_loudestIn_1 [10, c, F, 0, 0, 0, 0, 0] σ = some (0, [10, c, mo, 0, s, k, 0, 0], σ)) : m_X0_loudestIn [10, c] σ = some (s, σ) := by
  simp [e_X0_loudestIn, d_X0_loudestIn, xC_e, xL_e, xU_e, xB_e, xD_e, xF_e, xG_e, xA_e, xE_e, xH_e, xI_e, xZ_e, xK_e, aN_e, aC_e, cR_e, cV_e, cA_e, cO_e, cN_e, bs_e, bn_e, zg_0, zg_S, sS_e, sX_e, sF_e, sG_e, sA_e, sE_e, sEo_e, sK_e, sQ_e, sI_e, sR_e, sV_e, sB_e, sC_e, sD_e, sN_e, st_0, st_S, zc_0, zc_S, hF, h]
theorem z0k (k : Nat) : (0 : Int) + (k : Int) = (k : Int) := by omega
theorem w_li {σ : zHp} {n C : Nat} {F : Int} {W : Int → Int} {G : Int → Int → Int} (hC : zCp σ n C F W G) (hQ : zCq n C F G) (hW : zWt n W) {c : Int} (hc : 0 ≤ c ∧ c < C) : m_X0_loudestIn [10, c] σ = some ((zLI F (zLd W G c) n).2, σ) := by
  have n6 := hQ.1
  refine w_liEval (mo := (zLI F (zLd W G c) n).1) (k := 0 + (n : Int)) hC.2.2.1 ?_
  refine zforP (c := lc_X0_loudestIn_1) (f := lf_X0_loudestIn_1) (i := 5) (lo := 0) n (fun k => [10, c, (zLI F (zLd W G c) k).1, 0, (zLI F (zLd W G c) k).2, 0 + (k : Int), 0, 0]) (fun k => rfl) (by decide) (by omega)
    (fun k hk => zc_lt (i := 5) (x := 0 + (k : Int)) rfl (zx_G (N := n) hC.1) (by omega)) (fun k hk => ?_)
  have body := w_liBody (mo := (zLI F (zLd W G c) k).1) (s := (zLI F (zLd W G c) k).2) (w_ld hC hQ hW (b := (k : Int)) (by omega) hc)
  rw [z0k, z0k, zLI_S]
  refine ⟨_, _, body, Or.inl rfl, ?_, ?_⟩
  · split
    · rfl
    · split <;> rfl
  · split
    · rfl
    · split <;> rfl
/-! what must be surpassed -/
def zBr (F : Int) (L : Int → Int) (a b : Int) : Nat → Int
  | 0 => max 0 (F - 1)
  | k + 1 => if (k : Int) ≠ a ∧ (k : Int) ≠ b then max (zBr F L a b k) (L k) else zBr F L a b k
theorem zBr_s (F : Int) (L : Int → Int) (a b y : Int) : ∀ n : Nat, zBr F L a b n < y ↔ (0 < y ∧ F ≤ y ∧ ∀ x : Int, 0 ≤ x → x < n → x ≠ a → x ≠ b → L x < y)
  | 0 => by
    show max 0 (F - 1) < y ↔ _
    constructor
    · intro h
      exact ⟨by omega, by omega, fun x x0 x1 => by omega⟩
    · rintro ⟨h1, h2, -⟩
      omega
  | n + 1 => by
    have ih := zBr_s F L a b y n
    show (if (n : Int) ≠ a ∧ (n : Int) ≠ b then max (zBr F L a b n) (L n) else zBr F L a b n) < y ↔ _
    by_cases p : (n : Int) ≠ a ∧ (n : Int) ≠ b
    · rw [if_pos p]
      constructor
      · intro h
        obtain ⟨h1, h2, h3⟩ := ih.mp (by omega)
        refine ⟨h1, h2, fun x x0 x1 xa xb => ?_⟩
        by_cases z : x = (n : Int)
        · rw [z]; omega
        · exact h3 x x0 (by omega) xa xb
      · rintro ⟨h1, h2, h3⟩
        have i1 := ih.mpr ⟨h1, h2, fun x x0 x1 xa xb => h3 x x0 (by omega) xa xb⟩
        have i2 := h3 n (by omega) (by omega) p.1 p.2
        omega
    · rw [if_neg p, ih]
      constructor
      · rintro ⟨h1, h2, h3⟩
        refine ⟨h1, h2, fun x x0 x1 xa xb => ?_⟩
        by_cases z : x = (n : Int)
        · subst z
          exact absurd ⟨xa, xb⟩ p
        · exact h3 x x0 (by omega) xa xb
      · rintro ⟨h1, h2, h3⟩
        exact ⟨h1, h2, fun x x0 x1 xa xb => h3 x x0 (by omega) xa xb⟩
theorem zBr_b {F : Int} {L : Int → Int} {a b : Int} (hF : 0 ≤ F ∧ F ≤ 112069973672616960) : ∀ n : Nat, (∀ x : Int, 0 ≤ x → x < n → L x ≤ 2129329499779722240) → 0 ≤ zBr F L a b n ∧ zBr F L a b n ≤ 2129329499779722240
  | 0, _ => by
    show 0 ≤ max 0 (F - 1) ∧ max 0 (F - 1) ≤ _
    omega
  | n + 1, h => by
    have ih := zBr_b (F := F) (L := L) (a := a) (b := b) hF n (fun x x0 x1 => h x x0 (by omega))
    have hn := h n (by omega) (by omega)
    show 0 ≤ (if (n : Int) ≠ a ∧ (n : Int) ≠ b then max (zBr F L a b n) (L n) else zBr F L a b n) ∧ (if (n : Int) ≠ a ∧ (n : Int) ≠ b then max (zBr F L a b n) (L n) else zBr F L a b n) ≤ _
    split <;> omega
theorem o_maxl_e (x y : Int) : o_maxl x y = max x y := by
  unfold o_maxl
  split <;> omega
theorem w_barBody {σ : zHp} {o c a b mo k w g v : Int} (hk : 0 ≤ k ∧ k < 6) (hc : 0 ≤ c ∧ c < 30) (hw : σ o k = w) (hg : σ 12 (30 * k + c) = g) (hv : o_lmul w g = v) : lf_X0_bar_1 [10, o, c, a, b, mo, 0, k] σ = some (0, [10, o, c, a, b, if k ≠ a ∧ k ≠ b then max mo v else mo, 0, k], σ) := by
  have z1 := (z30 (b := k) (c := c) (by omega) hc).1
  have i1 : 0 ≤ 30 * k + c ∧ 30 * k + c < 180 := by omega
  by_cases p : k = a
  · simp [lf_X0_bar_1, xC_e, xL_e, xU_e, xB_e, xD_e, xF_e, xG_e, xA_e, xE_e, xH_e, xI_e, xZ_e, xK_e, aN_e, aC_e, cR_e, cV_e, cA_e, cO_e, cN_e, bs_e, bn_e, zg_0, zg_S, sS_e, sX_e, sF_e, sG_e, sA_e, sE_e, sEo_e, sK_e, sQ_e, sI_e, sR_e, sV_e, sB_e, sC_e, sD_e, sN_e, st_0, st_S, zc_0, zc_S, r_eq, r_ne, r_lt, r_le, r_gt, r_ge, rb_ite, rb_0, rb_1, p]
  · by_cases p2 : k = b
    · have q : ¬ b = a := by omega
      simp [lf_X0_bar_1, xC_e, xL_e, xU_e, xB_e, xD_e, xF_e, xG_e, xA_e, xE_e, xH_e, xI_e, xZ_e, xK_e, aN_e, aC_e, cR_e, cV_e, cA_e, cO_e, cN_e, bs_e, bn_e, zg_0, zg_S, sS_e, sX_e, sF_e, sG_e, sA_e, sE_e, sEo_e, sK_e, sQ_e, sI_e, sR_e, sV_e, sB_e, sC_e, sD_e, sN_e, st_0, st_S, zc_0, zc_S, r_eq, r_ne, r_lt, r_le, r_gt, r_ge, rb_ite, rb_0, rb_1, p2, q]
    · simp [lf_X0_bar_1, xC_e, xL_e, xU_e, xB_e, xD_e, xF_e, xG_e, xA_e, xE_e, xH_e, xI_e, xZ_e, xK_e, aN_e, aC_e, cR_e, cV_e, cA_e, cO_e, cN_e, bs_e, bn_e, zg_0, zg_S, sS_e, sX_e, sF_e, sG_e, sA_e, sE_e, sEo_e, sK_e, sQ_e, sI_e, sR_e, sV_e, sB_e, sC_e, sD_e, sN_e, st_0, st_S, zc_0, zc_S, r_eq, r_ne, r_lt, r_le, r_gt, r_ge, rb_ite, rb_0, rb_1, p, p2, hk, z1, i1, hw, hg, hv, o_maxl_e]
theorem w_barEval {σ : zHp} {o c a b F m0 mo k : Int} (hF : σ 10 5 = F) (h0 : o_maxl 0 (o_lsub F 1) = m0) (h : sW lc_X0_bar_1 lf_X0_bar_1 ls_X0_bar_1 [10, o, c, a, b, m0, 0, 0] σ = some (0, [10, o, c, a, b, mo, 0, k], σ)) : m_X0_bar [10, o, c, a, b] σ = some (mo, σ) := by
  simp [e_X0_bar, d_X0_bar, xC_e, xL_e, xU_e, xB_e, xD_e, xF_e, xG_e, xA_e, xE_e, xH_e, xI_e, xZ_e, xK_e, aN_e, aC_e, cR_e, cV_e, cA_e, cO_e, cN_e, bs_e, bn_e, zg_0, zg_S, sS_e, sX_e, sF_e, sG_e, sA_e, sE_e, sEo_e, sK_e, sQ_e, sI_e, sR_e, sV_e, sB_e, sC_e, sD_e, sN_e, st_0, st_S, zc_0, zc_S, hF, h0, h]
/-- the weights in row o -/
theorem w_bar {σ : zHp} {n C : Nat} {F o : Int} {W V : Int → Int} {G : Int → Int → Int} (hC : zCp σ n C F W G) (hQ : zCq n C F G) (hV : ∀ b : Int, 0 ≤ b → b < n → σ o b = V b) (hW : zWt n V) {c : Int} (hc : 0 ≤ c ∧ c < C) (a b : Int) : m_X0_bar [10, o, c, a, b] σ = some (zBr F (zLd V G c) a b n, σ) := by
  have n6 := hQ.1
  have c30 := hQ.2.1
  have hF := hQ.2.2.1
  refine w_barEval (m0 := max 0 (F - 1)) (k := 0 + (n : Int)) hC.2.2.1 ?_ ?_
  · have : o_lsub F 1 = F - 1 := w64_id ⟨by omega, by omega⟩
    rw [this, o_maxl_e]
  · refine zforP (c := lc_X0_bar_1) (f := lf_X0_bar_1) (i := 7) (lo := 0) n (fun k => [10, o, c, a, b, zBr F (zLd V G c) a b k, 0, 0 + (k : Int)]) (fun k => rfl) (by decide) (by omega)
      (fun k hk => zc_lt (i := 7) (x := 0 + (k : Int)) rfl (zx_G (N := n) hC.1) (by omega)) (fun k hk => ?_)
    have lb := zLd_b hQ hW (b := (k : Int)) (c := c) (by omega) hc
    have body := w_barBody (σ := σ) (o := o) (a := a) (b := b) (mo := zBr F (zLd V G c) a b k) (k := (k : Int)) (c := c) (v := zLd V G c k) (by omega) (by omega) (hV k (by omega) (by omega)) (hC.2.2.2.2 k c (by omega) (by omega) hc.1 hc.2) (w64_id ⟨by unfold zLd at lb; omega, by unfold zLd at lb; omega⟩)
    rw [z0k, z0k]
    exact ⟨_, _, body, Or.inl rfl, rfl, rfl⟩
