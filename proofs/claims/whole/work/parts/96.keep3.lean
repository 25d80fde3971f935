/-! keep: the class -/
def zwy (σ : zHp) (c x : Int) : Int := zWy σ (σ 8 x) c (zLen σ (σ 8 x) c - 1).toNat
theorem zWy_eq {σ τ : zHp} (h : τ 1 1 = σ 1 1) (f t : Int) : ∀ m, zWy τ f t m = zWy σ f t m
  | 0 => rfl
  | m + 1 => by
    show zOr (zWy τ f t m) (zShl 1 (zBt τ f t (m + 1))) = zOr (zWy σ f t m) (zShl 1 (zBt σ f t (m + 1)))
    rw [zWy_eq h f t m, zBt_eq h]
theorem zcnt_wy {σ : zHp} (hI : zInv σ) {x c : Int} (hx : 0 ≤ x ∧ x < zNb σ) (hc : 0 ≤ c ∧ c < σ 1 2) (s : Int) : zcnt (zAnd (zwy σ c x) s) = (zKs σ (zt s) (σ 8 x) c : Nat) := by
  obtain ⟨nb1, nb2⟩ := zNb_e hI
  exact zcnt_Wy hI.2.2.1 ((zI3 hI).2.2.2 x hx.1 (by omega)).2.1.2 hc s _ (by omega)
theorem zOnW_t {σ : zHp} (hI : zInv σ) {x c : Int} (hx : 0 ≤ x ∧ x < zNb σ) (hc : 0 ≤ c ∧ c < σ 1 2) {u : Nat} (h : zOnW σ (σ 8 x) c u) : zt (zwy σ c x) u = true := by
  obtain ⟨nb1, nb2⟩ := zNb_e hI
  have nN := zN_eq hI.2.2.1
  have hf := ((zI3 hI).2.2.2 x hx.1 (by omega)).2.1.2
  obtain ⟨k, k1, k2⟩ := h
  have key : ∀ m : Nat, m ≤ (zLen σ (σ 8 x) c - 1).toNat → k < m → zt (zWy σ (σ 8 x) c m) u = true := by
    intro m
    induction m with
    | zero => intro _ h; omega
    | succ m ih =>
      intro hm hk
      have b := zBt_lt hI.2.2.1 hf hc (k := ((m + 1 : Nat) : Int)) (by omega)
      show zt (zOr (zWy σ (σ 8 x) c m) (zShl 1 (zBt σ (σ 8 x) c ((m + 1 : Nat) : Int)))) u = true
      rw [zt_or, zt_bit_i (by omega), Bool.or_eq_true]
      by_cases z : k = m
      · subst z
        exact Or.inr (decide_eq_true (by omega))
      · exact Or.inl (ih (by omega) (by omega))
  exact key _ (Nat.le_refl _) k1
/-- the woods' rows lie ready -/
def zWd2 (σ τ : zHp) (w b c : Int) : Prop := τ 6 0 = σ 6 0 ∧ τ 1 2 = σ 1 2 ∧ τ 10 5 = zFF σ w ∧ τ 19 5 = b ∧ ∀ x : Int, 0 ≤ x → x < zNb σ → τ 20 x = zLd (σ 9) (zGG σ w) c x ∧ τ 21 x = zwy σ c x
theorem w_dmEval {τ : zHp} {x s g y v : Int} {n : Int} (x6 : 0 ≤ x ∧ x < 6) (h1 : τ 20 x = g) (h2 : τ 21 x = y) (h3 : zcnt (zAnd y s) = n) (h4 : zLshr g n = v) : m_X7_dimmed [19, x, s] τ = some (v, τ) := by
  simp [e_X7_dimmed, d_X7_dimmed, xC_e, xL_e, xU_e, xB_e, xD_e, xF_e, xG_e, xA_e, xE_e, xH_e, xI_e, xZ_e, xK_e, aN_e, aC_e, cR_e, cV_e, cA_e, cO_e, cN_e, bs_e, bn_e, zg_0, zg_S, sS_e, sX_e, sF_e, sG_e, sA_e, sE_e, sEo_e, sK_e, sQ_e, sI_e, sR_e, sV_e, sB_e, sC_e, sD_e, sN_e, sP_e, sY_e, st_0, st_S, zc_0, zc_S, x6, h1, h2, w_bitCount, h3, h4]
theorem w_dm {σ τ : zHp} (hI : zInv σ) {w b c : Int} (hw : 0 ≤ w ∧ w ≤ 39) (hc : 0 ≤ c ∧ c < σ 1 2) (h : zWd2 σ τ w b c) {x : Int} (hx : 0 ≤ x ∧ x < zNb σ) (s : Int) : m_X7_dimmed [19, x, s] τ = some (zDd σ w c (zt s) x, τ) := by
  obtain ⟨nb1, nb2⟩ := zNb_e hI
  obtain ⟨nc1, nc2⟩ := zNc_e hI
  obtain ⟨h1, h2⟩ := h.2.2.2.2 x hx.1 hx.2
  have cn := zcnt_wy hI hx hc s
  have cl := zcnt_le (zAnd (zwy σ c x) s)
  rw [cn] at cl
  have lb := zLd_b (zCq_I hI hw) (zWt_I hI) hx (c := c) (by omega)
  exact w_dmEval (by omega) h1 h2 cn (zLshr_e (by omega) (by omega))
theorem w_kpBody {τ : zHp} {s own b k d : Int} (h1 : τ 19 5 = b) (h2 : m_X7_dimmed [19, k, s] τ = some (d, τ)) : lf_X7_isKeptBy_1 [19, s, own, 0, k] τ = if k ≠ b ∧ d ≥ own then some (1, [0], τ) else some (0, [19, s, own, 0, k], τ) := by
  by_cases p : k = b
  · simp [lf_X7_isKeptBy_1, xC_e, xL_e, xU_e, xB_e, xD_e, xF_e, xG_e, xA_e, xE_e, xH_e, xI_e, xZ_e, xK_e, aN_e, aC_e, cR_e, cV_e, cA_e, cO_e, cN_e, bs_e, bn_e, zg_0, zg_S, sS_e, sX_e, sF_e, sG_e, sA_e, sE_e, sEo_e, sK_e, sQ_e, sI_e, sR_e, sV_e, sB_e, sC_e, sD_e, sN_e, sP_e, sY_e, st_0, st_S, zc_0, zc_S, r_eq, r_ne, r_lt, r_le, r_gt, r_ge, rb_ite, rb_0, rb_1, h1, p]
  · by_cases q : own ≤ d <;> simp [lf_X7_isKeptBy_1, xC_e, xL_e, xU_e, xB_e, xD_e, xF_e, xG_e, xA_e, xE_e, xH_e, xI_e, xZ_e, xK_e, aN_e, aC_e, cR_e, cV_e, cA_e, cO_e, cN_e, bs_e, bn_e, zg_0, zg_S, sS_e, sX_e, sF_e, sG_e, sA_e, sE_e, sEo_e, sK_e, sQ_e, sI_e, sR_e, sV_e, sB_e, sC_e, sD_e, sN_e, sP_e, sY_e, st_0, st_S, zc_0, zc_S, r_eq, r_ne, r_lt, r_le, r_gt, r_ge, rb_ite, rb_0, rb_1, h1, h2, p, q]
theorem w_kpEval {τ : zHp} {s b own F r : Int} (h1 : τ 19 5 = b) (h2 : m_X7_dimmed [19, b, s] τ = some (own, τ)) (h3 : τ 10 5 = F) (hr : own < F → r = 0) (hl : ¬ own < F → ∃ t e, sW lc_X7_isKeptBy_1 lf_X7_isKeptBy_1 ls_X7_isKeptBy_1 [19, s, own, 0, 0] τ = some (t, e, τ) ∧ ((t = 1 ∧ e = [0] ∧ r = 0) ∨ (t = 0 ∧ r = 1))) : m_X7_isKeptBy [19, s] τ = some (r, τ) := by
  by_cases p : own < F
  · rw [hr p]
    simp [e_X7_isKeptBy, d_X7_isKeptBy, xC_e, xL_e, xU_e, xB_e, xD_e, xF_e, xG_e, xA_e, xE_e, xH_e, xI_e, xZ_e, xK_e, aN_e, aC_e, cR_e, cV_e, cA_e, cO_e, cN_e, bs_e, bn_e, zg_0, zg_S, sS_e, sX_e, sF_e, sG_e, sA_e, sE_e, sEo_e, sK_e, sQ_e, sI_e, sR_e, sV_e, sB_e, sC_e, sD_e, sN_e, sP_e, sY_e, st_0, st_S, zc_0, zc_S, r_eq, r_ne, r_lt, r_le, r_gt, r_ge, rb_ite, rb_0, rb_1, h1, h2, h3, p]
  · obtain ⟨t, e, hl2, ⟨rfl, rfl, rfl⟩ | ⟨rfl, rfl⟩⟩ := hl p
    · simp [e_X7_isKeptBy, d_X7_isKeptBy, xC_e, xL_e, xU_e, xB_e, xD_e, xF_e, xG_e, xA_e, xE_e, xH_e, xI_e, xZ_e, xK_e, aN_e, aC_e, cR_e, cV_e, cA_e, cO_e, cN_e, bs_e, bn_e, zg_0, zg_S, sS_e, sX_e, sF_e, sG_e, sA_e, sE_e, sEo_e, sK_e, sQ_e, sI_e, sR_e, sV_e, sB_e, sC_e, sD_e, sN_e, sP_e, sY_e, st_0, st_S, zc_0, zc_S, r_eq, r_ne, r_lt, r_le, r_gt, r_ge, rb_ite, rb_0, rb_1, h1, h2, h3, p, hl2]
    · simp [e_X7_isKeptBy, d_X7_isKeptBy, xC_e, xL_e, xU_e, xB_e, xD_e, xF_e, xG_e, xA_e, xE_e, xH_e, xI_e, xZ_e, xK_e, aN_e, aC_e, cR_e, cV_e, cA_e, cO_e, cN_e, bs_e, bn_e, zg_0, zg_S, sS_e, sX_e, sF_e, sG_e, sA_e, sE_e, sEo_e, sK_e, sQ_e, sI_e, sR_e, sV_e, sB_e, sC_e, sD_e, sN_e, sP_e, sY_e, st_0, st_S, zc_0, zc_S, r_eq, r_ne, r_lt, r_le, r_gt, r_ge, rb_ite, rb_0, rb_1, h1, h2, h3, p, hl2]
theorem w_kp {σ τ : zHp} (hI : zInv σ) {w b c : Int} (hw : 0 ≤ w ∧ w ≤ 39) (hb : 0 ≤ b ∧ b < zNb σ) (hc : 0 ≤ c ∧ c < σ 1 2) (h : zWd2 σ τ w b c) (s : Int) : m_X7_isKeptBy [19, s] τ = some (if zKk σ w b c (zt s) = true then 1 else 0, τ) := by
  obtain ⟨nb1, nb2⟩ := zNb_e hI
  have dm := fun x hx => w_dm hI hw hc h (x := x) hx s
  have kk := zKk_iff (σ := σ) (w := w) (c := c) (S := zt s) hb
  unfold zOwn at kk
  generalize zDd σ w c (zt s) = D at *
  refine w_kpEval h.2.2.2.1 (dm b hb) h.2.2.1 ?_ ?_
  · intro p
    rw [if_neg (fun z => by have := (kk.mp z).1; omega)]
  · intro p
    have hl := zfor (c := lc_X7_isKeptBy_1) (f := lf_X7_isKeptBy_1) (i := 4) (lo := 0) (σ := τ) (zNb σ) (fun k => [19, s, D b, 0, 0 + (k : Int)]) (fun k x => x = τ ∧ ∀ y : Int, 0 ≤ y → y < k → y ≠ b → D y < D b)
      (fun t e x => x = τ ∧ ((t = 1 ∧ e = [0] ∧ ¬ zKk σ w b c (zt s) = true) ∨ (t = 0 ∧ zKk σ w b c (zt s) = true))) ⟨rfl, fun y y0 y1 => by omega⟩ (fun k => rfl) (by decide) (by omega)
      (fun k x hk hx => zc_lt (i := 4) (x := 0 + (k : Int)) rfl (zx_G (N := (zNb σ : Nat)) (by rw [hx.1, h.1, nb1])) (by omega))
      (fun k x hk hx => by
        obtain ⟨rfl, hx⟩ := hx
        have body := w_kpBody (own := D b) h.2.2.2.1 (dm k ⟨by omega, by omega⟩)
        rw [z0k, z0k, body]
        by_cases q : (k : Int) ≠ b ∧ D k ≥ D b
        · rw [if_pos q]
          refine Or.inl ⟨_, _, rfl, rfl, Or.inl ⟨rfl, rfl, fun z => ?_⟩⟩
          have := (kk.mp z).2 k (by omega) (by omega) q.1
          omega
        · rw [if_neg q]
          refine Or.inr ⟨_, _, _, rfl, Or.inl rfl, rfl, rfl, rfl, fun y y0 y1 yb => ?_⟩
          by_cases z : y = (k : Int)
          · subst z
            omega
          · exact hx y y0 (by omega) yb)
      (fun x hx => ⟨hx.1, Or.inr ⟨rfl, kk.mpr ⟨by omega, hx.2⟩⟩⟩)
    obtain ⟨t, e, x, hl, rfl, hq⟩ := hl
    refine ⟨t, e, hl, ?_⟩
    rcases hq with ⟨q1, q2, q3⟩ | ⟨q1, q2⟩
    · exact Or.inl ⟨q1, q2, by rw [if_neg q3]⟩
    · exact Or.inr ⟨q1, by rw [if_pos q2]⟩
/-! the walk over sets -/
theorem zFx_y {α : Type} {g : Nat → Option α} {j f : Nat} {r : α} (h : g f = some r) : zFx g (j + 1) f = some r := by rw [zFx_S, h]
theorem zFx_o {α : Type} {g : Nat → Option α} {j f : Nat} (h : g f = none) : zFx g (j + 1) f = zFx g j (f + 1) := by rw [zFx_S, h]
def zVal : Option Int → Int
  | some r => r
  | none => -9
def zSr (q : Nat → Bool) (K : Int → Bool) (C : Nat) : Nat → Nat → Int → Option Int
  | 0, _, s => if K s = true then some s else none
  | m + 1, f, s => zFx (fun x => if q x = true then zSr q K C m (x + 1) (zOr s (zShl 1 (x : Int))) else none) (C - f) f
theorem zt_9 : zt (-9) 31 = true := by decide
theorem zSr_31 {q : Nat → Bool} {K : Int → Bool} {C : Nat} (hC : C ≤ 30) : ∀ (m f : Nat) (s r : Int), zt s 31 = false → zSr q K C m f s = some r → zt r 31 = false
  | 0, f, s, r, h, e => by
    have e2 : (if K s = true then some s else none) = some r := e
    by_cases k : K s = true
    · rw [if_pos k] at e2
      cases e2
      exact h
    · rw [if_neg k] at e2
      cases e2
  | m + 1, f, s, r, h, e => by
    obtain ⟨x, x1, x2, x3⟩ := zFx_s _ _ (show zFx (fun x => if q x = true then zSr q K C m (x + 1) (zOr s (zShl 1 (x : Int))) else none) (C - f) f = some r from e)
    by_cases g : q x = true
    · rw [if_pos g] at x3
      refine zSr_31 hC m (x + 1) _ r ?_ x3
      rw [zt_or, h, zt_bit (by omega), decide_eq_false (by omega)]
      rfl
    · rw [if_neg g] at x3
      cases x3
theorem zSr_9 {q : Nat → Bool} {K : Int → Bool} {C : Nat} (hC : C ≤ 30) {m f : Nat} {s r : Int} (h : zt s 31 = false) (e : zSr q K C m f s = some r) : r ≠ -9 := fun z => by
  have := zSr_31 hC m f s r h e
  rw [z, zt_9] at this
  cases this
theorem w_fs0 {τ : zHp} {F : List Int → zHp → Option (Int × zHp)} {f s : Int} {k : Bool} (h : m_X7_isKeptBy [19, s] τ = some (if k = true then 1 else 0, τ)) : zRun 6 [29, 0, 0, 0] (d_X7_firstSet F) [19, f, 0, s] τ = some (if k = true then s else -9, τ) := by
  show ((d_X7_firstSet F) [19, f, 0, s, 0, 0] τ).bind (fun q => if q.1 = 1 then some (zg q.2.1 0, q.2.2) else none) = _
  cases k <;> simp at h <;> simp [d_X7_firstSet, xC_e, xL_e, xU_e, xB_e, xD_e, xF_e, xG_e, xA_e, xE_e, xH_e, xI_e, xZ_e, xK_e, aN_e, aC_e, cR_e, cV_e, cA_e, cO_e, cN_e, bs_e, bn_e, zg_0, zg_S, sS_e, sX_e, sF_e, sG_e, sA_e, sE_e, sEo_e, sK_e, sQ_e, sI_e, sR_e, sV_e, sB_e, sC_e, sD_e, sN_e, sP_e, sY_e, st_0, st_S, zc_0, zc_S, r_eq, r_ne, r_lt, r_le, r_gt, r_ge, rb_ite, rb_0, rb_1, h, rb_0, rb_1]
theorem w_fsBody {τ : zHp} {F : List Int → zHp → Option (Int × zHp)} {f m s x pl : Int} {b : Bool} {r s2 : Int} (hp : τ 19 6 = pl) (hb : zAnd (zShr pl x) 1 = if b = true then 1 else 0) (hs : zOr s (zShl 1 x) = s2) (hx : o_iadd x 1 = x + 1) (hm : o_isub m 1 = m - 1) (h : b = true → F [19, x + 1, m - 1, s2] τ = some (r, τ)) : lf_X7_firstSet_1 F [19, f, m, s, x, 0] τ = if b = true ∧ r ≠ -9 then some (1, [r], τ) else some (0, [19, f, m, s, x, 0], τ) := by
  cases b
  · simp at hb
    simp [lf_X7_firstSet_1, xC_e, xL_e, xU_e, xB_e, xD_e, xF_e, xG_e, xA_e, xE_e, xH_e, xI_e, xZ_e, xK_e, aN_e, aC_e, cR_e, cV_e, cA_e, cO_e, cN_e, bs_e, bn_e, zg_0, zg_S, sS_e, sX_e, sF_e, sG_e, sA_e, sE_e, sEo_e, sK_e, sQ_e, sI_e, sR_e, sV_e, sB_e, sC_e, sD_e, sN_e, sP_e, sY_e, st_0, st_S, zc_0, zc_S, r_eq, r_ne, r_lt, r_le, r_gt, r_ge, rb_ite, rb_0, rb_1, hp, hb]
  · simp at hb
    have h := h rfl
    by_cases q : r = -9
    · subst q
      simp [lf_X7_firstSet_1, xC_e, xL_e, xU_e, xB_e, xD_e, xF_e, xG_e, xA_e, xE_e, xH_e, xI_e, xZ_e, xK_e, aN_e, aC_e, cR_e, cV_e, cA_e, cO_e, cN_e, bs_e, bn_e, zg_0, zg_S, sS_e, sX_e, sF_e, sG_e, sA_e, sE_e, sEo_e, sK_e, sQ_e, sI_e, sR_e, sV_e, sB_e, sC_e, sD_e, sN_e, sP_e, sY_e, st_0, st_S, zc_0, zc_S, r_eq, r_ne, r_lt, r_le, r_gt, r_ge, rb_ite, rb_0, rb_1, hp, hb, hs, hx, hm, h]
    · simp [lf_X7_firstSet_1, xC_e, xL_e, xU_e, xB_e, xD_e, xF_e, xG_e, xA_e, xE_e, xH_e, xI_e, xZ_e, xK_e, aN_e, aC_e, cR_e, cV_e, cA_e, cO_e, cN_e, bs_e, bn_e, zg_0, zg_S, sS_e, sX_e, sF_e, sG_e, sA_e, sE_e, sEo_e, sK_e, sQ_e, sI_e, sR_e, sV_e, sB_e, sC_e, sD_e, sN_e, sP_e, sY_e, st_0, st_S, zc_0, zc_S, r_eq, r_ne, r_lt, r_le, r_gt, r_ge, rb_ite, rb_0, rb_1, hp, hb, hs, hx, hm, h, q]
theorem w_fsEval {τ : zHp} {F : List Int → zHp → Option (Int × zHp)} {f m s r : Int} {t : Nat} {e : List Int} (hm : ¬ m ≤ 0) (hl : sW (lc_X7_firstSet_1 F) (lf_X7_firstSet_1 F) (ls_X7_firstSet_1 F) [19, f, m, s, f, 0] τ = some (t, e, τ)) (hq : (t = 1 ∧ e = [r]) ∨ (t = 0 ∧ r = -9)) : zRun 6 [29, 0, 0, 0] (d_X7_firstSet F) [19, f, m, s] τ = some (r, τ) := by
  show ((d_X7_firstSet F) [19, f, m, s, 0, 0] τ).bind (fun q => if q.1 = 1 then some (zg q.2.1 0, q.2.2) else none) = _
  rcases hq with ⟨rfl, rfl⟩ | ⟨rfl, rfl⟩
  · simp [d_X7_firstSet, xC_e, xL_e, xU_e, xB_e, xD_e, xF_e, xG_e, xA_e, xE_e, xH_e, xI_e, xZ_e, xK_e, aN_e, aC_e, cR_e, cV_e, cA_e, cO_e, cN_e, bs_e, bn_e, zg_0, zg_S, sS_e, sX_e, sF_e, sG_e, sA_e, sE_e, sEo_e, sK_e, sQ_e, sI_e, sR_e, sV_e, sB_e, sC_e, sD_e, sN_e, sP_e, sY_e, st_0, st_S, zc_0, zc_S, r_eq, r_ne, r_lt, r_le, r_gt, r_ge, rb_ite, rb_0, rb_1, hm, hl]
  · simp [d_X7_firstSet, xC_e, xL_e, xU_e, xB_e, xD_e, xF_e, xG_e, xA_e, xE_e, xH_e, xI_e, xZ_e, xK_e, aN_e, aC_e, cR_e, cV_e, cA_e, cO_e, cN_e, bs_e, bn_e, zg_0, zg_S, sS_e, sX_e, sF_e, sG_e, sA_e, sE_e, sEo_e, sK_e, sQ_e, sI_e, sR_e, sV_e, sB_e, sC_e, sD_e, sN_e, sP_e, sY_e, st_0, st_S, zc_0, zc_S, r_eq, r_ne, r_lt, r_le, r_gt, r_ge, rb_ite, rb_0, rb_1, hm, hl]
theorem w_fs {τ : zHp} {q : Nat → Bool} {K : Int → Bool} {C : Nat} (hC : C ≤ 30) (h12 : τ 1 2 = C) (hq : ∀ x : Nat, x < C → zt (τ 19 6) x = q x) (hK : ∀ s, m_X7_isKeptBy [19, s] τ = some (if K s = true then 1 else 0, τ)) : ∀ (m n f : Nat) (s : Int), m < n → m ≤ 3 → f ≤ 30 → zt s 31 = false → mn_X7_firstSet n [19, (f : Int), (m : Int), s] τ = some (zVal (zSr q K C m f s), τ)
  | 0, 0, f, s, hn, _, _, _ => by omega
  | 0, n + 1, f, s, _, _, _, _ => by
    have h := w_fs0 (F := mn_X7_firstSet n) (f := (f : Int)) (hK s)
    show zRun 6 [29, 0, 0, 0] (d_X7_firstSet (mn_X7_firstSet n)) [19, (f : Int), 0, s] τ = _
    rw [h]
    show _ = some (zVal (if K s = true then some s else none), τ)
    cases K s <;> rfl
  | m + 1, 0, f, s, hn, _, _, _ => by omega
  | m + 1, n + 1, f, s, hn, hm, hf, hs => by
    have ih := fun (f2 : Nat) (s2 : Int) (hf2 : f2 ≤ 30) (h2 : zt s2 31 = false) => w_fs hC h12 hq hK m n f2 s2 (by omega) (by omega) hf2 h2
    show zRun 6 [29, 0, 0, 0] (d_X7_firstSet (mn_X7_firstSet n)) [19, (f : Int), ((m + 1 : Nat) : Int), s] τ = some (zVal (zFx (fun x => if q x = true then zSr q K C m (x + 1) (zOr s (zShl 1 (x : Int))) else none) (C - f) f), τ)
    have hl := zfor (c := lc_X7_firstSet_1 (mn_X7_firstSet n)) (f := lf_X7_firstSet_1 (mn_X7_firstSet n)) (i := 4) (lo := (f : Int)) (σ := τ) (C - f) (fun k => [19, (f : Int), ((m + 1 : Nat) : Int), s, (f : Int) + (k : Int), 0]) (fun k x => x = τ ∧ zFx (fun x => if q x = true then zSr q K C m (x + 1) (zOr s (zShl 1 (x : Int))) else none) (C - f) f = zFx (fun x => if q x = true then zSr q K C m (x + 1) (zOr s (zShl 1 (x : Int))) else none) (C - f - k) (f + k))
      (fun t e x => x = τ ∧ ((t = 1 ∧ e = [zVal (zFx (fun x => if q x = true then zSr q K C m (x + 1) (zOr s (zShl 1 (x : Int))) else none) (C - f) f)]) ∨ (t = 0 ∧ zVal (zFx (fun x => if q x = true then zSr q K C m (x + 1) (zOr s (zShl 1 (x : Int))) else none) (C - f) f) = -9))) ⟨rfl, rfl⟩ (fun k => rfl) (by omega) (by omega)
      (fun k x hk hx => zc_lt (i := 4) (x := (f : Int) + (k : Int)) rfl (zx_G (N := (C : Int)) (by rw [hx.1]; exact h12)) (by omega))
      (fun k x hk hx => by
        obtain ⟨rfl, hx⟩ := hx
        have e1 : (f : Int) + (k : Int) = ((f + k : Nat) : Int) := by omega
        have bit : zAnd (zShr (x 19 6) ((f + k : Nat) : Int)) 1 = if q (f + k) = true then 1 else 0 := by
          rw [zbit (by omega), hq (f + k) (by omega)]
        have s31 : zt (zOr s (zShl 1 ((f + k : Nat) : Int))) 31 = false := by
          rw [zt_or, hs, zt_bit (by omega), decide_eq_false (by omega)]
          rfl
        have h := ih (f + k + 1) (zOr s (zShl 1 ((f + k : Nat) : Int))) (by omega) s31
        have body := w_fsBody (F := mn_X7_firstSet n) (f := (f : Int)) (m := ((m + 1 : Nat) : Int)) (s := s) (x := ((f + k : Nat) : Int)) (r := zVal (zSr q K C m (f + k + 1) (zOr s (zShl 1 ((f + k : Nat) : Int))))) rfl bit rfl (w32_id ⟨by omega, by omega⟩) (w32_id ⟨by omega, by omega⟩) (fun _ => by
          rw [show ((f + k : Nat) : Int) + 1 = ((f + k + 1 : Nat) : Int) by omega, show ((m + 1 : Nat) : Int) - 1 = (m : Int) by omega]
          exact h)
        rw [e1, body]
        rw [show C - f - k = (C - f - (k + 1)) + 1 by omega] at hx
        by_cases g : q (f + k) = true
        · cases hz : zSr q K C m (f + k + 1) (zOr s (zShl 1 ((f + k : Nat) : Int))) with
          | some r =>
            have r9 := zSr_9 hC s31 hz
            rw [if_pos ⟨g, r9⟩]
            refine Or.inl ⟨_, _, rfl, rfl, Or.inl ⟨rfl, ?_⟩⟩
            rw [hx, zFx_y (r := r) (by rw [if_pos g]; exact hz)]
          | none =>
            rw [if_neg (fun z => z.2 rfl)]
            refine Or.inr ⟨_, _, _, rfl, Or.inl rfl, rfl, rfl, rfl, ?_⟩
            rw [hx, zFx_o (by rw [if_pos g]; exact hz)]
            rfl
        · rw [if_neg (fun z => g z.1)]
          refine Or.inr ⟨_, _, _, rfl, Or.inl rfl, rfl, rfl, rfl, ?_⟩
          rw [hx, zFx_o (by rw [if_neg g])]
          rfl)
      (fun x hx => ⟨hx.1, Or.inr ⟨rfl, by rw [hx.2, Nat.sub_self]; rfl⟩⟩)
    obtain ⟨t, e, x, hl, rfl, hq2⟩ := hl
    have e0 : (f : Int) + ((0 : Nat) : Int) = (f : Int) := by omega
    have hl2 : sW (lc_X7_firstSet_1 (mn_X7_firstSet n)) (lf_X7_firstSet_1 (mn_X7_firstSet n)) (ls_X7_firstSet_1 (mn_X7_firstSet n)) [19, (f : Int), ((m + 1 : Nat) : Int), s, (f : Int) + ((0 : Nat) : Int), 0] x = some (t, e, x) := hl
    rw [e0] at hl2
    exact w_fsEval (by omega) hl2 hq2
