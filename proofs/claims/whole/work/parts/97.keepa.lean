/-! keep: the reference's three loops -/
def zLevl {α : Type} (u : Bool) (C a : Nat) (g : Int → Option α) : Option α := if u = true then zFx (fun k => g (k : Int)) (C - a) a else g (-9)
theorem zlevl {α : Type} {c : zC} {f s : zS} (C a : Nat) (u : Bool) (hC : C ≤ 30) (E : Int → List Int) (g : Int → Option α) (J : zHp → Prop) (Q : α → zHp → Prop)
    (hc : ∀ (v : Int) (τ : zHp), c (E v) τ = some (decide (v < (C : Int)), τ))
    (hs : ∀ (v : Int) (τ : zHp), (v = -9 ∨ (0 ≤ v ∧ v < (C : Int))) → s (E v) τ = some (0, E (if v = -9 then (C : Int) else v + 1), τ))
    (hb : ∀ (v : Int) (τ : zHp), ((u = true ∧ (a : Int) ≤ v ∧ v < (C : Int)) ∨ (u = false ∧ v = -9)) → J τ → ∃ t e υ, f (E v) τ = some (t, e, υ) ∧ J υ ∧ ((t = 1 ∧ e = [1] ∧ ∃ r, g v = some r ∧ Q r υ) ∨ (t = 0 ∧ e = E v ∧ g v = none)))
    (haC : a ≤ C) {σ : zHp} (h0 : J σ) : ∃ t e υ, sW c f s (E (if u = true then (a : Int) else -9)) σ = some (t, e, υ) ∧ J υ ∧ ((t = 1 ∧ e = [1] ∧ ∃ r, zLevl u C a g = some r ∧ Q r υ) ∨ (t = 0 ∧ (∃ v, e = E v) ∧ zLevl u C a g = none)) := by
  cases u
  · have hl := zl_m (c := c) (f := f) (s := s) (fun k e τ => J τ ∧ ((k = 0 ∧ e = E (-9)) ∨ (k = 1 ∧ e = E C ∧ g (-9) = none)))
      (fun t e υ => J υ ∧ ((t = 1 ∧ e = [1] ∧ ∃ r, g (-9) = some r ∧ Q r υ) ∨ (t = 0 ∧ (∃ v, e = E v) ∧ g (-9) = none))) 1 (e := E (-9)) (σ := σ) ⟨h0, Or.inl ⟨rfl, rfl⟩⟩
      (by
        rintro k e τ ⟨hJ, ⟨rfl, rfl⟩ | ⟨rfl, rfl, hg⟩⟩
        · refine Or.inr ⟨by omega, τ, by rw [hc, decide_eq_true (by omega)], ?_⟩
          obtain ⟨t, e, υ, h1, h2, ⟨rfl, rfl, h3⟩ | ⟨rfl, rfl, h3⟩⟩ := hb (-9) τ (Or.inr ⟨rfl, rfl⟩) hJ
          · exact ⟨1, _, υ, h1, Or.inl ⟨rfl, h2, Or.inl ⟨rfl, rfl, h3⟩⟩⟩
          · exact ⟨0, _, υ, h1, Or.inr ⟨Or.inl rfl, E C, υ, hs (-9) υ (Or.inl rfl), h2, Or.inr ⟨rfl, rfl, h3⟩⟩⟩
        · exact Or.inl ⟨τ, by rw [hc, decide_eq_false (by omega)], hJ, Or.inr ⟨rfl, ⟨_, rfl⟩, hg⟩⟩)
      (zf_lt (by decide))
    obtain ⟨t, e, υ, h1, h2, h3⟩ := hl
    exact ⟨t, e, υ, h1, h2, h3⟩
  · have hl := zl_m (c := c) (f := f) (s := s) (fun k e τ => J τ ∧ a + k ≤ C ∧ e = E ((a + k : Nat) : Int) ∧ zFx (fun k => g (k : Int)) (C - a) a = zFx (fun k => g (k : Int)) (C - a - k) (a + k))
      (fun t e υ => J υ ∧ ((t = 1 ∧ e = [1] ∧ ∃ r, zFx (fun k => g (k : Int)) (C - a) a = some r ∧ Q r υ) ∨ (t = 0 ∧ (∃ v, e = E v) ∧ zFx (fun k => g (k : Int)) (C - a) a = none))) (C - a) (e := E a) (σ := σ) ⟨h0, by omega, rfl, rfl⟩
      (by
        rintro k e τ ⟨hJ, hk, rfl, hx⟩
        by_cases q : a + k < C
        · refine Or.inr ⟨by omega, τ, by rw [hc, decide_eq_true (by omega)], ?_⟩
          rw [show C - a - k = (C - a - (k + 1)) + 1 by omega] at hx
          obtain ⟨t, e, υ, h1, h2, ⟨rfl, rfl, r, h3, h4⟩ | ⟨rfl, rfl, h3⟩⟩ := hb ((a + k : Nat) : Int) τ (Or.inl ⟨rfl, by omega, by omega⟩) hJ
          · exact ⟨1, _, υ, h1, Or.inl ⟨rfl, h2, Or.inl ⟨rfl, rfl, r, by rw [hx, zFx_y (g := fun k => g (k : Int)) h3], h4⟩⟩⟩
          · refine ⟨0, _, υ, h1, Or.inr ⟨Or.inl rfl, E ((a + (k + 1) : Nat) : Int), υ, ?_, h2, by omega, rfl, by rw [hx, zFx_o (g := fun k => g (k : Int)) h3]; rfl⟩⟩
            rw [hs _ υ (Or.inr ⟨by omega, by omega⟩), if_neg (by omega), show ((a + k : Nat) : Int) + 1 = ((a + (k + 1) : Nat) : Int) by omega]
        · refine Or.inl ⟨τ, by rw [hc, decide_eq_false (by omega)], hJ, Or.inr ⟨rfl, ⟨_, rfl⟩, ?_⟩⟩
          rw [hx, show C - a - k = 0 by omega]
          rfl)
      (zf_lt (by omega))
    obtain ⟨t, e, υ, h1, h2, h3⟩ := hl
    exact ⟨t, e, υ, h1, h2, h3⟩
theorem v_no {v C : Int} (τ : zHp) (hv : v = -9 ∨ (0 ≤ v ∧ v < 30)) : m_X9_nextOf [v, C] τ = some (if v = -9 then C else v + 1, τ) := by
  have e : o_iadd v 1 = v + 1 := w32_id ⟨by omega, by omega⟩
  by_cases p : v = -9 <;> simp [e_X9_nextOf, d_X9_nextOf, xC_e, xL_e, xU_e, xB_e, xD_e, xF_e, xG_e, xA_e, xE_e, xH_e, xI_e, xZ_e, xK_e, aN_e, aC_e, cR_e, cV_e, cA_e, cO_e, cN_e, bs_e, bn_e, zg_0, zg_S, sS_e, sX_e, sF_e, sG_e, sA_e, sE_e, sEo_e, sK_e, sQ_e, sI_e, sR_e, sV_e, sB_e, sC_e, sD_e, sN_e, sP_e, sY_e, st_0, st_S, zc_0, zc_S, r_eq, r_ne, r_lt, r_le, r_gt, r_ge, rb_ite, rb_0, rb_1, p, e]
def zG1 (ρ : zHp) (w b c x y z : Int) : Option (Int × Int × Int) := if zMy ρ c x ∧ zMy ρ c y ∧ zMy ρ c z ∧ zK3 ρ w b c x y z = true then some (x, y, z) else none
def zQ53 (r : Int × Int × Int) (υ : zHp) : Prop := υ 53 0 = r.1 ∧ υ 53 1 = r.2.1 ∧ υ 53 2 = r.2.2
theorem v_kb1Body {τ υ : zHp} {n b c w C x y v r : Int} (h : m_X9_keepsSo [37, x, y, v, b, c, w] τ = some (r, υ)) (hr : r = 0 ∨ r = 1) : lf_X9_keepsBy_1 [37, n, b, c, w, C, x, y, v] τ = if r = 1 then some (1, [1], υ) else some (0, [37, n, b, c, w, C, x, y, v], υ) := by
  rcases hr with rfl | rfl
  · simp [lf_X9_keepsBy_1, xC_e, xL_e, xU_e, xB_e, xD_e, xF_e, xG_e, xA_e, xE_e, xH_e, xI_e, xZ_e, xK_e, aN_e, aC_e, cR_e, cV_e, cA_e, cO_e, cN_e, bs_e, bn_e, zg_0, zg_S, sS_e, sX_e, sF_e, sG_e, sA_e, sE_e, sEo_e, sK_e, sQ_e, sI_e, sR_e, sV_e, sB_e, sC_e, sD_e, sN_e, sP_e, sY_e, st_0, st_S, zc_0, zc_S, r_eq, r_ne, r_lt, r_le, r_gt, r_ge, rb_ite, rb_0, rb_1, h]
  · simp [lf_X9_keepsBy_1, xC_e, xL_e, xU_e, xB_e, xD_e, xF_e, xG_e, xA_e, xE_e, xH_e, xI_e, xZ_e, xK_e, aN_e, aC_e, cR_e, cV_e, cA_e, cO_e, cN_e, bs_e, bn_e, zg_0, zg_S, sS_e, sX_e, sF_e, sG_e, sA_e, sE_e, sEo_e, sK_e, sQ_e, sI_e, sR_e, sV_e, sB_e, sC_e, sD_e, sN_e, sP_e, sY_e, st_0, st_S, zc_0, zc_S, r_eq, r_ne, r_lt, r_le, r_gt, r_ge, rb_ite, rb_0, rb_1, h]
theorem v_kb1 {ρ : zHp} (hI : zInv ρ) {w b c n x y : Int} (hw : 0 ≤ w ∧ w ≤ 39) (hc : 0 ≤ c ∧ c < ρ 1 2) (hx : x = -9 ∨ (0 ≤ x ∧ x < ρ 1 2)) (hy : y = -9 ∨ (0 ≤ y ∧ y < ρ 1 2)) (u : Bool) (a : Nat) (ha : a ≤ zNc ρ) {τ : zHp} (hs : zSc ρ τ) : ∃ t e υ, sW lc_X9_keepsBy_1 lf_X9_keepsBy_1 ls_X9_keepsBy_1 [37, n, b, c, w, (zNc ρ : Int), x, y, if u = true then (a : Int) else -9] τ = some (t, e, υ) ∧ zSc ρ υ ∧ ((t = 1 ∧ e = [1] ∧ ∃ r, zLevl u (zNc ρ) a (zG1 ρ w b c x y) = some r ∧ zQ53 r υ) ∨ (t = 0 ∧ (∃ v, e = [37, n, b, c, w, (zNc ρ : Int), x, y, v]) ∧ zLevl u (zNc ρ) a (zG1 ρ w b c x y) = none)) := by
  obtain ⟨nc1, nc2⟩ := zNc_e hI
  refine zlevl (zNc ρ) a u nc2 (fun v => [37, n, b, c, w, (zNc ρ : Int), x, y, v]) (zG1 ρ w b c x y) (zSc ρ) zQ53 (fun v τ => ?_) (fun v τ hv => ?_) (fun v τ hv hJ => ?_) ha hs
  · simp [lc_X9_keepsBy_1, xC_e, xL_e, xU_e, xB_e, xD_e, xF_e, xG_e, xA_e, xE_e, xH_e, xI_e, xZ_e, xK_e, aN_e, aC_e, cR_e, cV_e, cA_e, cO_e, cN_e, bs_e, bn_e, zg_0, zg_S, sS_e, sX_e, sF_e, sG_e, sA_e, sE_e, sEo_e, sK_e, sQ_e, sI_e, sR_e, sV_e, sB_e, sC_e, sD_e, sN_e, sP_e, sY_e, st_0, st_S, zc_0, zc_S, r_eq, r_ne, r_lt, r_le, r_gt, r_ge, rb_ite, rb_0, rb_1]
  · have := v_no (C := (zNc ρ : Int)) τ (v := v) (by omega)
    simp [ls_X9_keepsBy_1, xC_e, xL_e, xU_e, xB_e, xD_e, xF_e, xG_e, xA_e, xE_e, xH_e, xI_e, xZ_e, xK_e, aN_e, aC_e, cR_e, cV_e, cA_e, cO_e, cN_e, bs_e, bn_e, zg_0, zg_S, sS_e, sX_e, sF_e, sG_e, sA_e, sE_e, sEo_e, sK_e, sQ_e, sI_e, sR_e, sV_e, sB_e, sC_e, sD_e, sN_e, sP_e, sY_e, st_0, st_S, zc_0, zc_S, this]
  · obtain ⟨υ, r, h1, h2, h3⟩ := v_ks (b := b) hI hw hc hJ hx hy (z := v) (by omega)
    have body := v_kb1Body (n := n) (C := (zNc ρ : Int)) h1 (by rcases h3 with h | h; exact Or.inr h.1; exact Or.inl h.1)
    rcases h3 with ⟨rfl, h4, h5⟩ | ⟨rfl, h4⟩
    · rw [if_pos rfl] at body
      exact ⟨1, [1], υ, body, h2, Or.inl ⟨rfl, rfl, (x, y, v), if_pos h4, h5⟩⟩
    · rw [if_neg (by decide)] at body
      exact ⟨0, _, υ, body, h2, Or.inr ⟨rfl, rfl, if_neg h4⟩⟩
theorem v_kb2Body {τ υ : zHp} {n b c w C x v s0 : Int} {t : Nat} {e : List Int} (h0 : (if 2 < n then o_iadd v 1 else -9) = s0) (hl : sW lc_X9_keepsBy_1 lf_X9_keepsBy_1 ls_X9_keepsBy_1 [37, n, b, c, w, C, x, v, s0] τ = some (t, e, υ)) (ht : (t = 1 ∧ e = [1]) ∨ (t = 0 ∧ ∃ z, e = [37, n, b, c, w, C, x, v, z])) : lf_X9_keepsBy_2 [37, n, b, c, w, C, x, v, 0] τ = some (t, if t = 1 then [1] else [37, n, b, c, w, C, x, v, 0], υ) := by
  by_cases p : 2 < n
  · rw [if_pos p] at h0
    rcases ht with ⟨rfl, rfl⟩ | ⟨rfl, z, rfl⟩
    · simp [lf_X9_keepsBy_2, xC_e, xL_e, xU_e, xB_e, xD_e, xF_e, xG_e, xA_e, xE_e, xH_e, xI_e, xZ_e, xK_e, aN_e, aC_e, cR_e, cV_e, cA_e, cO_e, cN_e, bs_e, bn_e, zg_0, zg_S, sS_e, sX_e, sF_e, sG_e, sA_e, sE_e, sEo_e, sK_e, sQ_e, sI_e, sR_e, sV_e, sB_e, sC_e, sD_e, sN_e, sP_e, sY_e, st_0, st_S, zc_0, zc_S, r_eq, r_ne, r_lt, r_le, r_gt, r_ge, rb_ite, rb_0, rb_1, p, h0, hl]
    · simp [lf_X9_keepsBy_2, xC_e, xL_e, xU_e, xB_e, xD_e, xF_e, xG_e, xA_e, xE_e, xH_e, xI_e, xZ_e, xK_e, aN_e, aC_e, cR_e, cV_e, cA_e, cO_e, cN_e, bs_e, bn_e, zg_0, zg_S, sS_e, sX_e, sF_e, sG_e, sA_e, sE_e, sEo_e, sK_e, sQ_e, sI_e, sR_e, sV_e, sB_e, sC_e, sD_e, sN_e, sP_e, sY_e, st_0, st_S, zc_0, zc_S, r_eq, r_ne, r_lt, r_le, r_gt, r_ge, rb_ite, rb_0, rb_1, p, h0, hl]
  · rw [if_neg p] at h0
    subst h0
    rcases ht with ⟨rfl, rfl⟩ | ⟨rfl, z, rfl⟩
    · simp [lf_X9_keepsBy_2, xC_e, xL_e, xU_e, xB_e, xD_e, xF_e, xG_e, xA_e, xE_e, xH_e, xI_e, xZ_e, xK_e, aN_e, aC_e, cR_e, cV_e, cA_e, cO_e, cN_e, bs_e, bn_e, zg_0, zg_S, sS_e, sX_e, sF_e, sG_e, sA_e, sE_e, sEo_e, sK_e, sQ_e, sI_e, sR_e, sV_e, sB_e, sC_e, sD_e, sN_e, sP_e, sY_e, st_0, st_S, zc_0, zc_S, r_eq, r_ne, r_lt, r_le, r_gt, r_ge, rb_ite, rb_0, rb_1, p, hl]
    · simp [lf_X9_keepsBy_2, xC_e, xL_e, xU_e, xB_e, xD_e, xF_e, xG_e, xA_e, xE_e, xH_e, xI_e, xZ_e, xK_e, aN_e, aC_e, cR_e, cV_e, cA_e, cO_e, cN_e, bs_e, bn_e, zg_0, zg_S, sS_e, sX_e, sF_e, sG_e, sA_e, sE_e, sEo_e, sK_e, sQ_e, sI_e, sR_e, sV_e, sB_e, sC_e, sD_e, sN_e, sP_e, sY_e, st_0, st_S, zc_0, zc_S, r_eq, r_ne, r_lt, r_le, r_gt, r_ge, rb_ite, rb_0, rb_1, p, hl]
theorem v_kb3Body {τ υ : zHp} {n b c w C v s0 : Int} {t : Nat} {e : List Int} (h0 : (if 1 < n then o_iadd v 1 else -9) = s0) (hl : sW lc_X9_keepsBy_2 lf_X9_keepsBy_2 ls_X9_keepsBy_2 [37, n, b, c, w, C, v, s0, 0] τ = some (t, e, υ)) (ht : (t = 1 ∧ e = [1]) ∨ (t = 0 ∧ ∃ z, e = [37, n, b, c, w, C, v, z, 0])) : lf_X9_keepsBy_3 [37, n, b, c, w, C, v, 0, 0] τ = some (t, if t = 1 then [1] else [37, n, b, c, w, C, v, 0, 0], υ) := by
  by_cases p : 1 < n
  · rw [if_pos p] at h0
    rcases ht with ⟨rfl, rfl⟩ | ⟨rfl, z, rfl⟩
    · simp [lf_X9_keepsBy_3, xC_e, xL_e, xU_e, xB_e, xD_e, xF_e, xG_e, xA_e, xE_e, xH_e, xI_e, xZ_e, xK_e, aN_e, aC_e, cR_e, cV_e, cA_e, cO_e, cN_e, bs_e, bn_e, zg_0, zg_S, sS_e, sX_e, sF_e, sG_e, sA_e, sE_e, sEo_e, sK_e, sQ_e, sI_e, sR_e, sV_e, sB_e, sC_e, sD_e, sN_e, sP_e, sY_e, st_0, st_S, zc_0, zc_S, r_eq, r_ne, r_lt, r_le, r_gt, r_ge, rb_ite, rb_0, rb_1, p, h0, hl]
    · simp [lf_X9_keepsBy_3, xC_e, xL_e, xU_e, xB_e, xD_e, xF_e, xG_e, xA_e, xE_e, xH_e, xI_e, xZ_e, xK_e, aN_e, aC_e, cR_e, cV_e, cA_e, cO_e, cN_e, bs_e, bn_e, zg_0, zg_S, sS_e, sX_e, sF_e, sG_e, sA_e, sE_e, sEo_e, sK_e, sQ_e, sI_e, sR_e, sV_e, sB_e, sC_e, sD_e, sN_e, sP_e, sY_e, st_0, st_S, zc_0, zc_S, r_eq, r_ne, r_lt, r_le, r_gt, r_ge, rb_ite, rb_0, rb_1, p, h0, hl]
  · rw [if_neg p] at h0
    subst h0
    rcases ht with ⟨rfl, rfl⟩ | ⟨rfl, z, rfl⟩
    · simp [lf_X9_keepsBy_3, xC_e, xL_e, xU_e, xB_e, xD_e, xF_e, xG_e, xA_e, xE_e, xH_e, xI_e, xZ_e, xK_e, aN_e, aC_e, cR_e, cV_e, cA_e, cO_e, cN_e, bs_e, bn_e, zg_0, zg_S, sS_e, sX_e, sF_e, sG_e, sA_e, sE_e, sEo_e, sK_e, sQ_e, sI_e, sR_e, sV_e, sB_e, sC_e, sD_e, sN_e, sP_e, sY_e, st_0, st_S, zc_0, zc_S, r_eq, r_ne, r_lt, r_le, r_gt, r_ge, rb_ite, rb_0, rb_1, p, hl]
    · simp [lf_X9_keepsBy_3, xC_e, xL_e, xU_e, xB_e, xD_e, xF_e, xG_e, xA_e, xE_e, xH_e, xI_e, xZ_e, xK_e, aN_e, aC_e, cR_e, cV_e, cA_e, cO_e, cN_e, bs_e, bn_e, zg_0, zg_S, sS_e, sX_e, sF_e, sG_e, sA_e, sE_e, sEo_e, sK_e, sQ_e, sI_e, sR_e, sV_e, sB_e, sC_e, sD_e, sN_e, sP_e, sY_e, st_0, st_S, zc_0, zc_S, r_eq, r_ne, r_lt, r_le, r_gt, r_ge, rb_ite, rb_0, rb_1, p, hl]
theorem v_kbEval {τ υ : zHp} {n b c w C s0 : Int} {t : Nat} {e : List Int} (ha : m_X9_all [37] τ = some (C, τ)) (h0 : (if 0 < n then 0 else -9) = s0) (hl : sW lc_X9_keepsBy_3 lf_X9_keepsBy_3 ls_X9_keepsBy_3 [37, n, b, c, w, C, s0, 0, 0] τ = some (t, e, υ)) (ht : (t = 1 ∧ e = [1]) ∨ (t = 0 ∧ ∃ z, e = [37, n, b, c, w, C, z, 0, 0])) : m_X9_keepsBy [37, n, b, c, w] τ = some (if t = 1 then 1 else 0, υ) := by
  by_cases p : 0 < n
  · rw [if_pos p] at h0
    subst h0
    rcases ht with ⟨rfl, rfl⟩ | ⟨rfl, z, rfl⟩
    · simp [e_X9_keepsBy, d_X9_keepsBy, xC_e, xL_e, xU_e, xB_e, xD_e, xF_e, xG_e, xA_e, xE_e, xH_e, xI_e, xZ_e, xK_e, aN_e, aC_e, cR_e, cV_e, cA_e, cO_e, cN_e, bs_e, bn_e, zg_0, zg_S, sS_e, sX_e, sF_e, sG_e, sA_e, sE_e, sEo_e, sK_e, sQ_e, sI_e, sR_e, sV_e, sB_e, sC_e, sD_e, sN_e, sP_e, sY_e, st_0, st_S, zc_0, zc_S, r_eq, r_ne, r_lt, r_le, r_gt, r_ge, rb_ite, rb_0, rb_1, p, ha, hl]
    · simp [e_X9_keepsBy, d_X9_keepsBy, xC_e, xL_e, xU_e, xB_e, xD_e, xF_e, xG_e, xA_e, xE_e, xH_e, xI_e, xZ_e, xK_e, aN_e, aC_e, cR_e, cV_e, cA_e, cO_e, cN_e, bs_e, bn_e, zg_0, zg_S, sS_e, sX_e, sF_e, sG_e, sA_e, sE_e, sEo_e, sK_e, sQ_e, sI_e, sR_e, sV_e, sB_e, sC_e, sD_e, sN_e, sP_e, sY_e, st_0, st_S, zc_0, zc_S, r_eq, r_ne, r_lt, r_le, r_gt, r_ge, rb_ite, rb_0, rb_1, p, ha, hl]
  · rw [if_neg p] at h0
    subst h0
    rcases ht with ⟨rfl, rfl⟩ | ⟨rfl, z, rfl⟩
    · simp [e_X9_keepsBy, d_X9_keepsBy, xC_e, xL_e, xU_e, xB_e, xD_e, xF_e, xG_e, xA_e, xE_e, xH_e, xI_e, xZ_e, xK_e, aN_e, aC_e, cR_e, cV_e, cA_e, cO_e, cN_e, bs_e, bn_e, zg_0, zg_S, sS_e, sX_e, sF_e, sG_e, sA_e, sE_e, sEo_e, sK_e, sQ_e, sI_e, sR_e, sV_e, sB_e, sC_e, sD_e, sN_e, sP_e, sY_e, st_0, st_S, zc_0, zc_S, r_eq, r_ne, r_lt, r_le, r_gt, r_ge, rb_ite, rb_0, rb_1, p, ha, hl]
    · simp [e_X9_keepsBy, d_X9_keepsBy, xC_e, xL_e, xU_e, xB_e, xD_e, xF_e, xG_e, xA_e, xE_e, xH_e, xI_e, xZ_e, xK_e, aN_e, aC_e, cR_e, cV_e, cA_e, cO_e, cN_e, bs_e, bn_e, zg_0, zg_S, sS_e, sX_e, sF_e, sG_e, sA_e, sE_e, sEo_e, sK_e, sQ_e, sI_e, sR_e, sV_e, sB_e, sC_e, sD_e, sN_e, sP_e, sY_e, st_0, st_S, zc_0, zc_S, r_eq, r_ne, r_lt, r_le, r_gt, r_ge, rb_ite, rb_0, rb_1, p, ha, hl]
def zG2 (ρ : zHp) (w b c n x y : Int) : Option (Int × Int × Int) := zLevl (decide (2 < n)) (zNc ρ) (y + 1).toNat (zG1 ρ w b c x y)
def zG3 (ρ : zHp) (w b c n x : Int) : Option (Int × Int × Int) := zLevl (decide (1 < n)) (zNc ρ) (x + 1).toNat (zG2 ρ w b c n x)
def zG4 (ρ : zHp) (w b c n : Int) : Option (Int × Int × Int) := zLevl (decide (0 < n)) (zNc ρ) 0 (zG3 ρ w b c n)
theorem zstt {n m v : Int} (hv : v = -9 ∨ (0 ≤ v ∧ v < 30)) (h9 : m < n → v ≠ -9) : (if m < n then o_iadd v 1 else -9) = if decide (m < n) = true then (((v + 1).toNat : Nat) : Int) else -9 := by
  have e : o_iadd v 1 = v + 1 := w32_id ⟨by omega, by omega⟩
  by_cases p : m < n
  · have := h9 p
    rw [if_pos p, if_pos (decide_eq_true p), e]
    omega
  · rw [if_neg p, if_neg (fun z => p (of_decide_eq_true z))]
theorem v_kb2 {ρ : zHp} (hI : zInv ρ) {w b c n x : Int} (hw : 0 ≤ w ∧ w ≤ 39) (hc : 0 ≤ c ∧ c < ρ 1 2) (hx : x = -9 ∨ (0 ≤ x ∧ x < ρ 1 2)) (u : Bool) (h2 : 2 < n → u = true) (a : Nat) (ha : a ≤ zNc ρ) {τ : zHp} (hs : zSc ρ τ) : ∃ t e υ, sW lc_X9_keepsBy_2 lf_X9_keepsBy_2 ls_X9_keepsBy_2 [37, n, b, c, w, (zNc ρ : Int), x, if u = true then (a : Int) else -9, 0] τ = some (t, e, υ) ∧ zSc ρ υ ∧ ((t = 1 ∧ e = [1] ∧ ∃ r, zLevl u (zNc ρ) a (zG2 ρ w b c n x) = some r ∧ zQ53 r υ) ∨ (t = 0 ∧ (∃ v, e = [37, n, b, c, w, (zNc ρ : Int), x, v, 0]) ∧ zLevl u (zNc ρ) a (zG2 ρ w b c n x) = none)) := by
  obtain ⟨nc1, nc2⟩ := zNc_e hI
  refine zlevl (zNc ρ) a u nc2 (fun v => [37, n, b, c, w, (zNc ρ : Int), x, v, 0]) (zG2 ρ w b c n x) (zSc ρ) zQ53 (fun v τ => ?_) (fun v τ hv => ?_) (fun v τ hv hJ => ?_) ha hs
  · simp [lc_X9_keepsBy_2, xC_e, xL_e, xU_e, xB_e, xD_e, xF_e, xG_e, xA_e, xE_e, xH_e, xI_e, xZ_e, xK_e, aN_e, aC_e, cR_e, cV_e, cA_e, cO_e, cN_e, bs_e, bn_e, zg_0, zg_S, sS_e, sX_e, sF_e, sG_e, sA_e, sE_e, sEo_e, sK_e, sQ_e, sI_e, sR_e, sV_e, sB_e, sC_e, sD_e, sN_e, sP_e, sY_e, st_0, st_S, zc_0, zc_S, r_eq, r_ne, r_lt, r_le, r_gt, r_ge, rb_ite, rb_0, rb_1]
  · have := v_no (C := (zNc ρ : Int)) τ (v := v) (by omega)
    simp [ls_X9_keepsBy_2, xC_e, xL_e, xU_e, xB_e, xD_e, xF_e, xG_e, xA_e, xE_e, xH_e, xI_e, xZ_e, xK_e, aN_e, aC_e, cR_e, cV_e, cA_e, cO_e, cN_e, bs_e, bn_e, zg_0, zg_S, sS_e, sX_e, sF_e, sG_e, sA_e, sE_e, sEo_e, sK_e, sQ_e, sI_e, sR_e, sV_e, sB_e, sC_e, sD_e, sN_e, sP_e, sY_e, st_0, st_S, zc_0, zc_S, this]
  · have hv2 : v = -9 ∨ (0 ≤ v ∧ v < zNc ρ) := by omega
    obtain ⟨t, e, υ, h1, h3, h4⟩ := v_kb1 (b := b) (n := n) hI hw hc hx (y := v) (by omega) (decide (2 < n)) (v + 1).toNat (by omega) hJ
    have st := zstt (n := n) (m := 2) (v := v) (by omega) (fun g z => by
      have := h2 g
      rcases hv with k | k
      · omega
      · rw [k.1] at this
        cases this)
    have body := v_kb2Body st h1 (by rcases h4 with h | h; exact Or.inl ⟨h.1, h.2.1⟩; exact Or.inr ⟨h.1, h.2.1⟩)
    rcases h4 with ⟨rfl, rfl, r, h5, h6⟩ | ⟨rfl, -, h5⟩
    · exact ⟨1, [1], υ, body, h3, Or.inl ⟨rfl, rfl, r, h5, h6⟩⟩
    · exact ⟨0, _, υ, body, h3, Or.inr ⟨rfl, rfl, h5⟩⟩
theorem v_kb3 {ρ : zHp} (hI : zInv ρ) {w b c n : Int} (hw : 0 ≤ w ∧ w ≤ 39) (hc : 0 ≤ c ∧ c < ρ 1 2) {τ : zHp} (hs : zSc ρ τ) : ∃ t e υ, sW lc_X9_keepsBy_3 lf_X9_keepsBy_3 ls_X9_keepsBy_3 [37, n, b, c, w, (zNc ρ : Int), if decide (0 < n) = true then ((0 : Nat) : Int) else -9, 0, 0] τ = some (t, e, υ) ∧ zSc ρ υ ∧ ((t = 1 ∧ e = [1] ∧ ∃ r, zG4 ρ w b c n = some r ∧ zQ53 r υ) ∨ (t = 0 ∧ (∃ v, e = [37, n, b, c, w, (zNc ρ : Int), v, 0, 0]) ∧ zG4 ρ w b c n = none)) := by
  obtain ⟨nc1, nc2⟩ := zNc_e hI
  refine zlevl (zNc ρ) 0 (decide (0 < n)) nc2 (fun v => [37, n, b, c, w, (zNc ρ : Int), v, 0, 0]) (zG3 ρ w b c n) (zSc ρ) zQ53 (fun v τ => ?_) (fun v τ hv => ?_) (fun v τ hv hJ => ?_) (by omega) hs
  · simp [lc_X9_keepsBy_3, xC_e, xL_e, xU_e, xB_e, xD_e, xF_e, xG_e, xA_e, xE_e, xH_e, xI_e, xZ_e, xK_e, aN_e, aC_e, cR_e, cV_e, cA_e, cO_e, cN_e, bs_e, bn_e, zg_0, zg_S, sS_e, sX_e, sF_e, sG_e, sA_e, sE_e, sEo_e, sK_e, sQ_e, sI_e, sR_e, sV_e, sB_e, sC_e, sD_e, sN_e, sP_e, sY_e, st_0, st_S, zc_0, zc_S, r_eq, r_ne, r_lt, r_le, r_gt, r_ge, rb_ite, rb_0, rb_1]
  · have := v_no (C := (zNc ρ : Int)) τ (v := v) (by omega)
    simp [ls_X9_keepsBy_3, xC_e, xL_e, xU_e, xB_e, xD_e, xF_e, xG_e, xA_e, xE_e, xH_e, xI_e, xZ_e, xK_e, aN_e, aC_e, cR_e, cV_e, cA_e, cO_e, cN_e, bs_e, bn_e, zg_0, zg_S, sS_e, sX_e, sF_e, sG_e, sA_e, sE_e, sEo_e, sK_e, sQ_e, sI_e, sR_e, sV_e, sB_e, sC_e, sD_e, sN_e, sP_e, sY_e, st_0, st_S, zc_0, zc_S, this]
  · have hv2 : v = -9 ∨ (0 ≤ v ∧ v < zNc ρ) := by omega
    obtain ⟨t, e, υ, h1, h3, h4⟩ := v_kb2 (b := b) (n := n) hI hw hc (x := v) (by omega) (decide (1 < n)) (fun g => decide_eq_true (by omega)) (v + 1).toNat (by omega) hJ
    have st := zstt (n := n) (m := 1) (v := v) (by omega) (fun g z => by
      rcases hv with k | k
      · omega
      · have := of_decide_eq_false k.1
        omega)
    have body := v_kb3Body st h1 (by rcases h4 with h | h; exact Or.inl ⟨h.1, h.2.1⟩; exact Or.inr ⟨h.1, h.2.1⟩)
    rcases h4 with ⟨rfl, rfl, r, h5, h6⟩ | ⟨rfl, -, h5⟩
    · exact ⟨1, [1], υ, body, h3, Or.inl ⟨rfl, rfl, r, h5, h6⟩⟩
    · exact ⟨0, _, υ, body, h3, Or.inr ⟨rfl, rfl, h5⟩⟩
theorem v_kb {ρ : zHp} (hI : zInv ρ) {w b c n : Int} (hw : 0 ≤ w ∧ w ≤ 39) (hc : 0 ≤ c ∧ c < ρ 1 2) {τ : zHp} (hs : zSc ρ τ) : ∃ (r : Int) (υ : zHp), m_X9_keepsBy [37, n, b, c, w] τ = some (r, υ) ∧ zSc ρ υ ∧ ((r = 1 ∧ ∃ v, zG4 ρ w b c n = some v ∧ zQ53 v υ) ∨ (r = 0 ∧ zG4 ρ w b c n = none)) := by
  obtain ⟨nc1, nc2⟩ := zNc_e hI
  obtain ⟨t, e, υ, h1, h2, h3⟩ := v_kb3 (b := b) (n := n) hI hw hc hs
  have ha : m_X9_all [37] τ = some ((zNc ρ : Int), τ) := by
    rw [v_all, hs 37 5 (by decide) (by decide) (by decide) (by decide), hs 37 6 (by decide) (by decide) (by decide) (by decide), (zN_eq hI.2.2.1).1, nc1]
  have h0 : (if 0 < n then (0 : Int) else -9) = if decide (0 < n) = true then ((0 : Nat) : Int) else -9 := by
    by_cases p : 0 < n
    · rw [if_pos p, if_pos (decide_eq_true p)]
      rfl
    · rw [if_neg p, if_neg (fun z => p (of_decide_eq_true z))]
  have ev := v_kbEval ha h0 h1 (by rcases h3 with h | h; exact Or.inl ⟨h.1, h.2.1⟩; exact Or.inr ⟨h.1, h.2.1⟩)
  rcases h3 with ⟨rfl, -, h4⟩ | ⟨rfl, -, h4⟩
  · exact ⟨1, υ, ev, h2, Or.inl ⟨rfl, h4⟩⟩
  · exact ⟨0, υ, ev, h2, Or.inr ⟨rfl, h4⟩⟩
