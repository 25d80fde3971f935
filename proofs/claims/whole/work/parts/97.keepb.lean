/-! keep: both sides -/
theorem zifc {α : Type} {A B : Prop} [Decidable A] [Decidable B] (h : A ↔ B) {x y x2 y2 : α} (h1 : x = x2) (h2 : y = y2) : (if A then x else y) = if B then x2 else y2 := by
  subst h1
  subst h2
  by_cases p : A
  · rw [if_pos p, if_pos (h.mp p)]
  · rw [if_neg p, if_neg (fun z => p (h.mpr z))]
theorem zMy_n {ρ : zHp} {c : Int} {x : Nat} : zMy ρ c x ↔ zPp ρ c x = true := ⟨fun h => h.resolve_left (by omega), fun h => Or.inr h⟩
theorem zMy_9 {ρ : zHp} {c : Int} : zMy ρ c (-9) := Or.inl rfl
theorem zLevl_t {α : Type} {C a : Nat} {g : Int → Option α} : zLevl true C a g = zFx (fun k => g (k : Int)) (C - a) a := rfl
theorem zLevl_f {α : Type} {C a : Nat} {g : Int → Option α} : zLevl false C a g = g (-9) := rfl
theorem zG4_e (ρ : zHp) (w b c : Int) : ∀ n : Nat, n ≤ 3 → zG4 ρ w b c (n : Int) = zKr ρ w b c n := by
  intro n hn
  rcases (show n = 0 ∨ n = 1 ∨ n = 2 ∨ n = 3 by omega) with rfl | rfl | rfl | rfl
  · unfold zG4
    rw [decide_eq_false (by omega), zLevl_f]
    unfold zG3
    rw [decide_eq_false (by omega), zLevl_f]
    unfold zG2
    rw [decide_eq_false (by omega), zLevl_f]
    show zG1 ρ w b c (-9) (-9) (-9) = (if zK3 ρ w b c (-9) (-9) (-9) = true then some ((-9 : Int), (-9 : Int), (-9 : Int)) else none)
    unfold zG1
    exact zifc ⟨fun z => z.2.2.2, fun z => ⟨zMy_9, zMy_9, zMy_9, z⟩⟩ rfl rfl
  · unfold zG4
    rw [decide_eq_true (by omega), zLevl_t]
    show zFx _ (zNc ρ - 0) 0 = zFx _ (zNc ρ) 0
    refine zFx_c _ _ (fun x _ _ => ?_)
    unfold zG3
    rw [decide_eq_false (by omega), zLevl_f]
    unfold zG2
    rw [decide_eq_false (by omega), zLevl_f]
    unfold zG1
    exact zifc ⟨fun z => ⟨zMy_n.mp z.1, z.2.2.2⟩, fun z => ⟨zMy_n.mpr z.1, zMy_9, zMy_9, z.2⟩⟩ rfl rfl
  · unfold zG4
    rw [decide_eq_true (by omega), zLevl_t]
    show zFx _ (zNc ρ - 0) 0 = zFx _ (zNc ρ) 0
    refine zFx_c _ _ (fun x _ _ => ?_)
    unfold zG3
    rw [decide_eq_true (by omega), zLevl_t, show ((x : Int) + 1).toNat = x + 1 by omega]
    refine zFx_c _ _ (fun y _ _ => ?_)
    unfold zG2
    rw [decide_eq_false (by omega), zLevl_f]
    unfold zG1
    exact zifc ⟨fun z => ⟨zMy_n.mp z.1, zMy_n.mp z.2.1, z.2.2.2⟩, fun z => ⟨zMy_n.mpr z.1, zMy_n.mpr z.2.1, zMy_9, z.2.2⟩⟩ rfl rfl
  · unfold zG4
    rw [decide_eq_true (by omega), zLevl_t]
    show zFx _ (zNc ρ - 0) 0 = zFx _ (zNc ρ) 0
    refine zFx_c _ _ (fun x _ _ => ?_)
    unfold zG3
    rw [decide_eq_true (by omega), zLevl_t, show ((x : Int) + 1).toNat = x + 1 by omega]
    refine zFx_c _ _ (fun y _ _ => ?_)
    unfold zG2
    rw [decide_eq_true (by omega), zLevl_t, show ((y : Int) + 1).toNat = y + 1 by omega]
    refine zFx_c _ _ (fun z _ _ => ?_)
    unfold zG1
    exact zifc ⟨fun z => ⟨zMy_n.mp z.1, zMy_n.mp z.2.1, zMy_n.mp z.2.2.1, z.2.2.2⟩, fun z => ⟨zMy_n.mpr z.1, zMy_n.mpr z.2.1, zMy_n.mpr z.2.2.1, z.2.2.2⟩⟩ rfl rfl
theorem v_kpBody {τ υ : zHp} {b c w q k r T : Int} (h : m_X9_keepsBy [37, k, b, c, w] τ = some (r, υ)) (hr : r = 0 ∨ r = 1) (hT : r = 1 → q ≠ -1 → q < k → (0 ≤ q ∧ q < 3) ∧ υ 53 q = T) : lf_X9_keep_1 [37, b, c, w, q, k] τ = if r = 1 then some (1, [if q = -1 then k else if q < k then T else -9], υ) else some (0, [37, b, c, w, q, k], υ) := by
  rcases hr with rfl | rfl
  · simp [lf_X9_keep_1, xC_e, xL_e, xU_e, xB_e, xD_e, xF_e, xG_e, xA_e, xE_e, xH_e, xI_e, xZ_e, xK_e, aN_e, aC_e, cR_e, cV_e, cA_e, cO_e, cN_e, bs_e, bn_e, zg_0, zg_S, sS_e, sX_e, sF_e, sG_e, sA_e, sE_e, sEo_e, sK_e, sQ_e, sI_e, sR_e, sV_e, sB_e, sC_e, sD_e, sN_e, sP_e, sY_e, st_0, st_S, zc_0, zc_S, r_eq, r_ne, r_lt, r_le, r_gt, r_ge, rb_ite, rb_0, rb_1, h]
  · by_cases p : q = -1
    · subst p
      simp [lf_X9_keep_1, xC_e, xL_e, xU_e, xB_e, xD_e, xF_e, xG_e, xA_e, xE_e, xH_e, xI_e, xZ_e, xK_e, aN_e, aC_e, cR_e, cV_e, cA_e, cO_e, cN_e, bs_e, bn_e, zg_0, zg_S, sS_e, sX_e, sF_e, sG_e, sA_e, sE_e, sEo_e, sK_e, sQ_e, sI_e, sR_e, sV_e, sB_e, sC_e, sD_e, sN_e, sP_e, sY_e, st_0, st_S, zc_0, zc_S, r_eq, r_ne, r_lt, r_le, r_gt, r_ge, rb_ite, rb_0, rb_1, h]
    · by_cases g : q < k
      · obtain ⟨h1, h2⟩ := hT rfl p g
        simp [lf_X9_keep_1, xC_e, xL_e, xU_e, xB_e, xD_e, xF_e, xG_e, xA_e, xE_e, xH_e, xI_e, xZ_e, xK_e, aN_e, aC_e, cR_e, cV_e, cA_e, cO_e, cN_e, bs_e, bn_e, zg_0, zg_S, sS_e, sX_e, sF_e, sG_e, sA_e, sE_e, sEo_e, sK_e, sQ_e, sI_e, sR_e, sV_e, sB_e, sC_e, sD_e, sN_e, sP_e, sY_e, st_0, st_S, zc_0, zc_S, r_eq, r_ne, r_lt, r_le, r_gt, r_ge, rb_ite, rb_0, rb_1, h, p, g, h1, h2]
      · simp [lf_X9_keep_1, xC_e, xL_e, xU_e, xB_e, xD_e, xF_e, xG_e, xA_e, xE_e, xH_e, xI_e, xZ_e, xK_e, aN_e, aC_e, cR_e, cV_e, cA_e, cO_e, cN_e, bs_e, bn_e, zg_0, zg_S, sS_e, sX_e, sF_e, sG_e, sA_e, sE_e, sEo_e, sK_e, sQ_e, sI_e, sR_e, sV_e, sB_e, sC_e, sD_e, sN_e, sP_e, sY_e, st_0, st_S, zc_0, zc_S, r_eq, r_ne, r_lt, r_le, r_gt, r_ge, rb_ite, rb_0, rb_1, h, p, g]
theorem v_kl {ρ : zHp} (hI : zInv ρ) {w b c q : Int} (hw : 0 ≤ w ∧ w ≤ 39) (hc : 0 ≤ c ∧ c < ρ 1 2) (hq : -1 ≤ q ∧ q ≤ 2) : ∃ (t : Nat) (e : List Int) (υ : zHp) (r : Int), sW lc_X9_keep_1 lf_X9_keep_1 ls_X9_keep_1 [37, b, c, w, q, 0] ρ = some (t, e, υ) ∧ zSc ρ υ ∧ zAns ρ w b c q r ∧ ((t = 1 ∧ e = [r]) ∨ (t = 0 ∧ r = -9)) := by
  have hl := zfor (c := lc_X9_keep_1) (f := lf_X9_keep_1) (i := 5) (lo := 0) (σ := ρ) 4 (fun k => [37, b, c, w, q, 0 + (k : Int)]) (fun k x => zSc ρ x ∧ ∀ j, j < k → zKr ρ w b c j = none)
    (fun t e x => zSc ρ x ∧ ∃ r, zAns ρ w b c q r ∧ ((t = 1 ∧ e = [r]) ∨ (t = 0 ∧ r = -9))) ⟨fun _ _ _ _ _ _ => rfl, fun j h => by omega⟩ (fun k => rfl) (by decide) (by decide)
    (fun k x hk hx => zc_le (i := 5) (x := 0 + (k : Int)) rfl (show xC 3 _ x = some (3, x) from rfl) (by omega))
    (fun k x hk hx => by
      obtain ⟨r, υ, h1, h2, h3⟩ := v_kb (b := b) (n := (k : Int)) hI hw hc hx.1
      rw [zG4_e ρ w b c k (by omega)] at h3
      rw [z0k, z0k]
      rcases h3 with ⟨rfl, ⟨x1, y1, z1⟩, h4, h5, h6, h7⟩ | ⟨rfl, h4⟩
      · have body := v_kpBody (c := c) (w := w) (q := q) (T := if q = 0 then x1 else if q = 1 then y1 else z1) h1 (Or.inr rfl) (fun _ p g => by
          refine ⟨by omega, ?_⟩
          rcases (show q = 0 ∨ q = 1 ∨ q = 2 by omega) with rfl | rfl | rfl
          · exact h5
          · exact h6
          · exact h7)
        rw [if_pos rfl] at body
        exact Or.inl ⟨_, υ, body, h2, _, Or.inl ⟨k, x1, y1, z1, by omega, h4, hx.2, rfl⟩, Or.inl ⟨rfl, rfl⟩⟩
      · have body := v_kpBody (c := c) (w := w) (q := q) (T := 0) h1 (Or.inl rfl) (fun p => absurd p (by decide))
        rw [if_neg (by decide)] at body
        refine Or.inr ⟨0, _, υ, body, Or.inl rfl, rfl, rfl, h2, fun j hj => ?_⟩
        by_cases z : j = k
        · rw [z]; exact h4
        · exact hx.2 j (by omega))
    (fun x hx => ⟨hx.1, -9, Or.inr ⟨rfl, fun j hj => hx.2 j (by omega)⟩, Or.inr ⟨rfl, rfl⟩⟩)
  obtain ⟨t, e, υ, hl, h1, r, h2, h3⟩ := hl
  exact ⟨t, e, υ, r, hl, h1, h2, h3⟩
theorem v_keepEval {ρ υ : zHp} {w b c q r : Int} {t : Nat} {e : List Int} (gb : 0 ≤ b ∧ b < ρ 37 14) (gc : 0 ≤ c ∧ c < w32 (ρ 37 5 * ρ 37 6)) (gw : 0 ≤ w ∧ w ≤ 39) (gq : -1 ≤ q ∧ q ≤ 2) (hl : sW lc_X9_keep_1 lf_X9_keep_1 ls_X9_keep_1 [37, b, c, w, q, 0] ρ = some (t, e, υ)) (ht : (t = 1 ∧ e = [r]) ∨ (t = 0 ∧ r = -9)) : m_X9_keep [37, b, c, w, q] ρ = some (r, υ) := by
  rcases ht with ⟨rfl, rfl⟩ | ⟨rfl, rfl⟩
  · simp [e_X9_keep, d_X9_keep, xC_e, xL_e, xU_e, xB_e, xD_e, xF_e, xG_e, xA_e, xE_e, xH_e, xI_e, xZ_e, xK_e, aN_e, aC_e, cR_e, cV_e, cA_e, cO_e, cN_e, bs_e, bn_e, zg_0, zg_S, sS_e, sX_e, sF_e, sG_e, sA_e, sE_e, sEo_e, sK_e, sQ_e, sI_e, sR_e, sV_e, sB_e, sC_e, sD_e, sN_e, sP_e, sY_e, st_0, st_S, zc_0, zc_S, r_eq, r_ne, r_lt, r_le, r_gt, r_ge, rb_ite, rb_0, rb_1, v_isBell_t gb, v_isCell_t gc, v_isWind_t gw, v_within_t gq, rb_1, hl]
  · simp [e_X9_keep, d_X9_keep, xC_e, xL_e, xU_e, xB_e, xD_e, xF_e, xG_e, xA_e, xE_e, xH_e, xI_e, xZ_e, xK_e, aN_e, aC_e, cR_e, cV_e, cA_e, cO_e, cN_e, bs_e, bn_e, zg_0, zg_S, sS_e, sX_e, sF_e, sG_e, sA_e, sE_e, sEo_e, sK_e, sQ_e, sI_e, sR_e, sV_e, sB_e, sC_e, sD_e, sN_e, sP_e, sY_e, st_0, st_S, zc_0, zc_S, r_eq, r_ne, r_lt, r_le, r_gt, r_ge, rb_ite, rb_0, rb_1, v_isBell_t gb, v_isCell_t gc, v_isWind_t gw, v_within_t gq, rb_1, hl]
theorem zSc.same {ρ τ : zHp} (h : zSc ρ τ) : zSame ρ τ := fun a b hab => h a b (by rintro ⟨rfl, rfl | rfl | rfl⟩ <;> simp [zfree] at hab) (by rintro rfl; simp [zfree] at hab) (by rintro rfl; simp [zfree] at hab) (by rintro rfl; simp [zfree] at hab)
theorem zAns_eq {σ τ : zHp} (h : zSame σ τ) {w b c q r : Int} (hA : zAns τ w b c q r) : zAns σ w b c q r := by
  unfold zAns at hA
  simp only [zKr_eq h] at hA
  exact hA
theorem zp20 : zp_20 zInv := by
  intro b c w q hbr hcr hwr hqr σ hI
  have nN := zN_eq hI.2.2.1
  have hN := zI3 hI
  have ha : zOkA [0, 0, 0, 0] [b, c, w, q] := ⟨hbr, hcr, hwr, hqr, trivial⟩
  by_cases gb : 0 ≤ b ∧ b < σ 6 0
  case neg =>
    have gb' : ¬ (0 ≤ b ∧ b < σ 37 14) := by rw [hN.1]; exact gb
    refine zq k_X8_keep k_X9_keep hI ha (r := -1) (σ1 := σ) (σ2 := σ) ?_ ?_ (zSame.rf σ) (zSame.rf σ)
    · simp [e_X8_keep, d_X8_keep, xC_e, xL_e, xU_e, xB_e, xD_e, xF_e, xG_e, xA_e, xE_e, xH_e, xI_e, xZ_e, xK_e, aN_e, aC_e, cR_e, cV_e, cA_e, cO_e, cN_e, bs_e, bn_e, zg_0, zg_S, sS_e, sX_e, sF_e, sG_e, sA_e, sE_e, sEo_e, sK_e, sQ_e, sI_e, sR_e, sV_e, sB_e, sC_e, sD_e, sN_e, sP_e, sY_e, st_0, st_S, zc_0, zc_S, r_eq, r_ne, r_lt, r_le, r_gt, r_ge, rb_ite, rb_0, rb_1, w_isBell_f gb]
    · simp [e_X9_keep, d_X9_keep, xC_e, xL_e, xU_e, xB_e, xD_e, xF_e, xG_e, xA_e, xE_e, xH_e, xI_e, xZ_e, xK_e, aN_e, aC_e, cR_e, cV_e, cA_e, cO_e, cN_e, bs_e, bn_e, zg_0, zg_S, sS_e, sX_e, sF_e, sG_e, sA_e, sE_e, sEo_e, sK_e, sQ_e, sI_e, sR_e, sV_e, sB_e, sC_e, sD_e, sN_e, sP_e, sY_e, st_0, st_S, zc_0, zc_S, r_eq, r_ne, r_lt, r_le, r_gt, r_ge, rb_ite, rb_0, rb_1, v_isBell_f gb', rb_0]
  have gb' : 0 ≤ b ∧ b < σ 37 14 := by rw [hN.1]; exact gb
  by_cases gc : 0 ≤ c ∧ c < σ 1 2
  case neg =>
    have gc' : ¬ (0 ≤ c ∧ c < w32 (σ 37 5 * σ 37 6)) := by rw [nN.1]; exact gc
    refine zq k_X8_keep k_X9_keep hI ha (r := -1) (σ1 := σ) (σ2 := σ) ?_ ?_ (zSame.rf σ) (zSame.rf σ)
    · simp [e_X8_keep, d_X8_keep, xC_e, xL_e, xU_e, xB_e, xD_e, xF_e, xG_e, xA_e, xE_e, xH_e, xI_e, xZ_e, xK_e, aN_e, aC_e, cR_e, cV_e, cA_e, cO_e, cN_e, bs_e, bn_e, zg_0, zg_S, sS_e, sX_e, sF_e, sG_e, sA_e, sE_e, sEo_e, sK_e, sQ_e, sI_e, sR_e, sV_e, sB_e, sC_e, sD_e, sN_e, sP_e, sY_e, st_0, st_S, zc_0, zc_S, r_eq, r_ne, r_lt, r_le, r_gt, r_ge, rb_ite, rb_0, rb_1, w_isBell_t gb, w_isCell_f gc]
    · simp [e_X9_keep, d_X9_keep, xC_e, xL_e, xU_e, xB_e, xD_e, xF_e, xG_e, xA_e, xE_e, xH_e, xI_e, xZ_e, xK_e, aN_e, aC_e, cR_e, cV_e, cA_e, cO_e, cN_e, bs_e, bn_e, zg_0, zg_S, sS_e, sX_e, sF_e, sG_e, sA_e, sE_e, sEo_e, sK_e, sQ_e, sI_e, sR_e, sV_e, sB_e, sC_e, sD_e, sN_e, sP_e, sY_e, st_0, st_S, zc_0, zc_S, r_eq, r_ne, r_lt, r_le, r_gt, r_ge, rb_ite, rb_0, rb_1, v_isBell_t gb', v_isCell_f gc', rb_0, rb_1]
  have gc' : 0 ≤ c ∧ c < w32 (σ 37 5 * σ 37 6) := by rw [nN.1]; exact gc
  by_cases gw : 0 ≤ w ∧ w ≤ 39
  case neg =>
    refine zq k_X8_keep k_X9_keep hI ha (r := -2) (σ1 := σ) (σ2 := σ) ?_ ?_ (zSame.rf σ) (zSame.rf σ)
    · simp [e_X8_keep, d_X8_keep, xC_e, xL_e, xU_e, xB_e, xD_e, xF_e, xG_e, xA_e, xE_e, xH_e, xI_e, xZ_e, xK_e, aN_e, aC_e, cR_e, cV_e, cA_e, cO_e, cN_e, bs_e, bn_e, zg_0, zg_S, sS_e, sX_e, sF_e, sG_e, sA_e, sE_e, sEo_e, sK_e, sQ_e, sI_e, sR_e, sV_e, sB_e, sC_e, sD_e, sN_e, sP_e, sY_e, st_0, st_S, zc_0, zc_S, r_eq, r_ne, r_lt, r_le, r_gt, r_ge, rb_ite, rb_0, rb_1, w_isBell_t gb, w_isCell_t gc, w_isWind_f gw]
    · simp [e_X9_keep, d_X9_keep, xC_e, xL_e, xU_e, xB_e, xD_e, xF_e, xG_e, xA_e, xE_e, xH_e, xI_e, xZ_e, xK_e, aN_e, aC_e, cR_e, cV_e, cA_e, cO_e, cN_e, bs_e, bn_e, zg_0, zg_S, sS_e, sX_e, sF_e, sG_e, sA_e, sE_e, sEo_e, sK_e, sQ_e, sI_e, sR_e, sV_e, sB_e, sC_e, sD_e, sN_e, sP_e, sY_e, st_0, st_S, zc_0, zc_S, r_eq, r_ne, r_lt, r_le, r_gt, r_ge, rb_ite, rb_0, rb_1, v_isBell_t gb', v_isCell_t gc', v_isWind_f gw, rb_0, rb_1]
  by_cases gq : -1 ≤ q ∧ q ≤ 2
  case neg =>
    refine zq k_X8_keep k_X9_keep hI ha (r := -1) (σ1 := σ) (σ2 := σ) ?_ ?_ (zSame.rf σ) (zSame.rf σ)
    · by_cases q1 : q < -1
      · simp [e_X8_keep, d_X8_keep, xC_e, xL_e, xU_e, xB_e, xD_e, xF_e, xG_e, xA_e, xE_e, xH_e, xI_e, xZ_e, xK_e, aN_e, aC_e, cR_e, cV_e, cA_e, cO_e, cN_e, bs_e, bn_e, zg_0, zg_S, sS_e, sX_e, sF_e, sG_e, sA_e, sE_e, sEo_e, sK_e, sQ_e, sI_e, sR_e, sV_e, sB_e, sC_e, sD_e, sN_e, sP_e, sY_e, st_0, st_S, zc_0, zc_S, r_eq, r_ne, r_lt, r_le, r_gt, r_ge, rb_ite, rb_0, rb_1, w_isBell_t gb, w_isCell_t gc, w_isWind_t gw, q1]
      · have q2 : 3 ≤ q := by omega
        simp [e_X8_keep, d_X8_keep, xC_e, xL_e, xU_e, xB_e, xD_e, xF_e, xG_e, xA_e, xE_e, xH_e, xI_e, xZ_e, xK_e, aN_e, aC_e, cR_e, cV_e, cA_e, cO_e, cN_e, bs_e, bn_e, zg_0, zg_S, sS_e, sX_e, sF_e, sG_e, sA_e, sE_e, sEo_e, sK_e, sQ_e, sI_e, sR_e, sV_e, sB_e, sC_e, sD_e, sN_e, sP_e, sY_e, st_0, st_S, zc_0, zc_S, r_eq, r_ne, r_lt, r_le, r_gt, r_ge, rb_ite, rb_0, rb_1, w_isBell_t gb, w_isCell_t gc, w_isWind_t gw, q1, q2]
    · simp [e_X9_keep, d_X9_keep, xC_e, xL_e, xU_e, xB_e, xD_e, xF_e, xG_e, xA_e, xE_e, xH_e, xI_e, xZ_e, xK_e, aN_e, aC_e, cR_e, cV_e, cA_e, cO_e, cN_e, bs_e, bn_e, zg_0, zg_S, sS_e, sX_e, sF_e, sG_e, sA_e, sE_e, sEo_e, sK_e, sQ_e, sI_e, sR_e, sV_e, sB_e, sC_e, sD_e, sN_e, sP_e, sY_e, st_0, st_S, zc_0, zc_S, r_eq, r_ne, r_lt, r_le, r_gt, r_ge, rb_ite, rb_0, rb_1, v_isBell_t gb', v_isCell_t gc', v_isWind_t gw, v_within_f gq, rb_0, rb_1]
  obtain ⟨υ, r, h1, h2, h3⟩ := w_keep hI gb gc gw gq
  have o1 : zOk υ := zOk_of k_X8_keep hI.1 h1 ⟨zthis, ha⟩
  have hI1 : zInv υ := zInv_same o1 h2 hI
  obtain ⟨t, e, ξ, r2, k1, k2, k3, k4⟩ := v_kl (b := b) (c := c) (q := q) hI1 gw (by rw [h2 1 2 rfl]; exact gc) gq
  have er := zAns_1 h3 (zAns_eq h2 k3)
  subst er
  have ev := v_keepEval (by rw [h2 37 14 rfl]; exact gb') (by rw [h2 37 5 rfl, h2 37 6 rfl]; exact gc') gw gq k1 k4
  exact zq k_X8_keep k_X9_keep hI ha h1 ev h2 k2.same
