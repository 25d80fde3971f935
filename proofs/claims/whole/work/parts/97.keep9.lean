/-! keep: planting what is tried -/
theorem v_mp {τ : zHp} {x c h : Int} (x30 : 0 ≤ x ∧ x < 30) (p42 : τ 42 x = 0 ∨ τ 42 x = 1) (hh : m_X9_hanging [37, x] τ = some (h, τ)) : m_X9_mayPlant [37, x, c] τ = some (if x ≠ c ∧ ¬ τ 42 x = 1 ∧ h = 0 then 1 else 0, τ) := by
  by_cases p : x = c
  · subst p
    simp [e_X9_mayPlant, d_X9_mayPlant, xC_e, xL_e, xU_e, xB_e, xD_e, xF_e, xG_e, xA_e, xE_e, xH_e, xI_e, xZ_e, xK_e, aN_e, aC_e, cR_e, cV_e, cA_e, cO_e, cN_e, bs_e, bn_e, zg_0, zg_S, sS_e, sX_e, sF_e, sG_e, sA_e, sE_e, sEo_e, sK_e, sQ_e, sI_e, sR_e, sV_e, sB_e, sC_e, sD_e, sN_e, sP_e, sY_e, st_0, st_S, zc_0, zc_S, r_eq, r_ne, r_lt, r_le, r_gt, r_ge, rb_ite, rb_0, rb_1]
  · rcases p42 with q | q
    · by_cases g : h = 0 <;> simp [e_X9_mayPlant, d_X9_mayPlant, xC_e, xL_e, xU_e, xB_e, xD_e, xF_e, xG_e, xA_e, xE_e, xH_e, xI_e, xZ_e, xK_e, aN_e, aC_e, cR_e, cV_e, cA_e, cO_e, cN_e, bs_e, bn_e, zg_0, zg_S, sS_e, sX_e, sF_e, sG_e, sA_e, sE_e, sEo_e, sK_e, sQ_e, sI_e, sR_e, sV_e, sB_e, sC_e, sD_e, sN_e, sP_e, sY_e, st_0, st_S, zc_0, zc_S, r_eq, r_ne, r_lt, r_le, r_gt, r_ge, rb_ite, rb_0, rb_1, p, q, g, x30, hh]
    · simp [e_X9_mayPlant, d_X9_mayPlant, xC_e, xL_e, xU_e, xB_e, xD_e, xF_e, xG_e, xA_e, xE_e, xH_e, xI_e, xZ_e, xK_e, aN_e, aC_e, cR_e, cV_e, cA_e, cO_e, cN_e, bs_e, bn_e, zg_0, zg_S, sS_e, sX_e, sF_e, sG_e, sA_e, sE_e, sEo_e, sK_e, sQ_e, sI_e, sR_e, sV_e, sB_e, sC_e, sD_e, sN_e, sP_e, sY_e, st_0, st_S, zc_0, zc_S, r_eq, r_ne, r_lt, r_le, r_gt, r_ge, rb_ite, rb_0, rb_1, p, q, x30]
def zSc (ρ τ : zHp) : Prop := ∀ a i : Int, ¬ (a = 37 ∧ (i = 18 ∨ i = 19 ∨ i = 22)) → a ≠ 47 → a ≠ 48 → a ≠ 53 → τ a i = ρ a i
theorem v_mp2 {ρ τ : zHp} (hI : zInv ρ) (hs : zSc ρ τ) {c : Int} {x : Nat} (hx : (x : Int) < ρ 1 2) : m_X9_mayPlant [37, (x : Int), c] τ = some (if zPp ρ c x = true then 1 else 0, τ) := by
  obtain ⟨nb1, nb2⟩ := zNb_e hI
  obtain ⟨nc1, nc2⟩ := zNc_e hI
  have hN := zI3 hI
  have t14 : τ 37 14 = ρ 6 0 := by rw [hs 37 14 (by decide) (by decide) (by decide) (by decide), hN.1]
  have t42 : τ 42 x = ρ 42 x := hs 42 x (fun z => absurd z.1 (by decide)) (by decide) (by decide) (by decide)
  have hh := v_hanging x τ (by omega) (by omega)
  have e : zcn (fun b => decide (τ 45 b = x)) (τ 37 14).toNat = zcn (fun b => decide (ρ 8 b = x)) (zNb ρ) := by
    rw [t14]
    refine zcn_c _ (fun i hi => ?_)
    rw [hs 45 i (fun z => absurd z.1 (by decide)) (by decide) (by decide) (by decide), (hN.2.2.2 i (by omega) (by omega)).2.1.1]
  rw [e] at hh
  rw [v_mp (by omega) (by rw [t42]; exact zPl hI.1 x (by omega)) hh, t42]
  by_cases g : zPp ρ c x = true
  · rw [if_pos g]
    have g2 := of_decide_eq_true (show decide _ = true from g)
    rw [if_pos ⟨g2.2.1, g2.2.2.1, by omega⟩]
  · rw [if_neg g, if_neg]
    rintro ⟨z1, z2, z3⟩
    exact g (decide_eq_true ⟨hx, z1, z2, by omega⟩)
def zPk (υ : zHp) (r v : Int) : zHp := if r = -9 then υ else zput υ 42 r v
theorem zPk_n {υ : zHp} {r v a : Int} (h : a ≠ 42) (i : Int) : zPk υ r v a i = υ a i := by
  unfold zPk
  split
  · rfl
  · rw [zput_o h]
theorem zPk_42 {υ : zHp} {r v i : Int} : zPk υ r v 42 i = if r ≠ -9 ∧ i = r then v else υ 42 i := by
  unfold zPk
  by_cases g : r = -9
  · rw [if_pos g, if_neg (fun z => z.1 g)]
  · rw [if_neg g]
    by_cases z : i = r
    · subst z
      rw [zput_self, if_pos ⟨g, rfl⟩]
    · rw [zput_i z, if_neg (fun y => z y.2)]
def zPk3 (υ : zHp) (x y z v : Int) : zHp := zPk (zPk (zPk υ x v) y v) z v
theorem zPk3_n {υ : zHp} {x y z v a : Int} (h : a ≠ 42) (i : Int) : zPk3 υ x y z v a i = υ a i := by
  unfold zPk3
  rw [zPk_n h, zPk_n h, zPk_n h]
theorem zPk3_42 {υ : zHp} {x y z v i : Int} : zPk3 υ x y z v 42 i = if i ≠ -9 ∧ (i = x ∨ i = y ∨ i = z) then v else υ 42 i := by
  unfold zPk3
  rw [zPk_42, zPk_42, zPk_42]
  by_cases g : i ≠ -9 ∧ (i = x ∨ i = y ∨ i = z)
  · rw [if_pos g]
    split
    · rfl
    · split
      · rfl
      · split
        · rfl
        · omega
  · rw [if_neg g, if_neg (by omega), if_neg (by omega), if_neg (by omega)]
theorem v_trBody {υ : zHp} {v k r : Int} (k3 : 0 ≤ k ∧ k < 3) (h : υ 53 k = r) (hr : r = -9 ∨ (0 ≤ r ∧ r < 30)) : lf_X9_plantTried_1 [37, v, k] υ = some (0, [37, v, k], zPk υ r v) := by
  unfold zPk
  by_cases g : r = -9
  · rw [if_pos g]
    simp [lf_X9_plantTried_1, xC_e, xL_e, xU_e, xB_e, xD_e, xF_e, xG_e, xA_e, xE_e, xH_e, xI_e, xZ_e, xK_e, aN_e, aC_e, cR_e, cV_e, cA_e, cO_e, cN_e, bs_e, bn_e, zg_0, zg_S, sS_e, sX_e, sF_e, sG_e, sA_e, sE_e, sEo_e, sK_e, sQ_e, sI_e, sR_e, sV_e, sB_e, sC_e, sD_e, sN_e, sP_e, sY_e, st_0, st_S, zc_0, zc_S, r_eq, r_ne, r_lt, r_le, r_gt, r_ge, rb_ite, rb_0, rb_1, k3, h, g]
  · rw [if_neg g]
    have r30 : 0 ≤ r ∧ r < 30 := hr.resolve_left g
    simp [lf_X9_plantTried_1, xC_e, xL_e, xU_e, xB_e, xD_e, xF_e, xG_e, xA_e, xE_e, xH_e, xI_e, xZ_e, xK_e, aN_e, aC_e, cR_e, cV_e, cA_e, cO_e, cN_e, bs_e, bn_e, zg_0, zg_S, sS_e, sX_e, sF_e, sG_e, sA_e, sE_e, sEo_e, sK_e, sQ_e, sI_e, sR_e, sV_e, sB_e, sC_e, sD_e, sN_e, sP_e, sY_e, st_0, st_S, zc_0, zc_S, r_eq, r_ne, r_lt, r_le, r_gt, r_ge, rb_ite, rb_0, rb_1, k3, h, g, r30]
def zT3 (τ : zHp) (x y z v : Int) : Nat → zHp
  | 0 => τ
  | 1 => zPk τ x v
  | 2 => zPk (zPk τ x v) y v
  | _ => zPk3 τ x y z v
theorem v_tr {τ : zHp} {x y z : Int} (v : Int) (e0 : τ 53 0 = x) (e1 : τ 53 1 = y) (e2 : τ 53 2 = z) (hx : x = -9 ∨ (0 ≤ x ∧ x < 30)) (hy : y = -9 ∨ (0 ≤ y ∧ y < 30)) (hz : z = -9 ∨ (0 ≤ z ∧ z < 30)) : m_X9_plantTried [37, v] τ = some (0, zPk3 τ x y z v) := by
  have hl := zl_seq (c := lc_X9_plantTried_1) (f := lf_X9_plantTried_1) (s := ls_X9_plantTried_1) (fun k => [37, v, (k : Int)]) (zT3 τ x y z v) 3
    (fun k hk => by
      have : (k : Int) < 3 := by omega
      simp only [lc_X9_plantTried_1, xC_e, xL_e, xU_e, xB_e, xD_e, xF_e, xG_e, xA_e, xE_e, xH_e, xI_e, xZ_e, xK_e, aN_e, aC_e, cR_e, cV_e, cA_e, cO_e, cN_e, bs_e, bn_e, zg_0, zg_S, sS_e, sX_e, sF_e, sG_e, sA_e, sE_e, sEo_e, sK_e, sQ_e, sI_e, sR_e, sV_e, sB_e, sC_e, sD_e, sN_e, sP_e, sY_e, st_0, st_S, zc_0, zc_S, r_lt]
      rw [decide_eq_true this])
    (fun k hk => by
      have inc := zinc (k := k) (by omega)
      rcases (show k = 0 ∨ k = 1 ∨ k = 2 by omega) with rfl | rfl | rfl
      · exact ⟨0, _, _, v_trBody (k := ((0 : Nat) : Int)) (by omega) e0 hx, Or.inl rfl, by simp only [ls_X9_plantTried_1, xC_e, xL_e, xU_e, xB_e, xD_e, xF_e, xG_e, xA_e, xE_e, xH_e, xI_e, xZ_e, xK_e, aN_e, aC_e, cR_e, cV_e, cA_e, cO_e, cN_e, bs_e, bn_e, zg_0, zg_S, sS_e, sX_e, sF_e, sG_e, sA_e, sE_e, sEo_e, sK_e, sQ_e, sI_e, sR_e, sV_e, sB_e, sC_e, sD_e, sN_e, sP_e, sY_e, st_0, st_S, zc_0, zc_S, inc]; rfl⟩
      · exact ⟨0, _, _, v_trBody (υ := zPk τ x v) (k := ((1 : Nat) : Int)) (by omega) (by rw [zPk_n (by decide)]; exact e1) hy, Or.inl rfl, by simp only [ls_X9_plantTried_1, xC_e, xL_e, xU_e, xB_e, xD_e, xF_e, xG_e, xA_e, xE_e, xH_e, xI_e, xZ_e, xK_e, aN_e, aC_e, cR_e, cV_e, cA_e, cO_e, cN_e, bs_e, bn_e, zg_0, zg_S, sS_e, sX_e, sF_e, sG_e, sA_e, sE_e, sEo_e, sK_e, sQ_e, sI_e, sR_e, sV_e, sB_e, sC_e, sD_e, sN_e, sP_e, sY_e, st_0, st_S, zc_0, zc_S, inc]; rfl⟩
      · exact ⟨0, _, _, v_trBody (υ := zPk (zPk τ x v) y v) (k := ((2 : Nat) : Int)) (by omega) (by rw [zPk_n (by decide), zPk_n (by decide)]; exact e2) hz, Or.inl rfl, by simp only [ls_X9_plantTried_1, xC_e, xL_e, xU_e, xB_e, xD_e, xF_e, xG_e, xA_e, xE_e, xH_e, xI_e, xZ_e, xK_e, aN_e, aC_e, cR_e, cV_e, cA_e, cO_e, cN_e, bs_e, bn_e, zg_0, zg_S, sS_e, sX_e, sF_e, sG_e, sA_e, sE_e, sEo_e, sK_e, sQ_e, sI_e, sR_e, sV_e, sB_e, sC_e, sD_e, sN_e, sP_e, sY_e, st_0, st_S, zc_0, zc_S, inc]; rfl⟩)
    (by
      have : ¬ ((3 : Nat) : Int) < 3 := by omega
      simp only [lc_X9_plantTried_1, xC_e, xL_e, xU_e, xB_e, xD_e, xF_e, xG_e, xA_e, xE_e, xH_e, xI_e, xZ_e, xK_e, aN_e, aC_e, cR_e, cV_e, cA_e, cO_e, cN_e, bs_e, bn_e, zg_0, zg_S, sS_e, sX_e, sF_e, sG_e, sA_e, sE_e, sEo_e, sK_e, sQ_e, sI_e, sR_e, sV_e, sB_e, sC_e, sD_e, sN_e, sP_e, sY_e, st_0, st_S, zc_0, zc_S, r_lt]
      rw [decide_eq_false this])
    (zf_lt (by omega))
  have hl2 : sW lc_X9_plantTried_1 lf_X9_plantTried_1 ls_X9_plantTried_1 [37, v, 0] τ = some (0, [37, v, ((3 : Nat) : Int)], zPk3 τ x y z v) := hl
  simp [e_X9_plantTried, d_X9_plantTried, xC_e, xL_e, xU_e, xB_e, xD_e, xF_e, xG_e, xA_e, xE_e, xH_e, xI_e, xZ_e, xK_e, aN_e, aC_e, cR_e, cV_e, cA_e, cO_e, cN_e, bs_e, bn_e, zg_0, zg_S, sS_e, sX_e, sF_e, sG_e, sA_e, sE_e, sEo_e, sK_e, sQ_e, sI_e, sR_e, sV_e, sB_e, sC_e, sD_e, sN_e, sP_e, sY_e, st_0, st_S, zc_0, zc_S, hl2]
theorem v_ksBody {τ : zHp} {x y z b c w k r : Int} {m : Bool} (k3 : 0 ≤ k ∧ k < 3) (h : τ 53 k = r) (hm : r ≠ -9 → m_X9_mayPlant [37, r, c] τ = some (if m = true then 1 else 0, τ)) : lf_X9_keepsSo_1 [37, x, y, z, b, c, w, k] τ = if r ≠ -9 ∧ m = false then some (1, [0], τ) else some (0, [37, x, y, z, b, c, w, k], τ) := by
  by_cases g : r = -9
  · simp [lf_X9_keepsSo_1, xC_e, xL_e, xU_e, xB_e, xD_e, xF_e, xG_e, xA_e, xE_e, xH_e, xI_e, xZ_e, xK_e, aN_e, aC_e, cR_e, cV_e, cA_e, cO_e, cN_e, bs_e, bn_e, zg_0, zg_S, sS_e, sX_e, sF_e, sG_e, sA_e, sE_e, sEo_e, sK_e, sQ_e, sI_e, sR_e, sV_e, sB_e, sC_e, sD_e, sN_e, sP_e, sY_e, st_0, st_S, zc_0, zc_S, r_eq, r_ne, r_lt, r_le, r_gt, r_ge, rb_ite, rb_0, rb_1, k3, h, g]
  · have h2 := hm g
    cases m
    · simp at h2
      simp [lf_X9_keepsSo_1, xC_e, xL_e, xU_e, xB_e, xD_e, xF_e, xG_e, xA_e, xE_e, xH_e, xI_e, xZ_e, xK_e, aN_e, aC_e, cR_e, cV_e, cA_e, cO_e, cN_e, bs_e, bn_e, zg_0, zg_S, sS_e, sX_e, sF_e, sG_e, sA_e, sE_e, sEo_e, sK_e, sQ_e, sI_e, sR_e, sV_e, sB_e, sC_e, sD_e, sN_e, sP_e, sY_e, st_0, st_S, zc_0, zc_S, r_eq, r_ne, r_lt, r_le, r_gt, r_ge, rb_ite, rb_0, rb_1, k3, h, g, h2]
    · simp at h2
      simp [lf_X9_keepsSo_1, xC_e, xL_e, xU_e, xB_e, xD_e, xF_e, xG_e, xA_e, xE_e, xH_e, xI_e, xZ_e, xK_e, aN_e, aC_e, cR_e, cV_e, cA_e, cO_e, cN_e, bs_e, bn_e, zg_0, zg_S, sS_e, sX_e, sF_e, sG_e, sA_e, sE_e, sEo_e, sK_e, sQ_e, sI_e, sR_e, sV_e, sB_e, sC_e, sD_e, sN_e, sP_e, sY_e, st_0, st_S, zc_0, zc_S, r_eq, r_ne, r_lt, r_le, r_gt, r_ge, rb_ite, rb_0, rb_1, k3, h, g, h2]
theorem v_ksEval0 {τ υ : zHp} {x y z b c w : Int} (ht : zput (zput (zput τ 53 0 x) 53 1 y) 53 2 z = υ) (hl : sW lc_X9_keepsSo_1 lf_X9_keepsSo_1 ls_X9_keepsSo_1 [37, x, y, z, b, c, w, 0] υ = some (1, [0], υ)) : m_X9_keepsSo [37, x, y, z, b, c, w] τ = some (0, υ) := by
  simp [e_X9_keepsSo, d_X9_keepsSo, xC_e, xL_e, xU_e, xB_e, xD_e, xF_e, xG_e, xA_e, xE_e, xH_e, xI_e, xZ_e, xK_e, aN_e, aC_e, cR_e, cV_e, cA_e, cO_e, cN_e, bs_e, bn_e, zg_0, zg_S, sS_e, sX_e, sF_e, sG_e, sA_e, sE_e, sEo_e, sK_e, sQ_e, sI_e, sR_e, sV_e, sB_e, sC_e, sD_e, sN_e, sP_e, sY_e, st_0, st_S, zc_0, zc_S, r_eq, r_ne, r_lt, r_le, r_gt, r_ge, rb_ite, rb_0, rb_1, ht, hl]
theorem v_ksEval1 {τ υ ζ η ξ : zHp} {x y z b c w n r : Int} (ht : zput (zput (zput τ 53 0 x) 53 1 y) 53 2 z = υ) (hl : sW lc_X9_keepsSo_1 lf_X9_keepsSo_1 ls_X9_keepsSo_1 [37, x, y, z, b, c, w, 0] υ = some (0, [37, x, y, z, b, c, w, n], υ)) (h1 : m_X9_plantTried [37, 1] υ = some (0, ζ)) (h2 : m_X9_isOwn [37, b, c, w] ζ = some (r, η)) (h3 : m_X9_plantTried [37, 0] η = some (0, ξ)) : m_X9_keepsSo [37, x, y, z, b, c, w] τ = some (r, ξ) := by
  simp [e_X9_keepsSo, d_X9_keepsSo, xC_e, xL_e, xU_e, xB_e, xD_e, xF_e, xG_e, xA_e, xE_e, xH_e, xI_e, xZ_e, xK_e, aN_e, aC_e, cR_e, cV_e, cA_e, cO_e, cN_e, bs_e, bn_e, zg_0, zg_S, sS_e, sX_e, sF_e, sG_e, sA_e, sE_e, sEo_e, sK_e, sQ_e, sI_e, sR_e, sV_e, sB_e, sC_e, sD_e, sN_e, sP_e, sY_e, st_0, st_S, zc_0, zc_S, r_eq, r_ne, r_lt, r_le, r_gt, r_ge, rb_ite, rb_0, rb_1, ht, hl, h1, h2, h3]
abbrev zMy (ρ : zHp) (c r : Int) : Prop := r = -9 ∨ zPp ρ c r.toNat = true
theorem v_ks {ρ τ : zHp} (hI : zInv ρ) {w b c : Int} (hw : 0 ≤ w ∧ w ≤ 39) (hc : 0 ≤ c ∧ c < ρ 1 2) (hs : zSc ρ τ) {x y z : Int} (hx : x = -9 ∨ (0 ≤ x ∧ x < ρ 1 2)) (hy : y = -9 ∨ (0 ≤ y ∧ y < ρ 1 2)) (hz : z = -9 ∨ (0 ≤ z ∧ z < ρ 1 2)) : ∃ (υ : zHp) (r : Int), m_X9_keepsSo [37, x, y, z, b, c, w] τ = some (r, υ) ∧ zSc ρ υ ∧ ((r = 1 ∧ (zMy ρ c x ∧ zMy ρ c y ∧ zMy ρ c z ∧ zK3 ρ w b c x y z = true) ∧ υ 53 0 = x ∧ υ 53 1 = y ∧ υ 53 2 = z) ∨ (r = 0 ∧ ¬ (zMy ρ c x ∧ zMy ρ c y ∧ zMy ρ c z ∧ zK3 ρ w b c x y z = true))) := by
  obtain ⟨nc1, nc2⟩ := zNc_e hI
  generalize ht : zput (zput (zput τ 53 0 x) 53 1 y) 53 2 z = υ
  have s0 : υ 53 0 = x := by rw [← ht, zput_i (by decide), zput_i (by decide), zput_self]
  have s1 : υ 53 1 = y := by rw [← ht, zput_i (by decide), zput_self]
  have s2 : υ 53 2 = z := by rw [← ht, zput_self]
  have sc : zSc ρ υ := fun a i h1 h2 h3 h4 => by
    rw [← ht, zput_o h4, zput_o h4, zput_o h4]
    exact hs a i h1 h2 h3 h4
  have row : ∀ k : Nat, k < 3 → ∃ r : Int, υ 53 k = r ∧ (r = -9 ∨ (0 ≤ r ∧ r < ρ 1 2)) ∧ (r = x ∨ r = y ∨ r = z) := fun k hk => by
    match k, hk with
    | 0, _ => exact ⟨x, s0, hx, Or.inl rfl⟩
    | 1, _ => exact ⟨y, s1, hy, Or.inr (Or.inl rfl)⟩
    | 2, _ => exact ⟨z, s2, hz, Or.inr (Or.inr rfl)⟩
  have hl := zfor (c := lc_X9_keepsSo_1) (f := lf_X9_keepsSo_1) (i := 7) (lo := 0) (σ := υ) 3 (fun k => [37, x, y, z, b, c, w, 0 + (k : Int)]) (fun k u => u = υ ∧ ∀ j : Nat, j < k → zMy ρ c (υ 53 j))
    (fun t e u => u = υ ∧ ((t = 1 ∧ e = [0] ∧ ∃ j : Nat, j < 3 ∧ ¬ zMy ρ c (υ 53 j)) ∨ (t = 0 ∧ e = [37, x, y, z, b, c, w, 0 + ((3 : Nat) : Int)] ∧ ∀ j : Nat, j < 3 → zMy ρ c (υ 53 j)))) ⟨rfl, fun j h => by omega⟩ (fun k => rfl) (by decide) (by decide)
    (fun k u hk hu => zc_lt (i := 7) (x := 0 + (k : Int)) rfl (show xC 3 _ u = some (3, u) from rfl) (by omega))
    (fun k u hk hu => by
      obtain ⟨rfl, hu⟩ := hu
      obtain ⟨r, r1, r2, -⟩ := row k hk
      have body := v_ksBody (x := x) (y := y) (z := z) (b := b) (c := c) (w := w) (k := (k : Int)) (m := zPp ρ c r.toNat) (by omega) r1 (fun g => by
        have r3 := r2.resolve_left g
        have m := v_mp2 hI sc (c := c) (x := r.toNat) (by omega)
        rw [show ((r.toNat : Nat) : Int) = r by omega] at m
        exact m)
      rw [z0k, z0k, body]
      by_cases g : r ≠ -9 ∧ zPp ρ c r.toNat = false
      · rw [if_pos g]
        refine Or.inl ⟨_, _, rfl, rfl, Or.inl ⟨rfl, rfl, k, hk, fun m => ?_⟩⟩
        rw [r1] at m
        rcases m with m | m
        · exact g.1 m
        · rw [g.2] at m
          cases m
      · rw [if_neg g]
        refine Or.inr ⟨_, _, _, rfl, Or.inl rfl, rfl, rfl, rfl, fun j hj => ?_⟩
        by_cases e : j = k
        · subst e
          rw [r1]
          by_cases g1 : r = -9
          · exact Or.inl g1
          · refine Or.inr ?_
            cases h : zPp ρ c r.toNat
            · exact absurd ⟨g1, h⟩ g
            · rfl
        · exact hu j (by omega))
    (fun u hu => ⟨hu.1, Or.inr ⟨rfl, rfl, hu.2⟩⟩)
  obtain ⟨t, e, u, hl, rfl, hq⟩ := hl
  rcases hq with ⟨rfl, rfl, j, j3, hj⟩ | ⟨rfl, rfl, hj⟩
  · refine ⟨_, 0, v_ksEval0 ht hl, sc, Or.inr ⟨rfl, ?_⟩⟩
    rintro ⟨m1, m2, m3, -⟩
    refine hj ?_
    match j, j3 with
    | 0, _ => exact (show zMy ρ c (u 53 0) from by rw [s0]; exact m1)
    | 1, _ => exact (show zMy ρ c (u 53 1) from by rw [s1]; exact m2)
    | 2, _ => exact (show zMy ρ c (u 53 2) from by rw [s2]; exact m3)
  · have m1 : zMy ρ c x := by have := hj 0 (by omega); rw [← s0]; exact this
    have m2 : zMy ρ c y := by have := hj 1 (by omega); rw [← s1]; exact this
    have m3 : zMy ρ c z := by have := hj 2 (by omega); rw [← s2]; exact this
    have x30 : x = -9 ∨ (0 ≤ x ∧ x < 30) := by omega
    have y30 : y = -9 ∨ (0 ≤ y ∧ y < 30) := by omega
    have z30' : z = -9 ∨ (0 ≤ z ∧ z < 30) := by omega
    have p1 := v_tr 1 s0 s1 s2 x30 y30 z30'
    have in42 : ∀ i : Int, (i ≠ -9 ∧ (i = x ∨ i = y ∨ i = z)) → ¬ ρ 42 i = 1 ∧ 0 ≤ i := fun i hi => by
      have hm : zMy ρ c i ∧ 0 ≤ i := by
        rcases hi.2 with e | e | e
        · rw [e]; exact ⟨m1, by omega⟩
        · rw [e]; exact ⟨m2, by omega⟩
        · rw [e]; exact ⟨m3, by omega⟩
      have g := hm.1.resolve_left hi.1
      have g2 := of_decide_eq_true (show decide _ = true from g)
      rw [show ((i.toNat : Nat) : Int) = i by omega] at g2
      exact ⟨g2.2.2.1, hm.2⟩
    have hA : zAd ρ (zPk3 u x y z 1) (zS3 x y z) := ⟨fun a i h1 h2 h3 h4 h5 => by rw [zPk3_n h1]; exact sc a i h2 h3 h4 h5, fun i hi => by
      rw [zPk3_42]
      by_cases g : (i : Int) = x ∨ (i : Int) = y ∨ (i : Int) = z
      · rw [if_pos ⟨by omega, g⟩, if_pos (show zS3 x y z i = true from decide_eq_true g)]
      · rw [if_neg (fun q => g q.2), if_neg (show ¬ zS3 x y z i = true from fun q => g (of_decide_eq_true q))]
        exact sc 42 i (fun q => absurd q.1 (by decide)) (by decide) (by decide) (by decide)⟩
    have hfr : ∀ i : Nat, (i : Int) < ρ 1 2 → zS3 x y z i = true → ρ 42 i ≠ 1 := fun i hi hS => (in42 i ⟨by omega, of_decide_eq_true hS⟩).1
    have hp : ∀ k : Int, 0 ≤ k → (zPk3 u x y z 1) 42 k = 0 ∨ (zPk3 u x y z 1) 42 k = 1 := fun k hk => by
      rw [zPk3_42]
      split
      · exact Or.inr rfl
      · rw [sc 42 k (fun q => absurd q.1 (by decide)) (by decide) (by decide) (by decide)]
        exact zPl hI.1 k hk
    obtain ⟨η, o1, o2⟩ := v_io (b := b) hI hw hc hA hfr hp
    have row5 : ∀ i : Int, η 53 i = u 53 i := fun i => by rw [o2 53 i (fun q => absurd q.1 (by decide)) (by decide) (by decide), zPk3_n (by decide)]
    have p2 := v_tr (τ := η) 0 ((row5 0).trans s0) ((row5 1).trans s1) ((row5 2).trans s2) x30 y30 z30'
    have ev := v_ksEval1 ht hl p1 o1 p2
    have scE : zSc ρ (zPk3 η x y z 0) := fun a i h1 h2 h3 h4 => by
      by_cases a42 : a = 42
      · subst a42
        rw [zPk3_42]
        by_cases g : i ≠ -9 ∧ (i = x ∨ i = y ∨ i = z)
        · rw [if_pos g]
          obtain ⟨n1, n2⟩ := in42 i g
          exact ((zPl hI.1 i n2).resolve_right n1).symm
        · rw [if_neg g, o2 42 i h1 h2 h3, zPk3_42, if_neg g]
          exact sc 42 i h1 h2 h3 h4
      · rw [zPk3_n a42, o2 a i h1 h2 h3, zPk3_n a42]
        exact sc a i h1 h2 h3 h4
    refine ⟨_, _, ev, scE, ?_⟩
    by_cases g : zKk ρ w b c (zS3 x y z) = true
    · rw [if_pos g]
      exact Or.inl ⟨rfl, ⟨m1, m2, m3, g⟩, by rw [zPk3_n (by decide), row5]; exact s0, by rw [zPk3_n (by decide), row5]; exact s1, by rw [zPk3_n (by decide), row5]; exact s2⟩
    · rw [if_neg g]
      exact Or.inr ⟨rfl, fun q => g q.2.2.2⟩
