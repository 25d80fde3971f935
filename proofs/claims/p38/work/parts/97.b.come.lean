/-! the law's bells, plants and ear: one of each -/
def z37 (σ τ : zHp) : Prop := ∀ a b : Int, a ≠ 37 → τ a b = σ a b
theorem zInv_37 {σ τ : zHp} (ho : zOk τ) (hs : z37 σ τ) (h : zInv σ) : zInv τ := by
  obtain ⟨-, hF, hL, hH, hB, hP, hE, hN, hC, hR, hS⟩ := h
  have r : ∀ a : Int, a ≠ 37 → ∀ k, τ a k = σ a k := fun a h1 k => hs a k h1
  refine ⟨ho, trivial, ?_, ?_, ?_, ?_, ?_, ?_, ?_, trivial, ?_⟩
  · exact zIL_c hL (r 1 (by decide) 0) (r 1 (by decide) 1) (r 1 (by decide) 2) (r 1 (by decide) 0) (r 1 (by decide) 1)
  · exact zIH_c hH (r 1 (by decide) 1) (r 1 (by decide) 2) (r 2 (by decide)) (r 3 (by decide)) (r 4 (by decide)) (r 2 (by decide))
  · exact zIB_c hB (r 1 (by decide) 2) (r 2 (by decide)) (r 5 (by decide))
  · exact zIP_c hP (r 1 (by decide) 2) (r 1 (by decide) 3) (zpl_c (r 1 (by decide) 3))
  · exact zIE_c hE (r 10 (by decide) 2) (r 10 (by decide) 2)
  · exact zIN_c hN (r 6 (by decide) 0) (r 6 (by decide) 0) (r 1 (by decide) 2) (r 7 (by decide)) (r 8 (by decide)) (r 9 (by decide)) (r 7 (by decide)) (r 8 (by decide)) (r 9 (by decide))
  · exact zIC_c hC (r 1 (by decide) 1) (r 1 (by decide) 2) (r 6 (by decide) 0) (r 2 (by decide)) (r 7 (by decide)) (r 8 (by decide)) (r 11 (by decide)) (zpl_c (r 1 (by decide) 3))
  · exact zIS_c hS (fun o h1 h2 => r o (by omega) 3)
theorem z37.put (σ : zHp) (i v : Int) : z37 σ (zput σ 37 i v) := fun a b h => zput_o h b
theorem z37.tr {σ τ υ : zHp} (h : z37 σ τ) (g : z37 τ υ) : z37 σ υ := fun a b q => (g a b q).trans (h a b q)
theorem zOk_37 {σ : zHp} (h : zOk σ) {i v : Int} (hi : 0 ≤ i ∧ i < 60) (hv : r32 v) : zOk (zput σ 37 i v) := by
  have := zOk_put (o := 37) (i := i.toNat) h (v := v) (by
    have e : zst 37 i.toNat = 0 := by rfl
    rw [e]
    exact hv)
  rw [show ((i.toNat : Nat) : Int) = i by omega] at this
  exact this
theorem zInv_p37 {σ : zHp} (h : zInv σ) {i v : Int} (hi : 0 ≤ i ∧ i < 60) (hv : r32 v) : zInv (zput σ 37 i v) := zInv_37 (zOk_37 h.1 hi hv) (z37.put σ i v) h
def qCm (C k : Int) (y : zHp) : Prop := zInv y ∧ zGm y ∧ y 1 2 = C ∧ y 10 2 = 10 ∧ y 37 2 = 10 ∧ y 6 0 = k ∧ y 37 41 = k ∧ ∀ b : Int, 0 ≤ b → b < k → y 37 (42 + b) = y 7 b ∧ y 37 (48 + b) = y 8 b ∧ y 37 (54 + b) = y 9 b
section QCOME
variable {L : Nat} {xs : Nat → Int32}
theorem q_cmC1 {υ : zHp} {C N k a b : Int} : lc_L_come_1 L xs [0, 0, 4, 6, 37, C, N, k, a, b] υ = some (decide (k < N), υ) := by
  simp [lc_L_come_1, xC_e, xL_e, xU_e, xB_e, xD_e, xF_e, xG_e, xA_e, xE_e, xH_e, xI_e, xZ_e, xK_e, aN_e, aC_e, cR_e, cV_e, cA_e, cO_e, cN_e, bs_e, bn_e, zg_0, zg_S, sS_e, sX_e, sF_e, sG_e, sA_e, sE_e, sEo_e, sK_e, sQ_e, sI_e, sR_e, sV_e, sB_e, sC_e, sD_e, sN_e, st_0, st_S, zc_0, zc_S, r_eq, r_ne, r_lt, r_le, r_gt, r_ge, rb_ite, rb_0, rb_1]
theorem q_cmB1 {y y1 y2 y3 z : zHp} {C N k k1 cv v kd c t n w w1 i1 i2 i3 u : Int} (k1e : o_iadd (o_iadd 4 1) (zmod k 3) = k1) (hcv : m_L_cell L xs [0, k1] y = some (cv, y)) (ve : zShr cv (o_imul (zdiv k 3) 15) = v)
    (e1 : o_iadd 42 k = i1) (e2 : o_iadd 48 k = i2) (e3 : o_iadd 54 k = i3) (b1 : 0 ≤ i1 ∧ i1 < 60) (b2 : 0 ≤ i2 ∧ i2 < 60) (b3 : 0 ≤ i3 ∧ i3 < 60) (hkd : m_L_some [v, 3] y = some (kd, y)) (y1e : zput y 37 i1 kd = y1) (hc : m_L_some [zShr v 2, C] y1 = some (c, y1)) (y2e : zput y1 37 i2 c = y2)
    (ht : m_L_some [zShr v 14, 3] y2 = some (t, y2)) (ne : (if t = 0 then 99 else 20) = n) (hw : m_L_some [zShr v 7, n] y2 = some (w, y2)) (w1e : o_iadd 1 w = w1) (y3e : zput y2 37 i3 w1 = y3) (r1 : y3 37 i1 = kd) (r2 : y3 37 i2 = c) (r3 : y3 37 i3 = w1) (hb : m_X8_bell [0, kd, c, w1] y3 = some (k, z)) (ue : o_iadd (z 37 41) 1 = u) :
    lf_L_come_1 L xs [0, 0, 4, 6, 37, C, N, k, 0, 0] y = some (0, [0, 0, 4, 6, 37, C, N, k, 0, 0], zput z 37 41 u) := by
  unfold lf_L_come_1
  refine (sD_0 (e1 := [0, 0, 4, 6, 37, C, N, k, v, 0]) ?_).trans rfl
  rw [sQ_s (e1 := [0, 0, 4, 6, 37, C, N, k, v, 0]) (σ1 := y) (by simp [xC_e, xL_e, xU_e, xB_e, xD_e, xF_e, xG_e, xA_e, xE_e, xH_e, xI_e, xZ_e, xK_e, aN_e, aC_e, cR_e, cV_e, cA_e, cO_e, cN_e, bs_e, bn_e, zg_0, zg_S, sS_e, sX_e, sF_e, sG_e, sA_e, sE_e, sEo_e, sK_e, sQ_e, sI_e, sR_e, sV_e, sB_e, sC_e, sD_e, sN_e, st_0, st_S, zc_0, zc_S, k1e, hcv, ve])]
  rw [sQ_s (e1 := [0, 0, 4, 6, 37, C, N, k, v, 0]) (σ1 := y1) (by simp [xC_e, xL_e, xU_e, xB_e, xD_e, xF_e, xG_e, xA_e, xE_e, xH_e, xI_e, xZ_e, xK_e, aN_e, aC_e, cR_e, cV_e, cA_e, cO_e, cN_e, bs_e, bn_e, zg_0, zg_S, sS_e, sX_e, sF_e, sG_e, sA_e, sE_e, sEo_e, sK_e, sQ_e, sI_e, sR_e, sV_e, sB_e, sC_e, sD_e, sN_e, st_0, st_S, zc_0, zc_S, e1, b1, hkd, y1e])]
  rw [sQ_s (e1 := [0, 0, 4, 6, 37, C, N, k, v, 0]) (σ1 := y2) (by simp [xC_e, xL_e, xU_e, xB_e, xD_e, xF_e, xG_e, xA_e, xE_e, xH_e, xI_e, xZ_e, xK_e, aN_e, aC_e, cR_e, cV_e, cA_e, cO_e, cN_e, bs_e, bn_e, zg_0, zg_S, sS_e, sX_e, sF_e, sG_e, sA_e, sE_e, sEo_e, sK_e, sQ_e, sI_e, sR_e, sV_e, sB_e, sC_e, sD_e, sN_e, st_0, st_S, zc_0, zc_S, e2, b2, hc, y2e])]
  rw [sQ_s (e1 := [0, 0, 4, 6, 37, C, N, k, v, 0]) (σ1 := y3) (by
    by_cases p : t = 0
    · rw [if_pos p] at ne
      subst ne
      subst p
      simp [xC_e, xL_e, xU_e, xB_e, xD_e, xF_e, xG_e, xA_e, xE_e, xH_e, xI_e, xZ_e, xK_e, aN_e, aC_e, cR_e, cV_e, cA_e, cO_e, cN_e, bs_e, bn_e, zg_0, zg_S, sS_e, sX_e, sF_e, sG_e, sA_e, sE_e, sEo_e, sK_e, sQ_e, sI_e, sR_e, sV_e, sB_e, sC_e, sD_e, sN_e, st_0, st_S, zc_0, zc_S, r_eq, r_ne, r_lt, r_le, r_gt, r_ge, rb_ite, rb_0, rb_1, e3, b3, ht, hw, w1e, y3e]
    · rw [if_neg p] at ne
      subst ne
      simp [xC_e, xL_e, xU_e, xB_e, xD_e, xF_e, xG_e, xA_e, xE_e, xH_e, xI_e, xZ_e, xK_e, aN_e, aC_e, cR_e, cV_e, cA_e, cO_e, cN_e, bs_e, bn_e, zg_0, zg_S, sS_e, sX_e, sF_e, sG_e, sA_e, sE_e, sEo_e, sK_e, sQ_e, sI_e, sR_e, sV_e, sB_e, sC_e, sD_e, sN_e, st_0, st_S, zc_0, zc_S, r_eq, r_ne, r_lt, r_le, r_gt, r_ge, rb_ite, rb_0, rb_1, e3, b3, ht, hw, w1e, y3e, p])]
  rw [sQ_s (e1 := [0, 0, 4, 6, 37, C, N, k, v, 0]) (σ1 := z) (by simp [xC_e, xL_e, xU_e, xB_e, xD_e, xF_e, xG_e, xA_e, xE_e, xH_e, xI_e, xZ_e, xK_e, aN_e, aC_e, cR_e, cV_e, cA_e, cO_e, cN_e, bs_e, bn_e, zg_0, zg_S, sS_e, sX_e, sF_e, sG_e, sA_e, sE_e, sEo_e, sK_e, sQ_e, sI_e, sR_e, sV_e, sB_e, sC_e, sD_e, sN_e, st_0, st_S, zc_0, zc_S, r_eq, r_ne, r_lt, r_le, r_gt, r_ge, rb_ite, rb_0, rb_1, e1, e2, e3, b1, b2, b3, r1, r2, r3, hb])]
  simp [xC_e, xL_e, xU_e, xB_e, xD_e, xF_e, xG_e, xA_e, xE_e, xH_e, xI_e, xZ_e, xK_e, aN_e, aC_e, cR_e, cV_e, cA_e, cO_e, cN_e, bs_e, bn_e, zg_0, zg_S, sS_e, sX_e, sF_e, sG_e, sA_e, sE_e, sEo_e, sK_e, sQ_e, sI_e, sR_e, sV_e, sB_e, sC_e, sD_e, sN_e, st_0, st_S, zc_0, zc_S, ue]
theorem q_cmC2 {υ : zHp} {C N k a b x4 m : Int} (h1 : m_L_cell L xs [0, 4] υ = some (x4, υ)) (h2 : m_L_some [zShr x4 3, 6] υ = some (m, υ)) : lc_L_come_2 L xs [0, 0, 4, 6, 37, C, N, k, a, b] υ = some (decide (k < m), υ) := by
  simp [lc_L_come_2, xC_e, xL_e, xU_e, xB_e, xD_e, xF_e, xG_e, xA_e, xE_e, xH_e, xI_e, xZ_e, xK_e, aN_e, aC_e, cR_e, cV_e, cA_e, cO_e, cN_e, bs_e, bn_e, zg_0, zg_S, sS_e, sX_e, sF_e, sG_e, sA_e, sE_e, sEo_e, sK_e, sQ_e, sI_e, sR_e, sV_e, sB_e, sC_e, sD_e, sN_e, st_0, st_S, zc_0, zc_S, r_eq, r_ne, r_lt, r_le, r_gt, r_ge, rb_ite, rb_0, rb_1, h1, h2]
theorem q_cmB2 {y z : zHp} {C N k x4 s c p g : Int} (h1 : m_L_cell L xs [0, 4] y = some (x4, y)) (se : o_iadd 6 (o_imul 4 k) = s) (h2 : m_L_some [zShr x4 s, C] y = some (c, y)) (pe : (if zAnd (zShr (y 37 40) c) 1 = 1 then 1 else 0) = p) (hp : m_X8_plant [0, c, 1] y = some (if p = 1 then 0 else 1, z)) (ge : zOr (z 37 40) (zShl 1 c) = g) :
    lf_L_come_2 L xs [0, 0, 4, 6, 37, C, N, k, 0, 0] y = some (0, [0, 0, 4, 6, 37, C, N, k, 0, 0], zput z 37 40 g) := by
  unfold lf_L_come_2
  refine (sD_0 (e1 := [0, 0, 4, 6, 37, C, N, k, c, p]) ?_).trans rfl
  rw [sQ_s (e1 := [0, 0, 4, 6, 37, C, N, k, c, 0]) (σ1 := y) (by simp [xC_e, xL_e, xU_e, xB_e, xD_e, xF_e, xG_e, xA_e, xE_e, xH_e, xI_e, xZ_e, xK_e, aN_e, aC_e, cR_e, cV_e, cA_e, cO_e, cN_e, bs_e, bn_e, zg_0, zg_S, sS_e, sX_e, sF_e, sG_e, sA_e, sE_e, sEo_e, sK_e, sQ_e, sI_e, sR_e, sV_e, sB_e, sC_e, sD_e, sN_e, st_0, st_S, zc_0, zc_S, h1, se, h2])]
  by_cases q : zAnd (zShr (y 37 40) c) 1 = 1
  · rw [if_pos q] at pe
    subst pe
    rw [sQ_s (e1 := [0, 0, 4, 6, 37, C, N, k, c, 1]) (σ1 := y) (by simp [xC_e, xL_e, xU_e, xB_e, xD_e, xF_e, xG_e, xA_e, xE_e, xH_e, xI_e, xZ_e, xK_e, aN_e, aC_e, cR_e, cV_e, cA_e, cO_e, cN_e, bs_e, bn_e, zg_0, zg_S, sS_e, sX_e, sF_e, sG_e, sA_e, sE_e, sEo_e, sK_e, sQ_e, sI_e, sR_e, sV_e, sB_e, sC_e, sD_e, sN_e, st_0, st_S, zc_0, zc_S, r_eq, r_ne, r_lt, r_le, r_gt, r_ge, rb_ite, rb_0, rb_1, q])]
    rw [if_pos rfl] at hp
    rw [sQ_s (e1 := [0, 0, 4, 6, 37, C, N, k, c, 1]) (σ1 := z) (by simp [xC_e, xL_e, xU_e, xB_e, xD_e, xF_e, xG_e, xA_e, xE_e, xH_e, xI_e, xZ_e, xK_e, aN_e, aC_e, cR_e, cV_e, cA_e, cO_e, cN_e, bs_e, bn_e, zg_0, zg_S, sS_e, sX_e, sF_e, sG_e, sA_e, sE_e, sEo_e, sK_e, sQ_e, sI_e, sR_e, sV_e, sB_e, sC_e, sD_e, sN_e, st_0, st_S, zc_0, zc_S, r_eq, r_ne, r_lt, r_le, r_gt, r_ge, rb_ite, rb_0, rb_1, hp])]
    simp [xC_e, xL_e, xU_e, xB_e, xD_e, xF_e, xG_e, xA_e, xE_e, xH_e, xI_e, xZ_e, xK_e, aN_e, aC_e, cR_e, cV_e, cA_e, cO_e, cN_e, bs_e, bn_e, zg_0, zg_S, sS_e, sX_e, sF_e, sG_e, sA_e, sE_e, sEo_e, sK_e, sQ_e, sI_e, sR_e, sV_e, sB_e, sC_e, sD_e, sN_e, st_0, st_S, zc_0, zc_S, ge]
  · rw [if_neg q] at pe
    subst pe
    rw [sQ_s (e1 := [0, 0, 4, 6, 37, C, N, k, c, 0]) (σ1 := y) (by simp [xC_e, xL_e, xU_e, xB_e, xD_e, xF_e, xG_e, xA_e, xE_e, xH_e, xI_e, xZ_e, xK_e, aN_e, aC_e, cR_e, cV_e, cA_e, cO_e, cN_e, bs_e, bn_e, zg_0, zg_S, sS_e, sX_e, sF_e, sG_e, sA_e, sE_e, sEo_e, sK_e, sQ_e, sI_e, sR_e, sV_e, sB_e, sC_e, sD_e, sN_e, st_0, st_S, zc_0, zc_S, r_eq, r_ne, r_lt, r_le, r_gt, r_ge, rb_ite, rb_0, rb_1, q])]
    rw [if_neg (by decide)] at hp
    rw [sQ_s (e1 := [0, 0, 4, 6, 37, C, N, k, c, 0]) (σ1 := z) (by simp [xC_e, xL_e, xU_e, xB_e, xD_e, xF_e, xG_e, xA_e, xE_e, xH_e, xI_e, xZ_e, xK_e, aN_e, aC_e, cR_e, cV_e, cA_e, cO_e, cN_e, bs_e, bn_e, zg_0, zg_S, sS_e, sX_e, sF_e, sG_e, sA_e, sE_e, sEo_e, sK_e, sQ_e, sI_e, sR_e, sV_e, sB_e, sC_e, sD_e, sN_e, st_0, st_S, zc_0, zc_S, r_eq, r_ne, r_lt, r_le, r_gt, r_ge, rb_ite, rb_0, rb_1, hp])]
    simp [xC_e, xL_e, xU_e, xB_e, xD_e, xF_e, xG_e, xA_e, xE_e, xH_e, xI_e, xZ_e, xK_e, aN_e, aC_e, cR_e, cV_e, cA_e, cO_e, cN_e, bs_e, bn_e, zg_0, zg_S, sS_e, sX_e, sF_e, sG_e, sA_e, sE_e, sEo_e, sK_e, sQ_e, sI_e, sR_e, sV_e, sB_e, sC_e, sD_e, sN_e, st_0, st_S, zc_0, zc_S, ge]
end QCOME
