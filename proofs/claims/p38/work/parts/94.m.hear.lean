/-! the law's own picture: the bells, all of them at a cell -/
def zGb (σ : zHp) : Prop := σ 37 41 = σ 6 0 ∧ ∀ b : Int, 0 ≤ b → b < σ 6 0 → σ 37 (42 + b) = σ 7 b ∧ σ 37 (48 + b) = σ 8 b
theorem q_heCa {υ : zHp} {c w k n : Int} (h : υ 37 41 = n) : lc_L_hear_a_1 [37, c, w, 38, 42, k] υ = some (decide (k < n), υ) := by
  simp [lc_L_hear_a_1, xC_e, xL_e, xU_e, xB_e, xD_e, xF_e, xG_e, xA_e, xE_e, xH_e, xI_e, xZ_e, xK_e, aN_e, aC_e, cR_e, cV_e, cA_e, cO_e, cN_e, bs_e, bn_e, zg_0, zg_S, sS_e, sX_e, sF_e, sG_e, sA_e, sE_e, sEo_e, sK_e, sQ_e, sI_e, sR_e, sV_e, sB_e, sC_e, sD_e, sN_e, st_0, st_S, zc_0, zc_S, r_eq, r_ne, r_lt, r_le, r_gt, r_ge, rb_ite, rb_0, rb_1, h]
theorem q_heBodya {υ τ : zHp} {c w k kd f wt u v : Int} (k6 : 0 ≤ k ∧ k < 6) (h1 : υ 37 (42 + k) = kd) (h2 : υ 37 (48 + k) = f) (h3 : υ 37 (54 + k) = wt) (hl : m_L_loud [37, kd, f, wt, c, w, 42] υ = some (0, τ)) (h4 : τ 42 0 = u) (h5 : τ 42 1 = v) : lf_L_hear_a_1 [37, c, w, 38, 42, k] υ = some (0, [37, c, w, 38, 42, k], zput (zput τ 38 k u) 38 (8 + k) v) := by
  have w1 : o_iadd 42 k = 42 + k := w32_id ⟨by omega, by omega⟩
  have w2 : o_iadd 48 k = 48 + k := w32_id ⟨by omega, by omega⟩
  have w3 : o_iadd 54 k = 54 + k := w32_id ⟨by omega, by omega⟩
  have w4 : o_iadd 8 k = 8 + k := w32_id ⟨by omega, by omega⟩
  have i1 : 0 ≤ 42 + k ∧ 42 + k < 60 := by omega
  have i2 : 0 ≤ 48 + k ∧ 48 + k < 60 := by omega
  have i3 : 0 ≤ 54 + k ∧ 54 + k < 60 := by omega
  have i4 : 0 ≤ k ∧ k < 16 := by omega
  have i5 : 0 ≤ 8 + k ∧ 8 + k < 16 := by omega
  have r : zput τ 38 k u 42 1 = v := by rw [zput_o (by decide), h5]
  simp [lf_L_hear_a_1, xC_e, xL_e, xU_e, xB_e, xD_e, xF_e, xG_e, xA_e, xE_e, xH_e, xI_e, xZ_e, xK_e, aN_e, aC_e, cR_e, cV_e, cA_e, cO_e, cN_e, bs_e, bn_e, zg_0, zg_S, sS_e, sX_e, sF_e, sG_e, sA_e, sE_e, sEo_e, sK_e, sQ_e, sI_e, sR_e, sV_e, sB_e, sC_e, sD_e, sN_e, st_0, st_S, zc_0, zc_S, w1, w2, w3, w4, i1, i2, i3, i4, i5, h1, h2, h3, hl, h4, r]
theorem q_heara {σ : zHp} (hI : zInv σ) (hg : zGm σ) (hb : zGb σ) {V : Int → Int} (hV : ∀ b : Int, 0 ≤ b → b < σ 6 0 → σ 37 (54 + b) = V b) (hW : zWt (zNb σ) V) {c w : Int} (hc : 0 ≤ c ∧ c < σ 1 2) (hw : 0 ≤ w ∧ w ≤ 39) (hcap : zct σ < zcap) :
    ∃ τ, m_L_hear_a [37, c, w, 38] σ = some (0, τ) ∧ (∀ a b : Int, a ≠ 38 → a ≠ 42 → a ≠ -1 → τ a b = σ a b) ∧ zct τ = zct σ + 1 ∧ ∀ b : Int, 0 ≤ b → b < σ 6 0 → τ 38 b = V b * zPP σ w b c ∧ τ 38 (8 + b) = zQQ σ w b c := by
  obtain ⟨n1, n2⟩ := zNb_e hI
  have hN := (zI3 hI).2.2.2
  have f1 : ∀ a b : Int, a ≠ 42 → a ≠ -1 → zfresh σ 42 a b = σ a b := fun a b q1 q2 => by
    unfold zfresh
    rw [if_neg q1, if_neg (fun q => q2 q.1)]
  have f2 : zfresh σ 42 (-1) 0 = σ (-1) 0 + 1 := by
    unfold zfresh
    rw [if_neg (by decide), if_pos ⟨rfl, rfl⟩]
  obtain ⟨τ, hl, hT1, hT2⟩ := zfor0 (c := lc_L_hear_a_1) (f := lf_L_hear_a_1) (i := 5) (lo := 0) (σ := zfresh σ 42) (zNb σ) (fun k => [37, c, w, 38, 42, 0 + (k : Int)]) (fun k x => (∀ a b : Int, a ≠ 38 → a ≠ 42 → x a b = zfresh σ 42 a b) ∧ ∀ b : Int, 0 ≤ b → b < k → x 38 b = V b * zPP σ w b c ∧ x 38 (8 + b) = zQQ σ w b c) ⟨fun _ _ _ _ => rfl, fun b b0 b1 => by omega⟩ (fun k => rfl) (by decide) (by omega)
    (fun k x hk hx => by
      rw [q_heCa (n := ((zNb σ : Nat) : Int)) (by rw [hx.1 37 41 (by decide) (by decide), f1 37 41 (by decide) (by decide), hb.1, n1])]
      have : (0 + (k : Int) < ((zNb σ : Nat) : Int)) ↔ k < zNb σ := by omega
      simp only [this])
    (fun k x hk hx => by
      have xs : ∀ a b : Int, a ≠ 38 → a ≠ 42 → a ≠ -1 → x a b = σ a b := fun a b q1 q2 q3 => by rw [hx.1 a b q1 q2, f1 a b q2 q3]
      have kb : (0 : Int) ≤ (k : Int) ∧ (k : Int) < σ 6 0 := by omega
      have hN1 := hN k kb.1 kb.2
      have hb1 := hb.2 k kb.1 kb.2
      have e11 := xs 1 1 (by decide) (by decide) (by decide)
      have e12 := xs 1 2 (by decide) (by decide) (by decide)
      have e2 : ∀ j, x 2 j = σ 2 j := fun j => xs 2 j (by decide) (by decide) (by decide)
      have e3 : ∀ j, zpl x j = zpl σ j := zpl_c (xs 1 3 (by decide) (by decide) (by decide))
      have L' : zIL x := zIL_c hI.2.2.1 (xs 1 0 (by decide) (by decide) (by decide)) e11 e12 (xs 1 0 (by decide) (by decide) (by decide)) e11
      have G' : zGm x := ⟨by rw [xs 37 0 (by decide) (by decide) (by decide), xs 1 0 (by decide) (by decide) (by decide)]; exact hg.1, by rw [xs 37 1 (by decide) (by decide) (by decide), e11]; exact hg.2.1, fun j j0 j1 => by rw [xs 37 _ (by decide) (by decide) (by decide), e2]; rw [e12] at j1; exact hg.2.2.1 j j0 j1, by rw [xs 37 40 (by decide) (by decide) (by decide), xs 1 3 (by decide) (by decide) (by decide)]; exact hg.2.2.2⟩
      obtain ⟨υ, u1, u2, u3, u4⟩ := q_loud (σ := x) (kd := σ 7 k) (f := σ 8 k) (wt := V k) (c := c) (w := w) L' G' hN1.1.2 (by rw [e12]; exact hN1.2.1.2) (by rw [e12]; exact hc) (hW k kb.1 (by omega)) hw
      have body := q_heBodya (υ := x) (τ := υ) (c := c) (w := w) (k := (k : Int)) (by omega) (by rw [xs 37 _ (by decide) (by decide) (by decide)]; exact hb1.1) (by rw [xs 37 _ (by decide) (by decide) (by decide)]; exact hb1.2) (by rw [xs 37 _ (by decide) (by decide) (by decide)]; exact hV k kb.1 kb.2) u1 u3 u4
      rw [zPu_eq e11] at body
      rw [zQd_eq e11 e2 e3] at body
      rw [z0k]
      refine ⟨0, _, _, body, Or.inl rfl, rfl, ?_, fun a b q1 q2 => ?_, fun b b0 b1 => ?_⟩
      · show [37, c, w, 38, 42, 0 + ((k + 1 : Nat) : Int)] = _
        rfl
      · rw [zput_o q1, zput_o q1, u2 a b q2, hx.1 a b q1 q2]
      · by_cases q : b = (k : Int)
        · subst q
          refine ⟨?_, zput_self _ _ _ _⟩
          rw [zput_i (by omega), zput_self]
          rfl
        · have hx2 := hx.2 b b0 (by omega)
          rw [zput_i (by omega), zput_i q, zput_i (by omega), zput_i (by omega), u2 38 b (by decide), u2 38 (8 + b) (by decide)]
          exact hx2)
  have e0 : sW lc_L_hear_a_1 lf_L_hear_a_1 ls_L_hear_a_1 [37, c, w, 38, 42, 0] (zfresh σ 42) = some (0, [37, c, w, 38, 42, 0 + ((zNb σ : Nat) : Int)], τ) := hl
  refine ⟨τ, ?_, fun a b q1 q2 q3 => by rw [hT1 a b q1 q2, f1 a b q2 q3], ?_, fun b b0 b1 => hT2 b b0 (by omega)⟩
  · rw [e_L_hear_a]
    unfold d_L_hear_a
    rw [sQ_s (e1 := [37, c, w, 38, 42, 0]) (σ1 := τ) (by
      unfold sNw
      rw [if_pos hcap]
      refine (sD_0 (e1 := [37, c, w, 38, 42, 0 + ((zNb σ : Nat) : Int)]) ?_).trans rfl
      rw [sQ_s (e1 := [37, c, w, 38, 42, 0]) (σ1 := zfresh σ 42) (by simp [xC_e, xL_e, xU_e, xB_e, xD_e, xF_e, xG_e, xA_e, xE_e, xH_e, xI_e, xZ_e, xK_e, aN_e, aC_e, cR_e, cV_e, cA_e, cO_e, cN_e, bs_e, bn_e, zg_0, zg_S, sS_e, sX_e, sF_e, sG_e, sA_e, sE_e, sEo_e, sK_e, sQ_e, sI_e, sR_e, sV_e, sB_e, sC_e, sD_e, sN_e, st_0, st_S, zc_0, zc_S])]
      exact e0)]
    rfl
  · show τ (-1) 0 = σ (-1) 0 + 1
    rw [hT1 (-1) 0 (by decide) (by decide), f2]
theorem q_heCb {υ : zHp} {c w k n : Int} (h : υ 37 41 = n) : lc_L_hear_b_1 [37, c, w, 41, 42, k] υ = some (decide (k < n), υ) := by
  simp [lc_L_hear_b_1, xC_e, xL_e, xU_e, xB_e, xD_e, xF_e, xG_e, xA_e, xE_e, xH_e, xI_e, xZ_e, xK_e, aN_e, aC_e, cR_e, cV_e, cA_e, cO_e, cN_e, bs_e, bn_e, zg_0, zg_S, sS_e, sX_e, sF_e, sG_e, sA_e, sE_e, sEo_e, sK_e, sQ_e, sI_e, sR_e, sV_e, sB_e, sC_e, sD_e, sN_e, st_0, st_S, zc_0, zc_S, r_eq, r_ne, r_lt, r_le, r_gt, r_ge, rb_ite, rb_0, rb_1, h]
theorem q_heBodyb {υ τ : zHp} {c w k kd f wt u v : Int} (k6 : 0 ≤ k ∧ k < 6) (h1 : υ 37 (42 + k) = kd) (h2 : υ 37 (48 + k) = f) (h3 : υ 37 (54 + k) = wt) (hl : m_L_loud [37, kd, f, wt, c, w, 42] υ = some (0, τ)) (h4 : τ 42 0 = u) (h5 : τ 42 1 = v) : lf_L_hear_b_1 [37, c, w, 41, 42, k] υ = some (0, [37, c, w, 41, 42, k], zput (zput τ 41 k u) 41 (8 + k) v) := by
  have w1 : o_iadd 42 k = 42 + k := w32_id ⟨by omega, by omega⟩
  have w2 : o_iadd 48 k = 48 + k := w32_id ⟨by omega, by omega⟩
  have w3 : o_iadd 54 k = 54 + k := w32_id ⟨by omega, by omega⟩
  have w4 : o_iadd 8 k = 8 + k := w32_id ⟨by omega, by omega⟩
  have i1 : 0 ≤ 42 + k ∧ 42 + k < 60 := by omega
  have i2 : 0 ≤ 48 + k ∧ 48 + k < 60 := by omega
  have i3 : 0 ≤ 54 + k ∧ 54 + k < 60 := by omega
  have i4 : 0 ≤ k ∧ k < 16 := by omega
  have i5 : 0 ≤ 8 + k ∧ 8 + k < 16 := by omega
  have r : zput τ 41 k u 42 1 = v := by rw [zput_o (by decide), h5]
  simp [lf_L_hear_b_1, xC_e, xL_e, xU_e, xB_e, xD_e, xF_e, xG_e, xA_e, xE_e, xH_e, xI_e, xZ_e, xK_e, aN_e, aC_e, cR_e, cV_e, cA_e, cO_e, cN_e, bs_e, bn_e, zg_0, zg_S, sS_e, sX_e, sF_e, sG_e, sA_e, sE_e, sEo_e, sK_e, sQ_e, sI_e, sR_e, sV_e, sB_e, sC_e, sD_e, sN_e, st_0, st_S, zc_0, zc_S, w1, w2, w3, w4, i1, i2, i3, i4, i5, h1, h2, h3, hl, h4, r]
theorem q_hearb {σ : zHp} (hI : zInv σ) (hg : zGm σ) (hb : zGb σ) {V : Int → Int} (hV : ∀ b : Int, 0 ≤ b → b < σ 6 0 → σ 37 (54 + b) = V b) (hW : zWt (zNb σ) V) {c w : Int} (hc : 0 ≤ c ∧ c < σ 1 2) (hw : 0 ≤ w ∧ w ≤ 39) (hcap : zct σ < zcap) :
    ∃ τ, m_L_hear_b [37, c, w, 41] σ = some (0, τ) ∧ (∀ a b : Int, a ≠ 41 → a ≠ 42 → a ≠ -1 → τ a b = σ a b) ∧ zct τ = zct σ + 1 ∧ ∀ b : Int, 0 ≤ b → b < σ 6 0 → τ 41 b = V b * zPP σ w b c ∧ τ 41 (8 + b) = zQQ σ w b c := by
  obtain ⟨n1, n2⟩ := zNb_e hI
  have hN := (zI3 hI).2.2.2
  have f1 : ∀ a b : Int, a ≠ 42 → a ≠ -1 → zfresh σ 42 a b = σ a b := fun a b q1 q2 => by
    unfold zfresh
    rw [if_neg q1, if_neg (fun q => q2 q.1)]
  have f2 : zfresh σ 42 (-1) 0 = σ (-1) 0 + 1 := by
    unfold zfresh
    rw [if_neg (by decide), if_pos ⟨rfl, rfl⟩]
  obtain ⟨τ, hl, hT1, hT2⟩ := zfor0 (c := lc_L_hear_b_1) (f := lf_L_hear_b_1) (i := 5) (lo := 0) (σ := zfresh σ 42) (zNb σ) (fun k => [37, c, w, 41, 42, 0 + (k : Int)]) (fun k x => (∀ a b : Int, a ≠ 41 → a ≠ 42 → x a b = zfresh σ 42 a b) ∧ ∀ b : Int, 0 ≤ b → b < k → x 41 b = V b * zPP σ w b c ∧ x 41 (8 + b) = zQQ σ w b c) ⟨fun _ _ _ _ => rfl, fun b b0 b1 => by omega⟩ (fun k => rfl) (by decide) (by omega)
    (fun k x hk hx => by
      rw [q_heCb (n := ((zNb σ : Nat) : Int)) (by rw [hx.1 37 41 (by decide) (by decide), f1 37 41 (by decide) (by decide), hb.1, n1])]
      have : (0 + (k : Int) < ((zNb σ : Nat) : Int)) ↔ k < zNb σ := by omega
      simp only [this])
    (fun k x hk hx => by
      have xs : ∀ a b : Int, a ≠ 41 → a ≠ 42 → a ≠ -1 → x a b = σ a b := fun a b q1 q2 q3 => by rw [hx.1 a b q1 q2, f1 a b q2 q3]
      have kb : (0 : Int) ≤ (k : Int) ∧ (k : Int) < σ 6 0 := by omega
      have hN1 := hN k kb.1 kb.2
      have hb1 := hb.2 k kb.1 kb.2
      have e11 := xs 1 1 (by decide) (by decide) (by decide)
      have e12 := xs 1 2 (by decide) (by decide) (by decide)
      have e2 : ∀ j, x 2 j = σ 2 j := fun j => xs 2 j (by decide) (by decide) (by decide)
      have e3 : ∀ j, zpl x j = zpl σ j := zpl_c (xs 1 3 (by decide) (by decide) (by decide))
      have L' : zIL x := zIL_c hI.2.2.1 (xs 1 0 (by decide) (by decide) (by decide)) e11 e12 (xs 1 0 (by decide) (by decide) (by decide)) e11
      have G' : zGm x := ⟨by rw [xs 37 0 (by decide) (by decide) (by decide), xs 1 0 (by decide) (by decide) (by decide)]; exact hg.1, by rw [xs 37 1 (by decide) (by decide) (by decide), e11]; exact hg.2.1, fun j j0 j1 => by rw [xs 37 _ (by decide) (by decide) (by decide), e2]; rw [e12] at j1; exact hg.2.2.1 j j0 j1, by rw [xs 37 40 (by decide) (by decide) (by decide), xs 1 3 (by decide) (by decide) (by decide)]; exact hg.2.2.2⟩
      obtain ⟨υ, u1, u2, u3, u4⟩ := q_loud (σ := x) (kd := σ 7 k) (f := σ 8 k) (wt := V k) (c := c) (w := w) L' G' hN1.1.2 (by rw [e12]; exact hN1.2.1.2) (by rw [e12]; exact hc) (hW k kb.1 (by omega)) hw
      have body := q_heBodyb (υ := x) (τ := υ) (c := c) (w := w) (k := (k : Int)) (by omega) (by rw [xs 37 _ (by decide) (by decide) (by decide)]; exact hb1.1) (by rw [xs 37 _ (by decide) (by decide) (by decide)]; exact hb1.2) (by rw [xs 37 _ (by decide) (by decide) (by decide)]; exact hV k kb.1 kb.2) u1 u3 u4
      rw [zPu_eq e11] at body
      rw [zQd_eq e11 e2 e3] at body
      rw [z0k]
      refine ⟨0, _, _, body, Or.inl rfl, rfl, ?_, fun a b q1 q2 => ?_, fun b b0 b1 => ?_⟩
      · show [37, c, w, 41, 42, 0 + ((k + 1 : Nat) : Int)] = _
        rfl
      · rw [zput_o q1, zput_o q1, u2 a b q2, hx.1 a b q1 q2]
      · by_cases q : b = (k : Int)
        · subst q
          refine ⟨?_, zput_self _ _ _ _⟩
          rw [zput_i (by omega), zput_self]
          rfl
        · have hx2 := hx.2 b b0 (by omega)
          rw [zput_i (by omega), zput_i q, zput_i (by omega), zput_i (by omega), u2 41 b (by decide), u2 41 (8 + b) (by decide)]
          exact hx2)
  have e0 : sW lc_L_hear_b_1 lf_L_hear_b_1 ls_L_hear_b_1 [37, c, w, 41, 42, 0] (zfresh σ 42) = some (0, [37, c, w, 41, 42, 0 + ((zNb σ : Nat) : Int)], τ) := hl
  refine ⟨τ, ?_, fun a b q1 q2 q3 => by rw [hT1 a b q1 q2, f1 a b q2 q3], ?_, fun b b0 b1 => hT2 b b0 (by omega)⟩
  · rw [e_L_hear_b]
    unfold d_L_hear_b
    rw [sQ_s (e1 := [37, c, w, 41, 42, 0]) (σ1 := τ) (by
      unfold sNw
      rw [if_pos hcap]
      refine (sD_0 (e1 := [37, c, w, 41, 42, 0 + ((zNb σ : Nat) : Int)]) ?_).trans rfl
      rw [sQ_s (e1 := [37, c, w, 41, 42, 0]) (σ1 := zfresh σ 42) (by simp [xC_e, xL_e, xU_e, xB_e, xD_e, xF_e, xG_e, xA_e, xE_e, xH_e, xI_e, xZ_e, xK_e, aN_e, aC_e, cR_e, cV_e, cA_e, cO_e, cN_e, bs_e, bn_e, zg_0, zg_S, sS_e, sX_e, sF_e, sG_e, sA_e, sE_e, sEo_e, sK_e, sQ_e, sI_e, sR_e, sV_e, sB_e, sC_e, sD_e, sN_e, st_0, st_S, zc_0, zc_S])]
      exact e0)]
    rfl
  · show τ (-1) 0 = σ (-1) 0 + 1
    rw [hT1 (-1) 0 (by decide) (by decide), f2]
