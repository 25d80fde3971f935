/-! the law's own picture: whose -/
theorem q_set {n C : Nat} {K F ea : Int} {P Q G : Int → Int → Int} (hP : zPc n C K F ea P Q G) {V : Int → Int} {c : Int} (hc : 0 ≤ c ∧ c < C) : zSt2 (fun b => qIs ea (fun b => V b * P b c) (fun b => Q b c) b n) n = (zLI F (zLd V G c) n).2 := by
  have n7 := hP.1
  refine zt_ext (r32_St2 _ _) (zLI_s F (zLd V G c) n (by omega)).1 (fun i hi => ?_)
  rw [zt_St2 _ n (by omega), zLI_t F (zLd V G c) n (by omega)]
  by_cases q : i < n
  · have h1 := qIs_top hP (V := V) (b := (i : Int)) ⟨by omega, by omega⟩ hc
    rw [zTop_M ⟨by omega, by omega⟩] at h1
    rw [decide_eq_true q, Bool.true_and]
    by_cases p : qIs ea (fun b => V b * P b c) (fun b => Q b c) (i : Int) n = true
    · rw [p, decide_eq_true ⟨q, h1.mp p⟩]
    · rw [Bool.eq_false_iff.mpr p, decide_eq_false (fun z => p (h1.mpr z.2))]
  · rw [decide_eq_false q, decide_eq_false (fun z => q z.1), Bool.false_and]
/-- the law's numbers are the class's -/
def zGq (σ : zHp) : Prop := zGm σ ∧ zGb σ ∧ σ 37 2 = σ 10 2
theorem zfresh_f {σ : zHp} {k a b : Int} (h1 : a ≠ k) (h2 : a ≠ -1) : zfresh σ k a b = σ a b := by
  unfold zfresh
  rw [if_neg h1, if_neg (fun q => h2 q.1)]
theorem zGq_s {σ τ : zHp} (h : zGq σ) (h37 : ∀ k, τ 37 k = σ 37 k) (h1 : ∀ k, τ 1 k = σ 1 k) (h2 : ∀ k, τ 2 k = σ 2 k) (h7 : ∀ k, τ 7 k = σ 7 k) (h8 : ∀ k, τ 8 k = σ 8 k) (h6 : τ 6 0 = σ 6 0) (h10 : τ 10 2 = σ 10 2) : zGq τ := by
  obtain ⟨⟨g0, g1, g2, g3⟩, ⟨b0, b1⟩, e⟩ := h
  refine ⟨⟨by rw [h37, h1]; exact g0, by rw [h37, h1]; exact g1, fun c c0 c1 => ?_, by rw [h37, h1]; exact g3⟩, ⟨by rw [h37, h6]; exact b0, fun b p0 p1 => ?_⟩, by rw [h37, h10]; exact e⟩
  · rw [h1] at c1
    rw [h37, h2]; exact g2 c c0 c1
  · rw [h6] at p1
    rw [h37, h37, h7, h8]; exact b1 b p0 p1
theorem q_whC {υ : zHp} {c w s k n : Int} (h : υ 37 41 = n) : lc_L_whose_1 [37, c, w, 41, s, k] υ = some (decide (k < n), υ) := by
  simp [lc_L_whose_1, xC_e, xL_e, xU_e, xB_e, xD_e, xF_e, xG_e, xA_e, xE_e, xH_e, xI_e, xZ_e, xK_e, aN_e, aC_e, cR_e, cV_e, cA_e, cO_e, cN_e, bs_e, bn_e, zg_0, zg_S, sS_e, sX_e, sF_e, sG_e, sA_e, sE_e, sEo_e, sK_e, sQ_e, sI_e, sR_e, sV_e, sB_e, sC_e, sD_e, sN_e, st_0, st_S, zc_0, zc_S, r_eq, r_ne, r_lt, r_le, r_gt, r_ge, rb_ite, rb_0, rb_1, h]
theorem q_whBody {υ : zHp} {c w s k : Int} : lf_L_whose_1 [37, c, w, 41, s, k] υ = if s = zShl 1 k then some (1, [k], υ) else some (0, [37, c, w, 41, s, k], υ) := by
  by_cases p : s = zShl 1 k <;> simp [lf_L_whose_1, xC_e, xL_e, xU_e, xB_e, xD_e, xF_e, xG_e, xA_e, xE_e, xH_e, xI_e, xZ_e, xK_e, aN_e, aC_e, cR_e, cV_e, cA_e, cO_e, cN_e, bs_e, bn_e, zg_0, zg_S, sS_e, sX_e, sF_e, sG_e, sA_e, sE_e, sEo_e, sK_e, sQ_e, sI_e, sR_e, sV_e, sB_e, sC_e, sD_e, sN_e, st_0, st_S, zc_0, zc_S, r_eq, r_ne, r_lt, r_le, r_gt, r_ge, rb_ite, rb_0, rb_1, p]
theorem q_whose {σ : zHp} (hI : zInv σ) (hq : zGq σ) {V : Int → Int} (hV : ∀ b : Int, 0 ≤ b → b < σ 6 0 → σ 37 (54 + b) = V b) (hW : zWt (zNb σ) V) {c w : Int} (hc : 0 ≤ c ∧ c < σ 1 2) (hw : 0 ≤ w ∧ w ≤ 39) (hcap : zct σ + 1 < zcap) :
    ∃ τ, m_L_whose [37, c, w] σ = some (zWh (zFF σ w) (zLd V (zGG σ w) c) (zNb σ), τ) ∧ (∀ a b : Int, a ≠ 41 → a ≠ 42 → a ≠ -1 → τ a b = σ a b) ∧ zct τ = zct σ + 2 := by
  have hk : zoc 41 = 100 ∨ zoc 41 = 101 := Or.inr rfl
  have ho1 : zOk (zfresh σ 41) := zOk_fresh (k := 41) hk hI.1 (by omega)
  have f1 : ∀ a b : Int, a ≠ 41 → a ≠ -1 → zfresh σ 41 a b = σ a b := fun a b q1 q2 => zfresh_f q1 q2
  have hs : zSame σ (zfresh σ 41) := fun a b h => f1 a b (fun q => by rw [q] at h; simp [zfree] at h) (fun q => by rw [q] at h; simp [zfree] at h)
  have hI1 : zInv (zfresh σ 41) := zInv_same ho1 hs hI
  have hq1 : zGq (zfresh σ 41) := zGq_s hq (fun k => f1 37 k (by decide) (by decide)) (fun k => f1 1 k (by decide) (by decide)) (fun k => f1 2 k (by decide) (by decide)) (fun k => f1 7 k (by decide) (by decide)) (fun k => f1 8 k (by decide) (by decide)) (f1 6 0 (by decide) (by decide)) (f1 10 2 (by decide) (by decide))
  have c1 : zct (zfresh σ 41) = zct σ + 1 := zct_fresh σ 41
  have nb : zNb (zfresh σ 41) = zNb σ := by unfold zNb; rw [f1 6 0 (by decide) (by decide)]
  obtain ⟨n1, n2⟩ := zNb_e hI
  obtain ⟨cc1, cc2⟩ := zNc_e hI
  obtain ⟨τ, h1, h2, h3, h4⟩ := q_hearb hI1 hq1.1 hq1.2.1 (V := V) (fun b b0 b1 => by rw [f1 6 0 (by decide) (by decide)] at b1; rw [f1 37 _ (by decide) (by decide)]; exact hV b b0 b1) (by rw [nb]; exact hW) (c := c) (w := w) (by rw [f1 1 2 (by decide) (by decide)]; exact hc) hw (by omega)
  have hs2 : ∀ a b : Int, a ≠ 41 → a ≠ 42 → a ≠ -1 → τ a b = σ a b := fun a b q1 q2 q3 => by rw [h2 a b q1 q2 q3, f1 a b q1 q3]
  have hP := zPc_I hI hw
  have hP1 : ∀ b : Int, 0 ≤ b → b < zNb σ → τ 41 b = V b * zPP σ w b c ∧ τ 41 (8 + b) = zQQ σ w b c := fun b b0 b1 => by
    have := h4 b b0 (by rw [f1 6 0 (by decide) (by decide)]; omega)
    have e11 := f1 1 1 (by decide) (by decide)
    have e2 : ∀ j, zfresh σ 41 2 j = σ 2 j := fun j => f1 2 j (by decide) (by decide)
    have e3 : ∀ j, zpl (zfresh σ 41) j = zpl σ j := zpl_c (f1 1 3 (by decide) (by decide))
    unfold zPP zQQ at this
    rw [zPu_eq e11, zQd_eq e11 e2 e3, f1 7 b (by decide) (by decide), f1 8 b (by decide) (by decide)] at this
    exact this
  have hB : ∀ b : Int, 0 ≤ b → b < zNb σ → (1 ≤ zPP σ w b c ∧ zPP σ w b c ≤ 38) ∧ (1 ≤ zQQ σ w b c ∧ zQQ σ w b c ≤ 209152) := fun b b0 b1 => by
    have := hP.2.2.2.2.2 b c b0 b1 hc.1 (by omega)
    exact ⟨this.1, this.2.1⟩
  have e99 := hP.2.2.1
  have best := q_bestb (σ := τ) (n := zNb σ) (ea := σ 10 2) (U := fun b => V b * zPP σ w b c) (Q := fun b => zQQ σ w b c) (by rw [hs2 37 41 (by decide) (by decide) (by decide), hq.2.1.1, n1]) n2 (by rw [hs2 37 2 (by decide) (by decide) (by decide)]; exact hq.2.2) e99 (fun b b0 b1 => hP1 b b0 b1)
    (fun b b0 b1 => by
      have v := hW b b0 b1
      have u := hB b b0 b1
      have m := zmul_i (x := V b) (y := zPP σ w b c) 99 38 (by omega) (by omega)
      have m2 : 1 * 1 ≤ V b * zPP σ w b c := Int.mul_le_mul v.1 u.1.1 (by decide) (by omega)
      show 1 ≤ V b * zPP σ w b c ∧ V b * zPP σ w b c ≤ 3762
      omega)
    (fun b b0 b1 => (hB b b0 b1).2)
  rw [q_set hP ⟨hc.1, by omega⟩] at best
  have n31 : zNb σ ≤ 31 := by omega
  generalize hs0 : (zLI (zFF σ w) (zLd V (zGG σ w) c) (zNb σ)).2 = s at best
  refine ⟨τ, ?_, hs2, by omega⟩
  rw [e_L_whose]
  unfold d_L_whose
  unfold sNw
  rw [if_pos (show zct σ < zcap by omega)]
  rw [sQ_s (e1 := [37, c, w, 41, 0, 0]) (σ1 := τ) (by simp [xC_e, xL_e, xU_e, xB_e, xD_e, xF_e, xG_e, xA_e, xE_e, xH_e, xI_e, xZ_e, xK_e, aN_e, aC_e, cR_e, cV_e, cA_e, cO_e, cN_e, bs_e, bn_e, zg_0, zg_S, sS_e, sX_e, sF_e, sG_e, sA_e, sE_e, sEo_e, sK_e, sQ_e, sI_e, sR_e, sV_e, sB_e, sC_e, sD_e, sN_e, st_0, st_S, zc_0, zc_S, h1])]
  rw [sQ_s (e1 := [37, c, w, 41, s, 0]) (σ1 := τ) (by simp [xC_e, xL_e, xU_e, xB_e, xD_e, xF_e, xG_e, xA_e, xE_e, xH_e, xI_e, xZ_e, xK_e, aN_e, aC_e, cR_e, cV_e, cA_e, cO_e, cN_e, bs_e, bn_e, zg_0, zg_S, sS_e, sX_e, sF_e, sG_e, sA_e, sE_e, sEo_e, sK_e, sQ_e, sI_e, sR_e, sV_e, sB_e, sC_e, sD_e, sN_e, st_0, st_S, zc_0, zc_S, best])]
  by_cases z : s = 0
  · have e := (zLI_none (F := zFF σ w) (L := zLd V (zGG σ w) c) n31).mp (by rw [hs0]; exact z)
    rw [sQ_1 (e1 := [-6]) (σ1 := τ) (by simp [xC_e, xL_e, xU_e, xB_e, xD_e, xF_e, xG_e, xA_e, xE_e, xH_e, xI_e, xZ_e, xK_e, aN_e, aC_e, cR_e, cV_e, cA_e, cO_e, cN_e, bs_e, bn_e, zg_0, zg_S, sS_e, sX_e, sF_e, sG_e, sA_e, sE_e, sEo_e, sK_e, sQ_e, sI_e, sR_e, sV_e, sB_e, sC_e, sD_e, sN_e, st_0, st_S, zc_0, zc_S, r_eq, r_ne, r_lt, r_le, r_gt, r_ge, rb_ite, rb_0, rb_1, z])]
    rw [e]
    rfl
  · have nz : ¬ zWh (zFF σ w) (zLd V (zGG σ w) c) (zNb σ) = -6 := fun e => z (by rw [← hs0]; exact (zLI_none (F := zFF σ w) (L := zLd V (zGG σ w) c) n31).mpr e)
    rw [sQ_s (e1 := [37, c, w, 41, s, 0]) (σ1 := τ) (by simp [xC_e, xL_e, xU_e, xB_e, xD_e, xF_e, xG_e, xA_e, xE_e, xH_e, xI_e, xZ_e, xK_e, aN_e, aC_e, cR_e, cV_e, cA_e, cO_e, cN_e, bs_e, bn_e, zg_0, zg_S, sS_e, sX_e, sF_e, sG_e, sA_e, sE_e, sEo_e, sK_e, sQ_e, sI_e, sR_e, sV_e, sB_e, sC_e, sD_e, sN_e, st_0, st_S, zc_0, zc_S, r_eq, r_ne, r_lt, r_le, r_gt, r_ge, rb_ite, rb_0, rb_1, z])]
    obtain ⟨t, e, x, hl, hx⟩ := zfor (c := lc_L_whose_1) (f := lf_L_whose_1) (i := 5) (lo := 0) (σ := τ) (zNb σ) (fun k => [37, c, w, 41, s, 0 + (k : Int)]) (fun k x => x = τ ∧ ∀ b : Int, 0 ≤ b → b < k → ¬ s = zShl 1 b) (fun t e x => x = τ ∧ ((t = 1 ∧ e = [zWh (zFF σ w) (zLd V (zGG σ w) c) (zNb σ)]) ∨ (t = 0 ∧ zWh (zFF σ w) (zLd V (zGG σ w) c) (zNb σ) = -5))) ⟨rfl, fun b b0 b1 => by omega⟩ (fun k => rfl) (by decide) (by omega)
      (fun k x hk hx => by
        rw [q_whC (n := ((zNb σ : Nat) : Int)) (by rw [hx.1, hs2 37 41 (by decide) (by decide) (by decide), hq.2.1.1, n1])]
        have : (0 + (k : Int) < ((zNb σ : Nat) : Int)) ↔ k < zNb σ := by omega
        simp only [this])
      (fun k x hk hx => by
        rw [z0k, q_whBody]
        by_cases p : s = zShl 1 (k : Int)
        · refine Or.inl ⟨[(k : Int)], x, by rw [if_pos p], hx.1, Or.inl ⟨rfl, ?_⟩⟩
          have := (zLI_one (F := zFF σ w) (L := zLd V (zGG σ w) c) n31 (b := (k : Int)) ⟨by omega, by omega⟩).mp (by rw [hs0]; exact p)
          rw [this]
        · refine Or.inr ⟨0, [37, c, w, 41, s, (k : Int)], x, by rw [if_neg p], Or.inl rfl, rfl, rfl, hx.1, fun b b0 b1 => ?_⟩
          by_cases q : b = (k : Int)
          · rw [q]; exact p
          · exact hx.2 b b0 (by omega))
      (fun x hx => by
        refine ⟨hx.1, Or.inr ⟨rfl, ?_⟩⟩
        rcases zWh_i (zFF σ w) (zLd V (zGG σ w) c) (zNb σ) with h | h | h
        · exact absurd h nz
        · exact h
        · exact absurd (by rw [← hs0]; exact (zLI_one (F := zFF σ w) (L := zLd V (zGG σ w) c) n31 h).mpr rfl) (hx.2 _ h.1 h.2))
    have hl : sW lc_L_whose_1 lf_L_whose_1 ls_L_whose_1 [37, c, w, 41, s, 0] τ = some (t, e, x) := hl
    obtain ⟨rfl, hx⟩ := hx
    rcases hx with ⟨rfl, rfl⟩ | ⟨rfl, he⟩
    · rw [sQ_1 (e1 := [zWh (zFF σ w) (zLd V (zGG σ w) c) (zNb σ)]) (σ1 := x) (by
        refine sD_1 ?_
        rw [sQ_s (e1 := [37, c, w, 41, s, 0]) (σ1 := x) (by simp [xC_e, xL_e, xU_e, xB_e, xD_e, xF_e, xG_e, xA_e, xE_e, xH_e, xI_e, xZ_e, xK_e, aN_e, aC_e, cR_e, cV_e, cA_e, cO_e, cN_e, bs_e, bn_e, zg_0, zg_S, sS_e, sX_e, sF_e, sG_e, sA_e, sE_e, sEo_e, sK_e, sQ_e, sI_e, sR_e, sV_e, sB_e, sC_e, sD_e, sN_e, st_0, st_S, zc_0, zc_S])]
        exact hl)]
      rfl
    · rw [sQ_s (e1 := zclr [5] e) (σ1 := x) (by
        refine sD_0 ?_
        rw [sQ_s (e1 := [37, c, w, 41, s, 0]) (σ1 := x) (by simp [xC_e, xL_e, xU_e, xB_e, xD_e, xF_e, xG_e, xA_e, xE_e, xH_e, xI_e, xZ_e, xK_e, aN_e, aC_e, cR_e, cV_e, cA_e, cO_e, cN_e, bs_e, bn_e, zg_0, zg_S, sS_e, sX_e, sF_e, sG_e, sA_e, sE_e, sEo_e, sK_e, sQ_e, sI_e, sR_e, sV_e, sB_e, sC_e, sD_e, sN_e, st_0, st_S, zc_0, zc_S])]
        exact hl)]
      rw [he]
      simp [xC_e, xL_e, xU_e, xB_e, xD_e, xF_e, xG_e, xA_e, xE_e, xH_e, xI_e, xZ_e, xK_e, aN_e, aC_e, cR_e, cV_e, cA_e, cO_e, cN_e, bs_e, bn_e, zg_0, zg_S, sS_e, sX_e, sF_e, sG_e, sA_e, sE_e, sEo_e, sK_e, sQ_e, sI_e, sR_e, sV_e, sB_e, sC_e, sD_e, sN_e, st_0, st_S, zc_0, zc_S]
