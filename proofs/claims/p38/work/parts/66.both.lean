/-! both sides laid out by a wind -/
def zGG (σ : zHp) (w b c : Int) : Int := zGr σ (σ 11 (30 * b + c)) (σ 8 b) c w
def zPP (σ : zHp) (w b c : Int) : Int := zPu σ (σ 7 b) (σ 8 b) c w
def zQQ (σ : zHp) (w b c : Int) : Int := zQd σ (σ 7 b) (σ 8 b) c w
def zKK (w : Int) : Int := zONE * 10 * (10 + w % 10)
def zFF (σ : zHp) (w : Int) : Int := σ 10 2 * zONE * (10 + w % 10)
def zNb (σ : zHp) : Nat := (σ 6 0).toNat
def zNc (σ : zHp) : Nat := (σ 1 2).toNat
theorem zNb_e {σ : zHp} (hI : zInv σ) : ((zNb σ : Nat) : Int) = σ 6 0 ∧ zNb σ ≤ 6 := by
  have h := zI3 hI
  have h1 := h.2.1
  have h2 := h.2.2.1
  unfold zNb
  omega
theorem zNc_e {σ : zHp} (hI : zInv σ) : ((zNc σ : Nat) : Int) = σ 1 2 ∧ zNc σ ≤ 30 := by
  have h := zN_eq hI.2.2.1
  unfold zNc
  omega
theorem zIL_s {σ τ : zHp} (h : zIL σ) (hs : zSame σ τ) : zIL τ := zIL_c h (hs 1 0 rfl) (hs 1 1 rfl) (hs 1 2 rfl) (hs 1 0 rfl) (hs 1 1 rfl)
theorem zIH_s {σ τ : zHp} (h : zIH σ) (hs : zSame σ τ) : zIH τ := zIH_c h (hs 1 1 rfl) (hs 1 2 rfl) (fun k => hs 2 k rfl) (fun k => hs 3 k rfl) (fun k => hs 4 k rfl) (fun k => hs 2 k rfl)
theorem zIB_s {σ τ : zHp} (h : zIB σ) (hs : zSame σ τ) : zIB τ := zIB_c h (hs 1 2 rfl) (fun k => hs 2 k rfl) (fun k => hs 5 k rfl)
theorem zONE_p : 0 < zONE := by decide
theorem zWt_I {σ : zHp} (hI : zInv σ) : zWt (zNb σ) (σ 9) := fun b b0 b1 => ((zI3 hI).2.2.2 b b0 (by have := (zNb_e hI).1; omega)).2.2.2
theorem zCq_I {σ : zHp} (hI : zInv σ) {w : Int} (hw : 0 ≤ w ∧ w ≤ 39) : zCq (zNb σ) (zNc σ) (zFF σ w) (zGG σ w) := by
  obtain ⟨n1, n2⟩ := zNb_e hI
  obtain ⟨c1, c2⟩ := zNc_e hI
  obtain ⟨e1, e2, e3⟩ := hI.2.2.2.2.2.2.1
  refine ⟨n2, c2, ?_, fun b c b0 b1 c0 c1 => zGr_b (zIC_b hI ⟨b0, by omega⟩ ⟨c0, by omega⟩) hw⟩
  unfold zFF
  have h0 : 0 ≤ σ 10 2 * zONE * (10 + w % 10) := Int.mul_nonneg (Int.mul_nonneg e2 (by decide)) (by omega)
  have h1 : σ 10 2 * zONE ≤ 99 * zONE := Int.mul_le_mul_of_nonneg_right e3 (by decide)
  have h2 : σ 10 2 * zONE * (10 + w % 10) ≤ 99 * zONE * 19 := Int.mul_le_mul h1 (by omega) (by omega) (by decide)
  have h3 : 99 * zONE * 19 = 112069973672616960 := by decide
  omega
theorem zPc_I {σ : zHp} (hI : zInv σ) {w : Int} (hw : 0 ≤ w ∧ w ≤ 39) : zPc (zNb σ) (zNc σ) (zKK w) (zFF σ w) (σ 10 2) (zPP σ w) (zQQ σ w) (zGG σ w) := by
  obtain ⟨n1, n2⟩ := zNb_e hI
  obtain ⟨c1, c2⟩ := zNc_e hI
  obtain ⟨e1, e2, e3⟩ := hI.2.2.2.2.2.2.1
  refine ⟨by omega, c2, ⟨e2, e3⟩, ?_, ?_, fun b c b0 b1 c0 c1 => ?_⟩
  · exact Int.mul_pos (by decide) (by omega)
  · unfold zKK zFF
    ac_rfl
  · have hb := (zI3 hI).2.2.2 b b0 (by omega)
    have hc : 0 ≤ c ∧ c < σ 1 2 := ⟨c0, by omega⟩
    obtain ⟨p1, p2, q1, q2⟩ := zPQ_b (kd := σ 7 b) hI.2.2.1 hb.2.1.2 hc hw
    refine ⟨⟨p1, p2⟩, ⟨q1, q2⟩, zGr_b (zIC_b hI ⟨b0, by omega⟩ hc) hw, ?_⟩
    exact zGr_e (hI.2.2.2.2.2.2.2.2.1 b c b0 (by omega) hc.1 hc.2)
theorem zBlow {σ : zHp} (hI : zInv σ) {w : Int} (hw : 0 ≤ w ∧ w ≤ 39) : ∃ τ, m_X0_blow [10, w] σ = some (0, τ) ∧ zSame σ τ ∧ zCp τ (zNb σ) (zNc σ) (zFF σ w) (σ 9) (zGG σ w) := by
  obtain ⟨n1, n2⟩ := zNb_e hI
  obtain ⟨c1, c2⟩ := zNc_e hI
  obtain ⟨τ, h1, h2, h3, h4⟩ := w_blow hI.2.2.1 hI.2.2.2.1 hI.2.2.2.2.2.2.1.2 (zI3 hI) hI.2.2.2.2.2.2.2.2.1 hw
  refine ⟨τ, h1, fun a b hab => ?_, ?_, ?_, h3, fun b _ _ => h2 9 b (by decide) (by omega), fun b c b0 b1 c0 c1 => h4 b c b0 (by omega) c0 (by omega)⟩
  · refine h2 a b ?_ ?_
    · rintro rfl
      simp [zfree] at hab
    · rintro ⟨rfl, rfl⟩
      simp [zfree] at hab
  · rw [h2 6 0 (by decide) (by decide), n1]
  · rw [h2 1 2 (by decide) (by decide), c1]
/-! whose: the class's set against the reference's number -/
theorem zWh_i (F : Int) (L : Int → Int) (n : Nat) : zWh F L n = -6 ∨ zWh F L n = -5 ∨ (0 ≤ zWh F L n ∧ zWh F L n < n) := by
  unfold zWh
  split
  · exact Or.inl rfl
  · split
    · exact Or.inr (Or.inl rfl)
    · next h _ =>
      have := (zMo_0 L n).mpr
      obtain ⟨s1, s2, s3, -⟩ := zMo_s L n (by omega)
      exact Or.inr (Or.inr ⟨s2, s3⟩)
theorem zLI_one {F : Int} {L : Int → Int} {n : Nat} (hn : n ≤ 31) {b : Int} (hb : 0 ≤ b ∧ b < n) : (zLI F L n).2 = zShl 1 b ↔ zWh F L n = b := by
  rw [zWh_own hb]
  have b2 : ((b.toNat : Nat) : Int) = b := by omega
  obtain ⟨s1, s2, s3, s4, s5⟩ := zMo_s L n (by omega)
  have t := zLI_t F L n (by omega)
  constructor
  · intro h
    have k1 := t b.toNat
    rw [h, zt_bit_i (by omega), b2, decide_eq_true rfl] at k1
    obtain ⟨q1, q2, q3⟩ := of_decide_eq_true k1.symm
    refine ⟨by omega, fun x x0 x1 xb => ?_⟩
    have k2 := t x.toNat
    have x2 : ((x.toNat : Nat) : Int) = x := by omega
    rw [h, zt_bit_i (by omega), x2, decide_eq_false xb] at k2
    have k3 := of_decide_eq_false k2.symm
    have := s4 x x0 x1
    rcases Int.lt_or_le (L x) (L b) with g | g
    · exact g
    · exact absurd ⟨by omega, q2, by omega⟩ k3
  · rintro ⟨h1, h2⟩
    have e : (zMo L n).2 = b := by
      rcases Int.lt_trichotomy (zMo L n).2 b with g | g | g
      · have := h2 _ s2 s3 (by omega)
        have := s4 b hb.1 hb.2
        omega
      · exact g
      · have := h2 _ s2 s3 (by omega)
        have := s4 b hb.1 hb.2
        omega
    refine zt_ext (zLI_s F L n (by omega)).1 (r32_shl _ _) (fun i hi => ?_)
    rw [t, zt_bit_i (by omega), e]
    by_cases z : (i : Int) = b
    · rw [decide_eq_true z, decide_eq_true ⟨by omega, h1, by rw [z]⟩]
    · rw [decide_eq_false z, decide_eq_false]
      rintro ⟨i1, i2, i3⟩
      have := h2 (i : Int) (by omega) (by omega) z
      omega
theorem zLI_none {F : Int} {L : Int → Int} {n : Nat} (hn : n ≤ 31) : (zLI F L n).2 = 0 ↔ zWh F L n = -6 := by
  have t := zLI_t F L n (by omega)
  constructor
  · intro h
    unfold zWh
    by_cases q : n = 0
    · rw [if_pos (Or.inl ((zMo_0 L n).mpr q))]
    · obtain ⟨s1, s2, s3, s4, s5⟩ := zMo_s L n (by omega)
      have k := t (zMo L n).2.toNat
      rw [h, zbt0] at k
      have k3 := of_decide_eq_false k.symm
      have x2 : (((zMo L n).2.toNat : Nat) : Int) = (zMo L n).2 := by omega
      rw [x2] at k3
      rw [if_pos (Or.inr ?_)]
      rcases Int.lt_or_le (L (zMo L n).2) F with g | g
      · exact g
      · exact absurd ⟨by omega, g, rfl⟩ k3
  · intro h
    refine zt_ext (zLI_s F L n (by omega)).1 r32_0 (fun i hi => ?_)
    rw [t, zbt0]
    refine decide_eq_false ?_
    rintro ⟨i1, i2, i3⟩
    obtain ⟨s1, s2, s3, s4, s5⟩ := zMo_s L n (by omega)
    unfold zWh at h
    rw [if_neg (by omega)] at h
    split at h <;> omega
theorem w_whBody {σ : zHp} {c w s k : Int} : lf_X8_whose_1 [0, c, w, s, k] σ = if s = zShl 1 k then some (1, [k], σ) else some (0, [0, c, w, s, k], σ) := by
  by_cases p : s = zShl 1 k
  · simp [lf_X8_whose_1, xC_e, xL_e, xU_e, xB_e, xD_e, xF_e, xG_e, xA_e, xE_e, xH_e, xI_e, xZ_e, xK_e, aN_e, aC_e, cR_e, cV_e, cA_e, cO_e, cN_e, bs_e, bn_e, zg_0, zg_S, sS_e, sX_e, sF_e, sG_e, sA_e, sE_e, sEo_e, sK_e, sQ_e, sI_e, sR_e, sV_e, sB_e, sC_e, sD_e, sN_e, st_0, st_S, zc_0, zc_S, r_eq, r_ne, r_lt, r_le, r_gt, r_ge, rb_ite, rb_0, rb_1, p]
  · simp [lf_X8_whose_1, xC_e, xL_e, xU_e, xB_e, xD_e, xF_e, xG_e, xA_e, xE_e, xH_e, xI_e, xZ_e, xK_e, aN_e, aC_e, cR_e, cV_e, cA_e, cO_e, cN_e, bs_e, bn_e, zg_0, zg_S, sS_e, sX_e, sF_e, sG_e, sA_e, sE_e, sEo_e, sK_e, sQ_e, sI_e, sR_e, sV_e, sB_e, sC_e, sD_e, sN_e, st_0, st_S, zc_0, zc_S, r_eq, r_ne, r_lt, r_le, r_gt, r_ge, rb_ite, rb_0, rb_1, p]
