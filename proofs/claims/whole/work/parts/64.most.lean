/-! the loudest of some: how many, and one of them -/
def zMo (L : Int → Int) : Nat → Nat × Int
  | 0 => (0, -9)
  | k + 1 => if (zMo L k).1 = 0 ∨ L (zMo L k).2 < L k then (1, (k : Int)) else if L k = L (zMo L k).2 then ((zMo L k).1 + 1, (zMo L k).2) else zMo L k
theorem zMo_S (L : Int → Int) (k : Nat) : zMo L (k + 1) = if (zMo L k).1 = 0 ∨ L (zMo L k).2 < L k then (1, (k : Int)) else if L k = L (zMo L k).2 then ((zMo L k).1 + 1, (zMo L k).2) else zMo L k := rfl
theorem zMo_s (L : Int → Int) : ∀ n : Nat, 1 ≤ n → 1 ≤ (zMo L n).1 ∧ 0 ≤ (zMo L n).2 ∧ (zMo L n).2 < n ∧ (∀ b : Int, 0 ≤ b → b < n → L b ≤ L (zMo L n).2) ∧ (zMo L n).1 = zcn (fun i => decide (L i = L (zMo L n).2)) n
  | 0, h => by omega
  | n + 1, _ => by
    by_cases q : n = 0
    · subst q
      have e : zMo L (0 + 1) = (1, 0) := by simp [zMo]
      rw [e]
      refine ⟨Nat.le_refl _, Int.le_refl _, by decide, fun b h0 h1 => ?_, ?_⟩
      · have : b = 0 := by omega
        subst this
        exact Int.le_refl _
      · simp [zcn]
    · obtain ⟨h1, h2, h3, h4, h5⟩ := zMo_s L n (by omega)
      rw [zMo_S]
      have n0 : ¬ (zMo L n).1 = 0 := by omega
      generalize zMo L n = r at *
      by_cases p : L r.2 < L n
      · rw [if_pos (Or.inr p)]
        refine ⟨Nat.le_refl _, by omega, by omega, fun b b0 b1 => ?_, ?_⟩
        · by_cases z : b = (n : Int)
          · rw [z]; exact Int.le_refl _
          · have := h4 b b0 (by omega)
            show L b ≤ L n
            omega
        · show 1 = zcn (fun i => decide (L i = L n)) (n + 1)
          unfold zcn
          rw [zcn_z n (fun i hi => by
            have := h4 (i : Int) (by omega) (by omega)
            exact decide_eq_false (by omega))]
          simp
      · by_cases p2 : L n = L r.2
        · rw [if_neg (by omega), if_pos p2]
          refine ⟨by simp, h2, by show r.2 < _; omega, fun b b0 b1 => ?_, ?_⟩
          · by_cases z : b = (n : Int)
            · rw [z]; show L n ≤ L r.2; omega
            · exact h4 b b0 (by omega)
          · show r.1 + 1 = zcn (fun i => decide (L i = L r.2)) (n + 1)
            unfold zcn
            rw [← h5, decide_eq_true p2]
            rfl
        · rw [if_neg (by omega), if_neg p2]
          refine ⟨h1, h2, by omega, fun b b0 b1 => ?_, ?_⟩
          · by_cases z : b = (n : Int)
            · rw [z]; omega
            · exact h4 b b0 (by omega)
          · show r.1 = zcn (fun i => decide (L i = L r.2)) (n + 1)
            unfold zcn
            rw [← h5, decide_eq_false p2]
            simp
theorem zMo_c {L L2 : Int → Int} : ∀ n : Nat, (∀ b : Int, 0 ≤ b → b < n → L b = L2 b) → zMo L n = zMo L2 n
  | 0, _ => rfl
  | n + 1, h => by
    have ih := zMo_c n (fun b h0 h1 => h b h0 (by omega))
    rw [zMo_S, zMo_S, ih, h n (by omega) (by omega)]
    by_cases q : n = 0
    · subst q
      simp [zMo]
    · have s := zMo_s L2 n (by omega)
      rw [h _ s.2.1 (by omega)]
/-- whose: the own bell, several (-5), none (-6) -/
def zWh (F : Int) (L : Int → Int) (n : Nat) : Int := if (zMo L n).1 = 0 ∨ L (zMo L n).2 < F then -6 else if 1 < (zMo L n).1 then -5 else (zMo L n).2
def zOwn (F : Int) (L : Int → Int) (n : Nat) (b : Int) : Prop := F ≤ L b ∧ ∀ x : Int, 0 ≤ x → x < n → x ≠ b → L x < L b
def zTop (F : Int) (L : Int → Int) (n : Nat) (b : Int) : Prop := F ≤ L b ∧ ∀ x : Int, 0 ≤ x → x < n → L x ≤ L b
theorem zMo_0 (L : Int → Int) (n : Nat) : (zMo L n).1 = 0 ↔ n = 0 := by
  constructor
  · intro h
    rcases Nat.eq_zero_or_pos n with q | q
    · exact q
    · have := (zMo_s L n q).1
      omega
  · rintro rfl
    rfl
theorem zWh_own {F : Int} {L : Int → Int} {n : Nat} {b : Int} (hb : 0 ≤ b ∧ b < n) : zWh F L n = b ↔ zOwn F L n b := by
  obtain ⟨s1, s2, s3, s4, s5⟩ := zMo_s L n (by omega)
  unfold zWh zOwn
  have n0 : ¬ (zMo L n).1 = 0 := by omega
  generalize zMo L n = r at *
  by_cases p : L r.2 < F
  · rw [if_pos (Or.inr p)]
    constructor
    · intro h; omega
    · rintro ⟨h1, h2⟩
      have := s4 b hb.1 hb.2
      omega
  · rw [if_neg (by omega)]
    by_cases p2 : 1 < r.1
    · rw [if_pos p2]
      constructor
      · intro h; omega
      · rintro ⟨h1, h2⟩
        rw [s5] at p2
        obtain ⟨i, j, i1, j1, ij, hi, hj⟩ := zcn_2 n p2
        have hi := of_decide_eq_true hi
        have hj := of_decide_eq_true hj
        have t := s4 b hb.1 hb.2
        by_cases z : (i : Int) = b
        · have := h2 (j : Int) (by omega) (by omega) (by omega)
          omega
        · have := h2 (i : Int) (by omega) (by omega) z
          omega
    · rw [if_neg p2]
      constructor
      · rintro rfl
        refine ⟨by omega, fun x x0 x1 xb => ?_⟩
        have t := s4 x x0 x1
        rcases Int.lt_or_le (L x) (L r.2) with q | q
        · exact q
        · exfalso
          apply p2
          rw [s5]
          have e : L x = L r.2 := by omega
          have x2 : ((x.toNat : Nat) : Int) = x := by omega
          have r2 : ((r.2.toNat : Nat) : Int) = r.2 := by omega
          rcases Nat.lt_trichotomy x.toNat r.2.toNat with h | h | h
          · exact zcn_ge2 n x.toNat r.2.toNat h (by omega) (by rw [x2]; exact decide_eq_true e) (by rw [r2]; exact decide_eq_true rfl)
          · omega
          · exact zcn_ge2 n r.2.toNat x.toNat h (by omega) (by rw [r2]; exact decide_eq_true rfl) (by rw [x2]; exact decide_eq_true e)
      · rintro ⟨h1, h2⟩
        rcases Int.lt_or_le r.2 b with q | q
        · have := h2 r.2 s2 s3 (by omega)
          have := s4 b hb.1 hb.2
          omega
        · rcases Int.lt_or_le b r.2 with q2 | q2
          · have := h2 r.2 s2 s3 (by omega)
            have := s4 b hb.1 hb.2
            omega
          · omega
theorem zWh_c {F : Int} {L L2 : Int → Int} {n : Nat} (h : ∀ b : Int, 0 ≤ b → b < n → L b = L2 b) : zWh F L n = zWh F L2 n := by
  unfold zWh
  rw [zMo_c n h]
  by_cases q : n = 0
  · have z : (zMo L2 n).1 = 0 := (zMo_0 L2 n).mpr q
    rw [if_pos (Or.inl z), if_pos (Or.inl z)]
  · have s := zMo_s L2 n (by omega)
    rw [h _ s.2.1 s.2.2.1]
/-- the loudest and heard: by what stands as the loudest -/
theorem zTop_M {F : Int} {L : Int → Int} {n : Nat} {b : Int} (hb : 0 ≤ b ∧ b < n) : zTop F L n b ↔ F ≤ L (zMo L n).2 ∧ L b = L (zMo L n).2 := by
  obtain ⟨s1, s2, s3, s4, s5⟩ := zMo_s L n (by omega)
  generalize zMo L n = r at *
  unfold zTop
  constructor
  · rintro ⟨h1, h2⟩
    have := h2 r.2 s2 s3
    have := s4 b hb.1 hb.2
    omega
  · rintro ⟨h1, h2⟩
    refine ⟨by omega, fun x x0 x1 => ?_⟩
    have := s4 x x0 x1
    omega
/-! the reference: what it has laid out, and what holds of the numbers -/
def zRp (τ : zHp) (n C : Nat) (ea : Int) (W : Int → Int) (P Q : Int → Int → Int) : Prop := τ 37 14 = n ∧ w32 (τ 37 5 * τ 37 6) = C ∧ τ 37 7 = ea ∧ (∀ b : Int, 0 ≤ b → b < n → τ 46 b = W b) ∧ ∀ b c : Int, 0 ≤ b → b < n → 0 ≤ c → c < C → τ 47 (30 * b + c) = P b c ∧ τ 48 (30 * b + c) = Q b c
def zWt (n : Nat) (W : Int → Int) : Prop := ∀ b : Int, 0 ≤ b → b < n → 1 ≤ W b ∧ W b ≤ 99
def zPc (n C : Nat) (K F ea : Int) (P Q G : Int → Int → Int) : Prop := n ≤ 7 ∧ C ≤ 30 ∧ (0 ≤ ea ∧ ea ≤ 99) ∧ 0 < K ∧ K * ea = 10 * F ∧ ∀ b c : Int, 0 ≤ b → b < n → 0 ≤ c → c < C → (1 ≤ P b c ∧ P b c ≤ 38) ∧ (1 ≤ Q b c ∧ Q b c ≤ 209152) ∧ (1 ≤ G b c ∧ G b c ≤ 21508378785653760) ∧ G b c * Q b c = K * P b c
def zLd (W : Int → Int) (G : Int → Int → Int) (c : Int) : Int → Int := fun b => W b * G b c
theorem zRp_k {τ υ : zHp} {n C : Nat} {ea : Int} {W : Int → Int} {P Q : Int → Int → Int} (h : zRp τ n C ea W P Q) (e1 : υ 37 14 = τ 37 14) (e2 : υ 37 5 = τ 37 5) (e3 : υ 37 6 = τ 37 6) (e4 : υ 37 7 = τ 37 7) (e5 : ∀ k, υ 46 k = τ 46 k) (e6 : ∀ k, υ 47 k = τ 47 k) (e7 : ∀ k, υ 48 k = τ 48 k) : zRp υ n C ea W P Q := by
  obtain ⟨h1, h2, h3, h4, h5⟩ := h
  refine ⟨by rw [e1, h1], by rw [e2, e3, h2], by rw [e4, h3], fun b b0 b1 => by rw [e5, h4 b b0 b1], fun b c b0 b1 c0 c1 => by rw [e6, e7]; exact h5 b c b0 b1 c0 c1⟩
theorem zRp_22 {τ : zHp} {n C : Nat} {ea v : Int} {W : Int → Int} {P Q : Int → Int → Int} (h : zRp τ n C ea W P Q) : zRp (zput τ 37 22 v) n C ea W P Q :=
  zRp_k h (zput_i (by decide) _) (zput_i (by decide) _) (zput_i (by decide) _) (zput_i (by decide) _) (fun _ => zput_o (by decide) _) (fun _ => zput_o (by decide) _) (fun _ => zput_o (by decide) _)
theorem v_lb {τ : zHp} {n C : Nat} {K F ea : Int} {W : Int → Int} {P Q G : Int → Int → Int} (hR : zRp τ n C ea W P Q) (hP : zPc n C K F ea P Q G) (hW : zWt n W) {a b c : Int} (ha : 0 ≤ a ∧ a < n) (hb : 0 ≤ b ∧ b < n) (hc : 0 ≤ c ∧ c < C) :
    ∃ d, m_X9_louderBy [37, a, b, c] τ = some (d, τ) ∧ (0 < d ↔ zLd W G c b < zLd W G c a) ∧ (d = 0 ↔ zLd W G c a = zLd W G c b) := by
  obtain ⟨h1, h2, h3, h4, h5⟩ := hR
  obtain ⟨n7, c30, he, hK, -, hp⟩ := hP
  obtain ⟨pa, qa, ga, la⟩ := hp a c ha.1 ha.2 hc.1 hc.2
  obtain ⟨pb, qb, gb, lb⟩ := hp b c hb.1 hb.2 hc.1 hc.2
  have w1 := hW a ha.1 ha.2
  have w2 := hW b hb.1 hb.2
  have ev := v_louderBy (τ := τ) (a := a) (b := b) (c := c) (by omega) (by omega) (by omega) (h4 a ha.1 ha.2) (h4 b hb.1 hb.2) (h5 a c ha.1 ha.2 hc.1 hc.2).1 (h5 b c hb.1 hb.2 hc.1 hc.2).1 (h5 a c ha.1 ha.2 hc.1 hc.2).2 (h5 b c hb.1 hb.2 hc.1 hc.2).2 (by omega) (by omega) pa pb qa qb
  refine ⟨_, ev, ?_⟩
  have z := zcmp (wa := W a) (wb := W b) hK (show 0 < Q a c by omega) (show 0 < Q b c by omega) la lb
  unfold zLd
  omega
theorem zhear2 {K F ea w G P Q : Int} (hK : 0 < K) (hQ : 0 < Q) (h : G * Q = K * P) (hF : K * ea = 10 * F) : ea * Q ≤ 10 * w * P ↔ F ≤ w * G := by
  have z := zsgn (K := K) (X := 10 * w * P - ea * Q) (Y := w * G - F) (Z := 10 * Q) hK (by omega) (by
    rw [Int.mul_sub, Int.sub_mul]
    have e1 : K * (10 * w * P) = w * G * (10 * Q) := by
      calc K * (10 * w * P) = 10 * w * (K * P) := by ac_rfl
        _ = 10 * w * (G * Q) := by rw [h]
        _ = w * G * (10 * Q) := by ac_rfl
    have e2 : K * (ea * Q) = F * (10 * Q) := by
      calc K * (ea * Q) = K * ea * Q := by ac_rfl
        _ = 10 * F * Q := by rw [hF]
        _ = F * (10 * Q) := by ac_rfl
    rw [e1, e2])
  omega
theorem v_hd {τ : zHp} {n C : Nat} {K F ea : Int} {W : Int → Int} {P Q G : Int → Int → Int} (hR : zRp τ n C ea W P Q) (hP : zPc n C K F ea P Q G) (hW : zWt n W) {a c : Int} (ha : 0 ≤ a ∧ a < n) (hc : 0 ≤ c ∧ c < C) :
    m_X9_isHeard [37, a, c] τ = some (if F ≤ zLd W G c a then 1 else 0, τ) := by
  obtain ⟨h1, h2, h3, h4, h5⟩ := hR
  obtain ⟨n7, c30, he, hK, hF, hp⟩ := hP
  obtain ⟨pa, qa, ga, la⟩ := hp a c ha.1 ha.2 hc.1 hc.2
  have w1 := hW a ha.1 ha.2
  have ev := v_isHeard (τ := τ) (a := a) (c := c) (by omega) (by omega) (h4 a ha.1 ha.2) (h5 a c ha.1 ha.2 hc.1 hc.2).1 (h5 a c ha.1 ha.2 hc.1 hc.2).2 h3 (by omega) pa qa he
  rw [ev]
  have z := zhear2 (w := W a) hK (show 0 < Q a c by omega) la hF
  unfold zLd
  simp only [z]
theorem v_mlBody {υ : zHp} {c m k d : Int} (hm : 0 ≤ m ∧ m < 1000) (h : m ≠ 0 → m_X9_louderBy [37, k, υ 37 22, c] υ = some (d, υ)) : lf_X9_manyLoudest_1 [37, c, m, k, 0, 0] υ = if m = 0 ∨ 0 < d then some (0, [37, c, 1, k, 0, 0], zput υ 37 22 k) else if d = 0 then some (0, [37, c, m + 1, k, 0, 0], υ) else some (0, [37, c, m, k, 0, 0], υ) := by
  by_cases q : m = 0
  · simp [lf_X9_manyLoudest_1, xC_e, xL_e, xU_e, xB_e, xD_e, xF_e, xG_e, xA_e, xE_e, xH_e, xI_e, xZ_e, xK_e, aN_e, aC_e, cR_e, cV_e, cA_e, cO_e, cN_e, bs_e, bn_e, zg_0, zg_S, sS_e, sX_e, sF_e, sG_e, sA_e, sE_e, sEo_e, sK_e, sQ_e, sI_e, sR_e, sV_e, sB_e, sC_e, sD_e, sN_e, sP_e, sY_e, st_0, st_S, zc_0, zc_S, r_eq, r_ne, r_lt, r_le, r_gt, r_ge, rb_ite, rb_0, rb_1, q]
  · have e : o_iadd m 1 = m + 1 := w32_id ⟨by omega, by omega⟩
    have h := h q
    by_cases p : 0 < d
    · simp [lf_X9_manyLoudest_1, xC_e, xL_e, xU_e, xB_e, xD_e, xF_e, xG_e, xA_e, xE_e, xH_e, xI_e, xZ_e, xK_e, aN_e, aC_e, cR_e, cV_e, cA_e, cO_e, cN_e, bs_e, bn_e, zg_0, zg_S, sS_e, sX_e, sF_e, sG_e, sA_e, sE_e, sEo_e, sK_e, sQ_e, sI_e, sR_e, sV_e, sB_e, sC_e, sD_e, sN_e, sP_e, sY_e, st_0, st_S, zc_0, zc_S, r_eq, r_ne, r_lt, r_le, r_gt, r_ge, rb_ite, rb_0, rb_1, q, h, p]
    · by_cases p2 : d = 0
      · simp [lf_X9_manyLoudest_1, xC_e, xL_e, xU_e, xB_e, xD_e, xF_e, xG_e, xA_e, xE_e, xH_e, xI_e, xZ_e, xK_e, aN_e, aC_e, cR_e, cV_e, cA_e, cO_e, cN_e, bs_e, bn_e, zg_0, zg_S, sS_e, sX_e, sF_e, sG_e, sA_e, sE_e, sEo_e, sK_e, sQ_e, sI_e, sR_e, sV_e, sB_e, sC_e, sD_e, sN_e, sP_e, sY_e, st_0, st_S, zc_0, zc_S, r_eq, r_ne, r_lt, r_le, r_gt, r_ge, rb_ite, rb_0, rb_1, q, h, p2, e]
      · simp [lf_X9_manyLoudest_1, xC_e, xL_e, xU_e, xB_e, xD_e, xF_e, xG_e, xA_e, xE_e, xH_e, xI_e, xZ_e, xK_e, aN_e, aC_e, cR_e, cV_e, cA_e, cO_e, cN_e, bs_e, bn_e, zg_0, zg_S, sS_e, sX_e, sF_e, sG_e, sA_e, sE_e, sEo_e, sK_e, sQ_e, sI_e, sR_e, sV_e, sB_e, sC_e, sD_e, sN_e, sP_e, sY_e, st_0, st_S, zc_0, zc_S, r_eq, r_ne, r_lt, r_le, r_gt, r_ge, rb_ite, rb_0, rb_1, q, h, p, p2]
theorem v_mlEval {τ υ : zHp} {c m k : Int} (h : sW lc_X9_manyLoudest_1 lf_X9_manyLoudest_1 ls_X9_manyLoudest_1 [37, c, 0, 0, 0, 0] (zput τ 37 22 (-9)) = some (0, [37, c, m, k, 0, 0], υ)) : m_X9_manyLoudest [37, c] τ = some (m, υ) := by
  simp [e_X9_manyLoudest, d_X9_manyLoudest, xC_e, xL_e, xU_e, xB_e, xD_e, xF_e, xG_e, xA_e, xE_e, xH_e, xI_e, xZ_e, xK_e, aN_e, aC_e, cR_e, cV_e, cA_e, cO_e, cN_e, bs_e, bn_e, zg_0, zg_S, sS_e, sX_e, sF_e, sG_e, sA_e, sE_e, sEo_e, sK_e, sQ_e, sI_e, sR_e, sV_e, sB_e, sC_e, sD_e, sN_e, sP_e, sY_e, st_0, st_S, zc_0, zc_S, h]
theorem v_many1 {τ : zHp} {n C : Nat} {K F ea : Int} {W : Int → Int} {P Q G : Int → Int → Int} (hR : zRp τ n C ea W P Q) (hP : zPc n C K F ea P Q G) (hW : zWt n W) {c : Int} (hc : 0 ≤ c ∧ c < C) :
    m_X9_manyLoudest [37, c] τ = some (((zMo (zLd W G c) n).1 : Int), zput τ 37 22 (zMo (zLd W G c) n).2) := by
  have n7 := hP.1
  obtain ⟨υ, h1, h2⟩ := zfor0 (c := lc_X9_manyLoudest_1) (f := lf_X9_manyLoudest_1) (i := 3) (lo := 0) n (fun k => [37, c, ((zMo (zLd W G c) k).1 : Int), 0 + (k : Int), 0, 0]) (fun k υ => υ = zput τ 37 22 (zMo (zLd W G c) k).2) (σ := zput τ 37 22 (-9)) rfl (fun k => rfl) (by decide) (by omega)
    (fun k υ hk h => zc_lt (i := 3) (x := 0 + (k : Int)) rfl (zx_G (N := n) (by rw [h, zput_i (by decide)]; exact hR.1)) (by omega))
    (fun k υ hk h => by
      subst h
      have hk22 : zput τ 37 22 (zMo (zLd W G c) k).2 37 22 = (zMo (zLd W G c) k).2 := zput_self _ _ _ _
      have zm7 : (zMo (zLd W G c) k).1 ≤ k := by
        rcases Nat.eq_zero_or_pos k with q | q
        · rw [q]; exact Nat.le_refl _
        · rw [(zMo_s (zLd W G c) k q).2.2.2.2]
          exact zcn_le _ k
      rw [show (0 : Int) + (k : Int) = (k : Int) by omega, show (0 : Int) + ((k + 1 : Nat) : Int) = ((k + 1 : Nat) : Int) by omega, zMo_S]
      by_cases q : (zMo (zLd W G c) k).1 = 0
      · have body := v_mlBody (υ := zput τ 37 22 (zMo (zLd W G c) k).2) (c := c) (m := ((zMo (zLd W G c) k).1 : Int)) (k := (k : Int)) (d := 1) (by omega) (fun z => absurd (by omega) z)
        rw [if_pos (Or.inl (by omega)), zput_put] at body
        refine ⟨_, _, _, body, Or.inl rfl, rfl, ?_, ?_⟩
        · rw [if_pos (Or.inl q)]; rfl
        · rw [if_pos (Or.inl q)]
      · obtain ⟨s1, s2, s3, -⟩ := zMo_s (zLd W G c) k (by
          rcases Nat.eq_zero_or_pos k with z | z
          · rw [z] at q; exact absurd rfl q
          · exact z)
        obtain ⟨d, d1, d2, d3⟩ := v_lb (zRp_22 (v := (zMo (zLd W G c) k).2) hR) hP hW (a := (k : Int)) (b := (zMo (zLd W G c) k).2) (c := c) (by omega) (by omega) hc
        have body := v_mlBody (υ := zput τ 37 22 (zMo (zLd W G c) k).2) (c := c) (m := ((zMo (zLd W G c) k).1 : Int)) (k := (k : Int)) (d := d) (by omega) (fun _ => by rw [hk22]; exact d1)
        generalize zMo (zLd W G c) k = r at *
        by_cases p : 0 < d
        · rw [if_pos (Or.inr p), zput_put] at body
          refine ⟨_, _, _, body, Or.inl rfl, rfl, ?_, ?_⟩
          · rw [if_pos (Or.inr (d2.mp p))]; rfl
          · rw [if_pos (Or.inr (d2.mp p))]
        · have nr : ¬ (r.1 = 0 ∨ zLd W G c r.2 < zLd W G c k) := fun z => z.elim q (fun z => p (d2.mpr z))
          by_cases p2 : d = 0
          · rw [if_neg (by omega), if_pos p2] at body
            refine ⟨_, _, _, body, Or.inl rfl, rfl, ?_, ?_⟩
            · rw [if_neg nr, if_pos (d3.mp p2)]; rfl
            · rw [if_neg nr, if_pos (d3.mp p2)]
          · rw [if_neg (by omega), if_neg p2] at body
            refine ⟨_, _, _, body, Or.inl rfl, rfl, ?_, ?_⟩
            · rw [if_neg nr, if_neg (fun z => p2 (d3.mpr z))]; rfl
            · rw [if_neg nr, if_neg (fun z => p2 (d3.mpr z))])
  subst h2
  exact v_mlEval h1
theorem v_wbEval {τ υ : zHp} {c m t : Int} {h : Int} (h1 : m_X9_manyLoudest [37, c] τ = some (m, υ)) (ht : υ 37 22 = t) (h2 : m ≠ 0 → m_X9_isHeard [37, t, c] υ = some (h, υ)) (hh : h = 0 ∨ h = 1) : m_X9_whoseBy [37, c] τ = some (if m = 0 ∨ h = 0 then -6 else if 1 < m then -5 else t, υ) := by
  by_cases q : m = 0
  · simp [e_X9_whoseBy, d_X9_whoseBy, xC_e, xL_e, xU_e, xB_e, xD_e, xF_e, xG_e, xA_e, xE_e, xH_e, xI_e, xZ_e, xK_e, aN_e, aC_e, cR_e, cV_e, cA_e, cO_e, cN_e, bs_e, bn_e, zg_0, zg_S, sS_e, sX_e, sF_e, sG_e, sA_e, sE_e, sEo_e, sK_e, sQ_e, sI_e, sR_e, sV_e, sB_e, sC_e, sD_e, sN_e, sP_e, sY_e, st_0, st_S, zc_0, zc_S, r_eq, r_ne, r_lt, r_le, r_gt, r_ge, rb_ite, rb_0, rb_1, h1, q]
  · have h2 := h2 q
    rcases hh with rfl | rfl
    · simp [e_X9_whoseBy, d_X9_whoseBy, xC_e, xL_e, xU_e, xB_e, xD_e, xF_e, xG_e, xA_e, xE_e, xH_e, xI_e, xZ_e, xK_e, aN_e, aC_e, cR_e, cV_e, cA_e, cO_e, cN_e, bs_e, bn_e, zg_0, zg_S, sS_e, sX_e, sF_e, sG_e, sA_e, sE_e, sEo_e, sK_e, sQ_e, sI_e, sR_e, sV_e, sB_e, sC_e, sD_e, sN_e, sP_e, sY_e, st_0, st_S, zc_0, zc_S, r_eq, r_ne, r_lt, r_le, r_gt, r_ge, rb_ite, rb_0, rb_1, h1, q, ht, h2, rb_0]
    · by_cases p : 1 < m
      · simp [e_X9_whoseBy, d_X9_whoseBy, xC_e, xL_e, xU_e, xB_e, xD_e, xF_e, xG_e, xA_e, xE_e, xH_e, xI_e, xZ_e, xK_e, aN_e, aC_e, cR_e, cV_e, cA_e, cO_e, cN_e, bs_e, bn_e, zg_0, zg_S, sS_e, sX_e, sF_e, sG_e, sA_e, sE_e, sEo_e, sK_e, sQ_e, sI_e, sR_e, sV_e, sB_e, sC_e, sD_e, sN_e, sP_e, sY_e, st_0, st_S, zc_0, zc_S, r_eq, r_ne, r_lt, r_le, r_gt, r_ge, rb_ite, rb_0, rb_1, h1, q, ht, h2, p]
      · simp [e_X9_whoseBy, d_X9_whoseBy, xC_e, xL_e, xU_e, xB_e, xD_e, xF_e, xG_e, xA_e, xE_e, xH_e, xI_e, xZ_e, xK_e, aN_e, aC_e, cR_e, cV_e, cA_e, cO_e, cN_e, bs_e, bn_e, zg_0, zg_S, sS_e, sX_e, sF_e, sG_e, sA_e, sE_e, sEo_e, sK_e, sQ_e, sI_e, sR_e, sV_e, sB_e, sC_e, sD_e, sN_e, sP_e, sY_e, st_0, st_S, zc_0, zc_S, r_eq, r_ne, r_lt, r_le, r_gt, r_ge, rb_ite, rb_0, rb_1, h1, q, ht, h2, p]
theorem v_wb {τ : zHp} {n C : Nat} {K F ea : Int} {W : Int → Int} {P Q G : Int → Int → Int} (hR : zRp τ n C ea W P Q) (hP : zPc n C K F ea P Q G) (hW : zWt n W) {c : Int} (hc : 0 ≤ c ∧ c < C) :
    m_X9_whoseBy [37, c] τ = some (zWh F (zLd W G c) n, zput τ 37 22 (zMo (zLd W G c) n).2) := by
  have h1 := v_many1 hR hP hW hc
  by_cases q : n = 0
  · have ev := v_wbEval (h := 0) h1 (zput_self _ _ _ _) (fun z => absurd (by have := (zMo_0 (zLd W G c) n).mpr q; omega) z) (Or.inl rfl)
    rw [ev, if_pos (Or.inr rfl)]
    unfold zWh
    rw [if_pos (Or.inl ((zMo_0 (zLd W G c) n).mpr q))]
  · obtain ⟨s1, s2, s3, s4, s5⟩ := zMo_s (zLd W G c) n (by omega)
    have hd := v_hd (zRp_22 (v := (zMo (zLd W G c) n).2) hR) hP hW (a := (zMo (zLd W G c) n).2) (c := c) ⟨s2, s3⟩ hc
    have ev := v_wbEval h1 (zput_self _ _ _ _) (fun _ => hd) (by split <;> simp)
    rw [ev]
    unfold zWh
    generalize zMo (zLd W G c) n = r at *
    have n1 : ¬ (r.1 : Int) = 0 := by omega
    have n2 : ¬ r.1 = 0 := by omega
    by_cases p : F ≤ zLd W G c r.2
    · have p3 : ¬ zLd W G c r.2 < F := by omega
      by_cases p2 : 1 < r.1
      · have p4 : (1 : Int) < (r.1 : Int) := by omega
        simp [p, p3, n1, n2, p2, p4]
      · have p4 : ¬ (1 : Int) < (r.1 : Int) := by omega
        simp [p, p3, n1, n2, p2, p4]
    · have p3 : zLd W G c r.2 < F := by omega
      simp [p, p3]
theorem v_reEval {τ υ : zHp} {b c m t h d : Int} (h1 : m_X9_manyLoudest [37, c] τ = some (m, υ)) (hm : 0 < m) (ht : υ 37 22 = t) (h2 : m_X9_isHeard [37, t, c] υ = some (h, υ)) (hh : h = 0 ∨ h = 1) (h3 : m_X9_louderBy [37, b, t, c] υ = some (d, υ)) : m_X9_reaches [37, b, c] τ = some (if h = 1 ∧ d = 0 then 1 else 0, υ) := by
  rcases hh with rfl | rfl
  · simp [e_X9_reaches, d_X9_reaches, xC_e, xL_e, xU_e, xB_e, xD_e, xF_e, xG_e, xA_e, xE_e, xH_e, xI_e, xZ_e, xK_e, aN_e, aC_e, cR_e, cV_e, cA_e, cO_e, cN_e, bs_e, bn_e, zg_0, zg_S, sS_e, sX_e, sF_e, sG_e, sA_e, sE_e, sEo_e, sK_e, sQ_e, sI_e, sR_e, sV_e, sB_e, sC_e, sD_e, sN_e, sP_e, sY_e, st_0, st_S, zc_0, zc_S, r_eq, r_ne, r_lt, r_le, r_gt, r_ge, rb_ite, rb_0, rb_1, h1, hm, ht, h2, rb_0]
  · by_cases p : d = 0
    · simp [e_X9_reaches, d_X9_reaches, xC_e, xL_e, xU_e, xB_e, xD_e, xF_e, xG_e, xA_e, xE_e, xH_e, xI_e, xZ_e, xK_e, aN_e, aC_e, cR_e, cV_e, cA_e, cO_e, cN_e, bs_e, bn_e, zg_0, zg_S, sS_e, sX_e, sF_e, sG_e, sA_e, sE_e, sEo_e, sK_e, sQ_e, sI_e, sR_e, sV_e, sB_e, sC_e, sD_e, sN_e, sP_e, sY_e, st_0, st_S, zc_0, zc_S, r_eq, r_ne, r_lt, r_le, r_gt, r_ge, rb_ite, rb_0, rb_1, h1, hm, ht, h2, h3, p, rb_1]
    · simp [e_X9_reaches, d_X9_reaches, xC_e, xL_e, xU_e, xB_e, xD_e, xF_e, xG_e, xA_e, xE_e, xH_e, xI_e, xZ_e, xK_e, aN_e, aC_e, cR_e, cV_e, cA_e, cO_e, cN_e, bs_e, bn_e, zg_0, zg_S, sS_e, sX_e, sF_e, sG_e, sA_e, sE_e, sEo_e, sK_e, sQ_e, sI_e, sR_e, sV_e, sB_e, sC_e, sD_e, sN_e, sP_e, sY_e, st_0, st_S, zc_0, zc_S, r_eq, r_ne, r_lt, r_le, r_gt, r_ge, rb_ite, rb_0, rb_1, h1, hm, ht, h2, h3, p, rb_1]
theorem v_re {τ : zHp} {n C : Nat} {K F ea : Int} {W : Int → Int} {P Q G : Int → Int → Int} (hR : zRp τ n C ea W P Q) (hP : zPc n C K F ea P Q G) (hW : zWt n W) {b c : Int} (hb : 0 ≤ b ∧ b < n) (hc : 0 ≤ c ∧ c < C) :
    m_X9_reaches [37, b, c] τ = some (if F ≤ zLd W G c (zMo (zLd W G c) n).2 ∧ zLd W G c b = zLd W G c (zMo (zLd W G c) n).2 then 1 else 0, zput τ 37 22 (zMo (zLd W G c) n).2) := by
  have h1 := v_many1 hR hP hW hc
  obtain ⟨s1, s2, s3, s4, s5⟩ := zMo_s (zLd W G c) n (by omega)
  have hR2 := zRp_22 (v := (zMo (zLd W G c) n).2) hR
  have hh := v_hd hR2 hP hW (a := (zMo (zLd W G c) n).2) (c := c) ⟨s2, s3⟩ hc
  obtain ⟨d, d1, d2, d3⟩ := v_lb hR2 hP hW (a := b) (b := (zMo (zLd W G c) n).2) (c := c) hb ⟨s2, s3⟩ hc
  have ev := v_reEval h1 (by omega) (zput_self _ _ _ _) hh (by split <;> simp) d1
  rw [ev]
  generalize zMo (zLd W G c) n = r at *
  by_cases p : F ≤ zLd W G c r.2
  · by_cases p2 : d = 0
    · rw [if_pos ⟨if_pos p, p2⟩, if_pos ⟨p, d3.mp p2⟩]
    · rw [if_neg (fun z => p2 z.2), if_neg (fun z => p2 (d3.mpr z.2))]
  · rw [if_neg (fun z => by rw [if_neg p] at z; omega), if_neg (fun z => p z.1)]
