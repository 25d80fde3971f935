/-! keep: one cell alone is laid -/
def zR1 (τ : zHp) (n : Nat) (ea c : Int) (W P Q : Int → Int) : Prop := τ 37 14 = n ∧ τ 37 7 = ea ∧ (∀ b : Int, 0 ≤ b → b < n → τ 46 b = W b) ∧ ∀ b : Int, 0 ≤ b → b < n → τ 47 (30 * b + c) = P b ∧ τ 48 (30 * b + c) = Q b
def zP1 (n : Nat) (K F ea : Int) (P Q G : Int → Int) : Prop := n ≤ 7 ∧ (0 ≤ ea ∧ ea ≤ 99) ∧ 0 < K ∧ K * ea = 10 * F ∧ ∀ b : Int, 0 ≤ b → b < n → (1 ≤ P b ∧ P b ≤ 38) ∧ (1 ≤ Q b ∧ Q b ≤ 209152) ∧ 1 ≤ G b ∧ G b * Q b = K * P b
def zL1 (W G : Int → Int) : Int → Int := fun b => W b * G b
theorem zR1_22 {τ : zHp} {n : Nat} {ea c v : Int} {W P Q : Int → Int} (h : zR1 τ n ea c W P Q) : zR1 (zput τ 37 22 v) n ea c W P Q := by
  obtain ⟨h1, h2, h3, h4⟩ := h
  exact ⟨by rw [zput_i (by decide), h1], by rw [zput_i (by decide), h2], fun b b0 b1 => by rw [zput_o (by decide), h3 b b0 b1], fun b b0 b1 => by rw [zput_o (by decide), zput_o (by decide)]; exact h4 b b0 b1⟩
theorem v_lb1 {τ : zHp} {n : Nat} {K F ea c : Int} {W P Q G : Int → Int} (hR : zR1 τ n ea c W P Q) (hP : zP1 n K F ea P Q G) (hW : zWt n W) {a b : Int} (ha : 0 ≤ a ∧ a < n) (hb : 0 ≤ b ∧ b < n) (hc : 0 ≤ c ∧ c < 30) :
    ∃ d, m_X9_louderBy [37, a, b, c] τ = some (d, τ) ∧ (0 < d ↔ zL1 W G b < zL1 W G a) ∧ (d = 0 ↔ zL1 W G a = zL1 W G b) := by
  obtain ⟨h1, h3, h4, h5⟩ := hR
  obtain ⟨n7, he, hK, -, hp⟩ := hP
  obtain ⟨pa, qa, ga, la⟩ := hp a ha.1 ha.2
  obtain ⟨pb, qb, gb, lb⟩ := hp b hb.1 hb.2
  have w1 := hW a ha.1 ha.2
  have w2 := hW b hb.1 hb.2
  have ev := v_louderBy (τ := τ) (a := a) (b := b) (c := c) (by omega) (by omega) hc (h4 a ha.1 ha.2) (h4 b hb.1 hb.2) (h5 a ha.1 ha.2).1 (h5 b hb.1 hb.2).1 (h5 a ha.1 ha.2).2 (h5 b hb.1 hb.2).2 (by omega) (by omega) pa pb qa qb
  refine ⟨_, ev, ?_⟩
  have z := zcmp (wa := W a) (wb := W b) hK (show 0 < Q a by omega) (show 0 < Q b by omega) la lb
  unfold zL1
  omega
theorem v_hd1 {τ : zHp} {n : Nat} {K F ea c : Int} {W P Q G : Int → Int} (hR : zR1 τ n ea c W P Q) (hP : zP1 n K F ea P Q G) (hW : zWt n W) {a : Int} (ha : 0 ≤ a ∧ a < n) (hc : 0 ≤ c ∧ c < 30) :
    m_X9_isHeard [37, a, c] τ = some (if F ≤ zL1 W G a then 1 else 0, τ) := by
  obtain ⟨h1, h3, h4, h5⟩ := hR
  obtain ⟨n7, he, hK, hF, hp⟩ := hP
  obtain ⟨pa, qa, ga, la⟩ := hp a ha.1 ha.2
  have w1 := hW a ha.1 ha.2
  have ev := v_isHeard (τ := τ) (a := a) (c := c) (by omega) hc (h4 a ha.1 ha.2) (h5 a ha.1 ha.2).1 (h5 a ha.1 ha.2).2 h3 (by omega) pa qa he
  rw [ev]
  have z := zhear2 (w := W a) hK (show 0 < Q a by omega) la hF
  unfold zL1
  simp only [z]
theorem v_many11 {τ : zHp} {n : Nat} {K F ea c : Int} {W P Q G : Int → Int} (hR : zR1 τ n ea c W P Q) (hP : zP1 n K F ea P Q G) (hW : zWt n W) (hc : 0 ≤ c ∧ c < 30) :
    m_X9_manyLoudest [37, c] τ = some (((zMo (zL1 W G) n).1 : Int), zput τ 37 22 (zMo (zL1 W G) n).2) := by
  have n7 := hP.1
  obtain ⟨υ, h1, h2⟩ := zfor0 (c := lc_X9_manyLoudest_1) (f := lf_X9_manyLoudest_1) (i := 3) (lo := 0) n (fun k => [37, c, ((zMo (zL1 W G) k).1 : Int), 0 + (k : Int), 0, 0]) (fun k υ => υ = zput τ 37 22 (zMo (zL1 W G) k).2) (σ := zput τ 37 22 (-9)) rfl (fun k => rfl) (by decide) (by omega)
    (fun k υ hk h => zc_lt (i := 3) (x := 0 + (k : Int)) rfl (zx_G (N := n) (by rw [h, zput_i (by decide)]; exact hR.1)) (by omega))
    (fun k υ hk h => by
      subst h
      have hk22 : zput τ 37 22 (zMo (zL1 W G) k).2 37 22 = (zMo (zL1 W G) k).2 := zput_self _ _ _ _
      have zm7 : (zMo (zL1 W G) k).1 ≤ k := by
        rcases Nat.eq_zero_or_pos k with q | q
        · rw [q]; exact Nat.le_refl _
        · rw [(zMo_s (zL1 W G) k q).2.2.2.2]
          exact zcn_le _ k
      rw [show (0 : Int) + (k : Int) = (k : Int) by omega, show (0 : Int) + ((k + 1 : Nat) : Int) = ((k + 1 : Nat) : Int) by omega, zMo_S]
      by_cases q : (zMo (zL1 W G) k).1 = 0
      · have body := v_mlBody (υ := zput τ 37 22 (zMo (zL1 W G) k).2) (c := c) (m := ((zMo (zL1 W G) k).1 : Int)) (k := (k : Int)) (d := 1) (by omega) (fun z => absurd (by omega) z)
        rw [if_pos (Or.inl (by omega)), zput_put] at body
        refine ⟨_, _, _, body, Or.inl rfl, rfl, ?_, ?_⟩
        · rw [if_pos (Or.inl q)]; rfl
        · rw [if_pos (Or.inl q)]
      · obtain ⟨s1, s2, s3, -⟩ := zMo_s (zL1 W G) k (by
          rcases Nat.eq_zero_or_pos k with z | z
          · rw [z] at q; exact absurd rfl q
          · exact z)
        obtain ⟨d, d1, d2, d3⟩ := v_lb1 (zR1_22 (v := (zMo (zL1 W G) k).2) hR) hP hW (a := (k : Int)) (b := (zMo (zL1 W G) k).2) (by omega) (by omega) hc
        have body := v_mlBody (υ := zput τ 37 22 (zMo (zL1 W G) k).2) (c := c) (m := ((zMo (zL1 W G) k).1 : Int)) (k := (k : Int)) (d := d) (by omega) (fun _ => by rw [hk22]; exact d1)
        generalize zMo (zL1 W G) k = r at *
        by_cases p : 0 < d
        · rw [if_pos (Or.inr p), zput_put] at body
          refine ⟨_, _, _, body, Or.inl rfl, rfl, ?_, ?_⟩
          · rw [if_pos (Or.inr (d2.mp p))]; rfl
          · rw [if_pos (Or.inr (d2.mp p))]
        · have nr : ¬ (r.1 = 0 ∨ zL1 W G r.2 < zL1 W G k) := fun z => z.elim q (fun z => p (d2.mpr z))
          by_cases p2 : d = 0
          · rw [if_neg (by omega), if_pos p2] at body
            refine ⟨_, _, _, body, Or.inl rfl, rfl, ?_, ?_⟩
            · rw [if_neg nr, if_pos (d3.mp p2)]; rfl
            · rw [if_neg nr, if_pos (d3.mp p2)]
          · rw [if_neg (by omega), if_neg p2] at body
            refine ⟨_, _, _, body, Or.inl rfl, rfl, ?_, ?_⟩
            · rw [if_neg nr, if_neg (fun z => p2 (d3.mpr z))]; rfl
            · rw [if_neg nr, if_neg (fun z => p2 (d3.mpr z))])
  subst h2
  exact v_mlEval h1
theorem v_wb1 {τ : zHp} {n : Nat} {K F ea c : Int} {W P Q G : Int → Int} (hR : zR1 τ n ea c W P Q) (hP : zP1 n K F ea P Q G) (hW : zWt n W) (hc : 0 ≤ c ∧ c < 30) :
    m_X9_whoseBy [37, c] τ = some (zWh F (zL1 W G) n, zput τ 37 22 (zMo (zL1 W G) n).2) := by
  have h1 := v_many11 hR hP hW hc
  by_cases q : n = 0
  · have ev := v_wbEval (h := 0) h1 (zput_self _ _ _ _) (fun z => absurd (by have := (zMo_0 (zL1 W G) n).mpr q; omega) z) (Or.inl rfl)
    rw [ev, if_pos (Or.inr rfl)]
    unfold zWh
    rw [if_pos (Or.inl ((zMo_0 (zL1 W G) n).mpr q))]
  · obtain ⟨s1, s2, s3, s4, s5⟩ := zMo_s (zL1 W G) n (by omega)
    have hd := v_hd1 (zR1_22 (v := (zMo (zL1 W G) n).2) hR) hP hW (a := (zMo (zL1 W G) n).2) ⟨s2, s3⟩ hc
    have ev := v_wbEval h1 (zput_self _ _ _ _) (fun _ => hd) (by split <;> simp)
    rw [ev]
    unfold zWh
    generalize zMo (zL1 W G) n = r at *
    have n1 : ¬ (r.1 : Int) = 0 := by omega
    have n2 : ¬ r.1 = 0 := by omega
    by_cases p : F ≤ zL1 W G r.2
    · have p3 : ¬ zL1 W G r.2 < F := by omega
      by_cases p2 : 1 < r.1
      · have p4 : (1 : Int) < (r.1 : Int) := by omega
        simp [p, p3, n1, n2, p2, p4]
      · have p4 : ¬ (1 : Int) < (r.1 : Int) := by omega
        simp [p, p3, n1, n2, p2, p4]
    · have p3 : zL1 W G r.2 < F := by omega
      simp [p, p3]
/-! planting besides: what it does to the way's number -/
def zAd (σ τ : zHp) (S : Nat → Bool) : Prop := (∀ a b : Int, a ≠ 42 → ¬ (a = 37 ∧ (b = 18 ∨ b = 19 ∨ b = 22)) → a ≠ 47 → a ≠ 48 → a ≠ 53 → τ a b = σ a b) ∧ ∀ c : Nat, (c : Int) < σ 1 2 → τ 42 c = if S c = true then 1 else σ 42 c
theorem zcn_or {f g : Nat → Bool} : ∀ n : Nat, (∀ i, i < n → ¬ (f i = true ∧ g i = true)) → zcn (fun i => f i || g i) n = zcn f n + zcn g n
  | 0, _ => rfl
  | n + 1, h => by
    have ih := zcn_or n (fun i hi => h i (by omega))
    have e1 : zcn (fun i => f i || g i) (n + 1) = zcn (fun i => f i || g i) n + if (f n || g n) = true then 1 else 0 := rfl
    have e2 : zcn f (n + 1) = zcn f n + if f n = true then 1 else 0 := rfl
    have e3 : zcn g (n + 1) = zcn g n + if g n = true then 1 else 0 := rfl
    have hn := h n (by omega)
    rw [e1, e2, e3, ih]
    cases hf : f n
    · cases hg : g n <;> simp <;> omega
    · cases hg : g n
      · simp
        omega
      · exact absurd ⟨hf, hg⟩ hn
/-- how many of a set lie on the way -/
def zKs (σ : zHp) (S : Nat → Bool) (f t : Int) : Nat := zcn (fun k => S (zBt σ f t ((k + 1 : Nat) : Int)).toNat) (zLen σ f t - 1).toNat
theorem zDn_S {σ τ : zHp} (hL : zIL σ) {S : Nat → Bool} (h : zAd σ τ S) (hfr : ∀ c : Nat, (c : Int) < σ 1 2 → S c = true → σ 42 c ≠ 1) {kd f t : Int} (hf : 0 ≤ f ∧ f < σ 1 2) (ht : 0 ≤ t ∧ t < σ 1 2) : zDn τ kd f t = zDn σ kd f t * ((2 ^ zKs σ S f t : Nat) : Int) := by
  obtain ⟨h1, h2⟩ := h
  have r1 : τ 1 1 = σ 1 1 := h1 1 1 (by decide) (by decide) (by decide) (by decide) (by decide)
  have r2 : ∀ k, τ 2 k = σ 2 k := fun k => h1 2 k (by decide) (fun z => absurd z.1 (by decide)) (by decide) (by decide) (by decide)
  have hp : zcn (zPn τ f t) (zLen σ f t - 1).toNat = zcn (zPn σ f t) (zLen σ f t - 1).toNat + zKs σ S f t := by
    unfold zKs
    rw [← zcn_or]
    · refine zcn_c _ (fun k hk => ?_)
      have b := zBt_lt hL hf ht (k := ((k + 1 : Nat) : Int)) (by omega)
      unfold zPn
      rw [zBt_eq r1]
      have e : zBt σ f t ((k : Int) + 1) = zBt σ f t ((k + 1 : Nat) : Int) := rfl
      rw [e]
      have e2 : (((zBt σ f t ((k + 1 : Nat) : Int)).toNat : Nat) : Int) = zBt σ f t ((k + 1 : Nat) : Int) := Int.toNat_of_nonneg b.1
      have v := h2 (zBt σ f t ((k + 1 : Nat) : Int)).toNat (by rw [e2]; exact b.2)
      rw [e2] at v
      rw [v]
      cases hS : S (zBt σ f t ((k + 1 : Nat) : Int)).toNat
      · simp
      · simp
    · intro k hk z
      have b := zBt_lt hL hf ht (k := ((k + 1 : Nat) : Int)) (by omega)
      have e2 : (((zBt σ f t ((k + 1 : Nat) : Int)).toNat : Nat) : Int) = zBt σ f t ((k + 1 : Nat) : Int) := Int.toNat_of_nonneg b.1
      refine hfr _ (by rw [e2]; exact b.2) z.2 ?_
      rw [e2]
      exact of_decide_eq_true z.1
  unfold zDn
  rw [zDim_p, zDim_p, zLen_eq r1, zHl_eq r1 r2, zFar_eq r1, hp]
  generalize zcn (zPn σ f t) (zLen σ f t - 1).toNat = a
  generalize zcn (zHl σ kd f t) (zLen σ f t - 1).toNat = b
  generalize zKs σ S f t = k
  rw [show a + k + b = a + b + k by omega, Nat.pow_add, Int.natCast_mul, Int.mul_assoc]
/-- grains behind the planting -/
theorem zGn_S {σ τ : zHp} (hL : zIL σ) {S : Nat → Bool} (h : zAd σ τ S) (hfr : ∀ c : Nat, (c : Int) < σ 1 2 → S c = true → σ 42 c ≠ 1) {v kd f c w : Int} (hf : 0 ≤ f ∧ f < σ 1 2) (hc : 0 ≤ c ∧ c < σ 1 2) (hw : 0 ≤ w ∧ w ≤ 39) (hv : v * zDn σ kd f c = zONE * zU kd) : zGr σ v f c w = zGn τ kd f c w * ((2 ^ zKs σ S f c : Nat) : Int) ∧ zGn τ kd f c w * zQd τ kd f c w = zKK w * zPu τ kd f c w ∧ 1 ≤ zGn τ kd f c w := by
  have e1 : ∀ a b : Int, a ≠ 42 → ¬ (a = 37 ∧ (b = 18 ∨ b = 19 ∨ b = 22)) → a ≠ 47 → a ≠ 48 → a ≠ 53 → τ a b = σ a b := h.1
  have r11 : τ 1 1 = σ 1 1 := e1 1 1 (by decide) (by decide) (by decide) (by decide) (by decide)
  have L' : zIL τ := zIL_c hL (e1 1 0 (by decide) (by decide) (by decide) (by decide) (by decide)) r11 (e1 1 2 (by decide) (by decide) (by decide) (by decide) (by decide)) (e1 37 5 (by decide) (by decide) (by decide) (by decide) (by decide)) (e1 37 6 (by decide) (by decide) (by decide) (by decide) (by decide))
  have r12 : τ 1 2 = σ 1 2 := e1 1 2 (by decide) (by decide) (by decide) (by decide) (by decide)
  have hf' : 0 ≤ f ∧ f < τ 1 2 := by rw [r12]; exact hf
  have hc' : 0 ≤ c ∧ c < τ 1 2 := by rw [r12]; exact hc
  obtain ⟨t, t0, ht⟩ := zDn_d L' (kd := kd) hf' hc'
  have d1 := zDn_1 L' (kd := kd) hf' hc'
  have dS := zDn_S hL h hfr (kd := kd) hf hc
  have d0 := zDn_1 hL (kd := kd) hf hc
  have ex : zONE * zU kd / zDn τ kd f c * zDn τ kd f c = zONE * zU kd := by
    generalize zDn τ kd f c = D' at *
    rw [ht, show D' * t * zU kd = t * zU kd * D' by ac_rfl, Int.mul_ediv_cancel _ (by omega)]
  have cb := zCalm_b L' hf' hc' ex
  have evu : v = zONE * zU kd / zDn τ kd f c * ((2 ^ zKs σ S f c : Nat) : Int) := by
    generalize zONE * zU kd / zDn τ kd f c = u at *
    generalize ((2 ^ zKs σ S f c : Nat) : Int) = z at *
    have : zDn σ kd f c * v = zDn σ kd f c * (u * z) := by
      calc zDn σ kd f c * v = v * zDn σ kd f c := Int.mul_comm _ _
        _ = zONE * zU kd := hv
        _ = u * zDn τ kd f c := ex.symm
        _ = u * (zDn σ kd f c * z) := by rw [dS]
        _ = zDn σ kd f c * (u * z) := by ac_rfl
    exact Int.eq_of_mul_eq_mul_left (by omega) this
  refine ⟨?_, zGr_e ex, (zGr_b cb hw).1⟩
  unfold zGn
  rw [evu]
  unfold zGr
  rw [zRo_eq r11, zCo_eq r11]
  ac_rfl
