/-! keep: the reference, one try -/
def zMz (τ υ : zHp) : Prop := ∀ a i : Int, ¬ (a = 37 ∧ (i = 18 ∨ i = 19 ∨ i = 22)) → a ≠ 47 → a ≠ 48 → υ a i = τ a i
theorem v_ioBody {τ : zHp} {b c w k p q : Int} (hb : 0 ≤ k ∧ k < 7) (hc : 0 ≤ c ∧ c < 30) (h : m_X9_findLoud [37, k, c, w] τ = some (0, zput (zput τ 37 18 p) 37 19 q)) : lf_X9_isOwn_1 [37, b, c, w, k] τ = some (0, [37, b, c, w, k], zput (zput (zput (zput τ 37 18 p) 37 19 q) 47 (30 * k + c) p) 48 (30 * k + c) q) := by
  have e := (z30 (b := k) (c := c) hb hc).2
  have e3 : 0 ≤ 30 * k + c ∧ 30 * k + c < 210 := by omega
  have r18 : zput (zput τ 37 18 p) 37 19 q 37 18 = p := by rw [zput_i (by decide), zput_self]
  have r19 : ∀ i v, zput (zput (zput τ 37 18 p) 37 19 q) 47 i v 37 19 = q := fun i v => by rw [zput_o (by decide), zput_self]
  simp [lf_X9_isOwn_1, xC_e, xL_e, xU_e, xB_e, xD_e, xF_e, xG_e, xA_e, xE_e, xH_e, xI_e, xZ_e, xK_e, aN_e, aC_e, cR_e, cV_e, cA_e, cO_e, cN_e, bs_e, bn_e, zg_0, zg_S, sS_e, sX_e, sF_e, sG_e, sA_e, sE_e, sEo_e, sK_e, sQ_e, sI_e, sR_e, sV_e, sB_e, sC_e, sD_e, sN_e, sP_e, sY_e, st_0, st_S, zc_0, zc_S, e, e3, h, r18, r19]
theorem v_ioEval {τ υ ζ : zHp} {b c w n r : Int} (hl : sW lc_X9_isOwn_1 lf_X9_isOwn_1 ls_X9_isOwn_1 [37, b, c, w, 0] τ = some (0, [37, b, c, w, n], υ)) (h : m_X9_whoseBy [37, c] υ = some (r, ζ)) : m_X9_isOwn [37, b, c, w] τ = some (if r = b then 1 else 0, ζ) := by
  by_cases p : r = b <;> simp [e_X9_isOwn, d_X9_isOwn, xC_e, xL_e, xU_e, xB_e, xD_e, xF_e, xG_e, xA_e, xE_e, xH_e, xI_e, xZ_e, xK_e, aN_e, aC_e, cR_e, cV_e, cA_e, cO_e, cN_e, bs_e, bn_e, zg_0, zg_S, sS_e, sX_e, sF_e, sG_e, sA_e, sE_e, sEo_e, sK_e, sQ_e, sI_e, sR_e, sV_e, sB_e, sC_e, sD_e, sN_e, sP_e, sY_e, st_0, st_S, zc_0, zc_S, r_eq, r_ne, r_lt, r_le, r_gt, r_ge, rb_ite, rb_0, rb_1, hl, h, p]
theorem v_io {ρ τ : zHp} (hI : zInv ρ) {w b c : Int} (hw : 0 ≤ w ∧ w ≤ 39) (hc : 0 ≤ c ∧ c < ρ 1 2) {S : Nat → Bool} (hA : zAd ρ τ S) (hfr : ∀ c : Nat, (c : Int) < ρ 1 2 → S c = true → ρ 42 c ≠ 1) (hp : ∀ k : Int, 0 ≤ k → τ 42 k = 0 ∨ τ 42 k = 1) : ∃ υ, m_X9_isOwn [37, b, c, w] τ = some (if zKk ρ w b c S = true then 1 else 0, υ) ∧ zMz τ υ := by
  obtain ⟨nb1, nb2⟩ := zNb_e hI
  obtain ⟨nc1, nc2⟩ := zNc_e hI
  have hN := zI3 hI
  have r : ∀ a b : Int, a ≠ 42 → ¬ (a = 37 ∧ (b = 18 ∨ b = 19 ∨ b = 22)) → a ≠ 47 → a ≠ 48 → a ≠ 53 → τ a b = ρ a b := hA.1
  have q : ∀ a b : Int, a ≠ 42 → a ≠ 37 → a ≠ 47 → a ≠ 48 → a ≠ 53 → τ a b = ρ a b := fun a b h1 h2 h3 h4 h5 => r a b h1 (fun z => h2 z.1) h3 h4 h5
  have LT : zIL τ := zIL_c hI.2.2.1 (q 1 0 (by decide) (by decide) (by decide) (by decide) (by decide)) (q 1 1 (by decide) (by decide) (by decide) (by decide) (by decide)) (q 1 2 (by decide) (by decide) (by decide) (by decide) (by decide)) (r 37 5 (by decide) (by decide) (by decide) (by decide) (by decide)) (r 37 6 (by decide) (by decide) (by decide) (by decide) (by decide))
  have HT : zIH τ := zIH_c hI.2.2.2.1 (q 1 1 (by decide) (by decide) (by decide) (by decide) (by decide)) (q 1 2 (by decide) (by decide) (by decide) (by decide) (by decide)) (fun k => q 2 k (by decide) (by decide) (by decide) (by decide) (by decide)) (fun k => q 3 k (by decide) (by decide) (by decide) (by decide) (by decide)) (fun k => q 4 k (by decide) (by decide) (by decide) (by decide) (by decide)) (fun k => q 41 k (by decide) (by decide) (by decide) (by decide) (by decide))
  have t12 : τ 1 2 = ρ 1 2 := q 1 2 (by decide) (by decide) (by decide) (by decide) (by decide)
  have t44 : ∀ x : Int, 0 ≤ x → x < zNb ρ → τ 44 x = ρ 7 x := fun x x0 x1 => by rw [q 44 x (by decide) (by decide) (by decide) (by decide) (by decide)]; exact (hN.2.2.2 x x0 (by omega)).1.1
  have t45 : ∀ x : Int, 0 ≤ x → x < zNb ρ → τ 45 x = ρ 8 x := fun x x0 x1 => by rw [q 45 x (by decide) (by decide) (by decide) (by decide) (by decide)]; exact (hN.2.2.2 x x0 (by omega)).2.1.1
  have t46 : ∀ x : Int, 0 ≤ x → x < zNb ρ → τ 46 x = ρ 9 x := fun x x0 x1 => by rw [q 46 x (by decide) (by decide) (by decide) (by decide) (by decide)]; exact (hN.2.2.2 x x0 (by omega)).2.2.1
  have t14 : τ 37 14 = zNb ρ := by rw [r 37 14 (by decide) (by decide) (by decide) (by decide) (by decide), hN.1, nb1]
  have t7 : τ 37 7 = ρ 10 2 := by rw [r 37 7 (by decide) (by decide) (by decide) (by decide) (by decide), hI.2.2.2.2.2.2.1.1]
  have hl := zfor0 (c := lc_X9_isOwn_1) (f := lf_X9_isOwn_1) (i := 4) (lo := 0) (zNb ρ) (fun k => [37, b, c, w, 0 + (k : Int)]) (fun k υ => zMz τ υ ∧ ∀ x : Int, 0 ≤ x → x < k → υ 47 (30 * x + c) = zPu τ (ρ 7 x) (ρ 8 x) c w ∧ υ 48 (30 * x + c) = zQd τ (ρ 7 x) (ρ 8 x) c w) (σ := τ) ⟨fun _ _ _ _ _ => rfl, fun x x0 x1 => by omega⟩ (fun k => rfl) (by decide) (by omega)
    (fun k υ hk h => zc_lt (i := 4) (x := 0 + (k : Int)) rfl (zx_G (N := (zNb ρ : Nat)) (by rw [h.1 37 14 (by decide) (by decide) (by decide), t14])) (by omega))
    (fun k υ hk h => by
      obtain ⟨e, hr⟩ := h
      have E : ∀ a i : Int, a ≠ 37 → a ≠ 47 → a ≠ 48 → υ a i = τ a i := fun a i h1 h2 h3 => e a i (fun z => h1 z.1) h2 h3
      have hf := (hN.2.2.2 k (by omega) (by omega)).2.1.2
      have L' : zIL υ := zIL_c LT (E 1 0 (by decide) (by decide) (by decide)) (E 1 1 (by decide) (by decide) (by decide)) (E 1 2 (by decide) (by decide) (by decide)) (e 37 5 (by decide) (by decide) (by decide)) (e 37 6 (by decide) (by decide) (by decide))
      have H' : zIH υ := zIH_c HT (E 1 1 (by decide) (by decide) (by decide)) (E 1 2 (by decide) (by decide) (by decide)) (fun k => E 2 k (by decide) (by decide) (by decide)) (fun k => E 3 k (by decide) (by decide) (by decide)) (fun k => E 4 k (by decide) (by decide) (by decide)) (fun k => E 41 k (by decide) (by decide) (by decide))
      have u12 : υ 1 2 = ρ 1 2 := (E 1 2 (by decide) (by decide) (by decide)).trans t12
      have u45 : υ 45 k = ρ 8 k := (E 45 k (by decide) (by decide) (by decide)).trans (t45 k (by omega) (by omega))
      have u44 : υ 44 k = ρ 7 k := (E 44 k (by decide) (by decide) (by decide)).trans (t44 k (by omega) (by omega))
      have u := v_findLoud (σ := υ) L' H' (fun k hk => by rw [E 42 k (by decide) (by decide) (by decide)]; exact hp k hk) (b := (k : Int)) (c := c) (w := w) (by omega) (by rw [u45, u12]; exact hf) (by rw [u12]; exact hc) hw
      rw [zPu_eq (E 1 1 (by decide) (by decide) (by decide)), zQd_eq (E 1 1 (by decide) (by decide) (by decide)) (fun k => E 2 k (by decide) (by decide) (by decide)) (fun k => E 42 k (by decide) (by decide) (by decide)), u44, u45] at u
      have body := v_ioBody (b := b) (by omega) (by omega) u
      generalize hp1 : zPu τ (ρ 7 k) (ρ 8 k) c w = p at body
      generalize hq1 : zQd τ (ρ 7 k) (ρ 8 k) c w = d at body
      rw [z0k, z0k]
      refine ⟨_, _, _, body, Or.inl rfl, rfl, rfl, fun a i h1 h2 h3 => ?_, fun x x0 x1 => ?_⟩
      · rw [zput_o h3, zput_o h2, zput_n (by omega), zput_n (by omega)]
        exact e a i h1 h2 h3
      · by_cases z : x = (k : Int)
        · subst z
          rw [zput_o (by decide), zput_self, zput_self, hp1, hq1]
          exact ⟨rfl, rfl⟩
        · have := hr x x0 (by omega)
          rw [zput_o (by decide), zput_i (by omega), zput_o (by decide), zput_o (by decide), zput_i (by omega), zput_o (by decide), zput_o (by decide), zput_o (by decide)]
          exact this)
  obtain ⟨υ, hl, e, hr⟩ := hl
  have gn := fun (x : Int) (x0 : 0 ≤ x) (x1 : x < zNb ρ) => zGn_S hI.2.2.1 hA hfr (v := ρ 11 (30 * x + c)) (kd := ρ 7 x) (f := ρ 8 x) (c := c) (w := w) (hN.2.2.2 x x0 (by omega)).2.1.2 hc hw (hI.2.2.2.2.2.2.2.2.1 x c x0 (by omega) hc.1 hc.2)
  obtain ⟨e1, e2, e3⟩ := hI.2.2.2.2.2.2.1
  have hR : zR1 υ (zNb ρ) (ρ 10 2) c (ρ 9) (fun x => zPu τ (ρ 7 x) (ρ 8 x) c w) (fun x => zQd τ (ρ 7 x) (ρ 8 x) c w) := ⟨by rw [e 37 14 (by decide) (by decide) (by decide), t14], by rw [e 37 7 (by decide) (by decide) (by decide), t7], fun x x0 x1 => by rw [e 46 x (fun z => absurd z.1 (by decide)) (by decide) (by decide)]; exact t46 x x0 x1, hr⟩
  have hP : zP1 (zNb ρ) (zKK w) (zFF ρ w) (ρ 10 2) (fun x => zPu τ (ρ 7 x) (ρ 8 x) c w) (fun x => zQd τ (ρ 7 x) (ρ 8 x) c w) (fun x => zGn τ (ρ 7 x) (ρ 8 x) c w) := by
    refine ⟨by omega, ⟨e2, e3⟩, Int.mul_pos (by decide) (by omega), ?_, fun x x0 x1 => ?_⟩
    · unfold zKK zFF
      ac_rfl
    · obtain ⟨p1, p2, q1, q2⟩ := zPQ_b (kd := ρ 7 x) LT (f := ρ 8 x) (c := c) (w := w) (by rw [t12]; exact (hN.2.2.2 x x0 (by omega)).2.1.2) (by rw [t12]; exact hc) hw
      exact ⟨⟨p1, p2⟩, ⟨q1, q2⟩, (gn x x0 x1).2.2, (gn x x0 x1).2.1⟩
  have wb := v_wb1 hR hP (zWt_I hI) (by omega)
  have ev := v_ioEval (b := b) hl wb
  have eL : zWh (zFF ρ w) (zL1 (ρ 9) (fun x => zGn τ (ρ 7 x) (ρ 8 x) c w)) (zNb ρ) = zWh (zFF ρ w) (zDd ρ w c S) (zNb ρ) := zWh_c (fun x x0 x1 => by
    have g := (gn x x0 x1).1
    unfold zDd zLd zL1 zGG
    rw [g]
    have pz : ((2 ^ zKs ρ S (ρ 8 x) c : Nat) : Int) ≠ 0 := by
      have : 0 < 2 ^ zKs ρ S (ρ 8 x) c := Nat.pow_pos (by decide)
      omega
    generalize ((2 ^ zKs ρ S (ρ 8 x) c : Nat) : Int) = z at *
    rw [← Int.mul_assoc, Int.mul_ediv_cancel _ pz])
  refine ⟨zput υ 37 22 (zMo (zL1 (ρ 9) (fun x => zGn τ (ρ 7 x) (ρ 8 x) c w)) (zNb ρ)).2, ?_, fun a i h1 h2 h3 => ?_⟩
  · rw [ev, eL]
    unfold zKk
    simp only [decide_eq_true_eq]
  · rw [zput_n (by omega)]
    exact e a i h1 h2 h3
