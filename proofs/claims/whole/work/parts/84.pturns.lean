theorem v_tw {υ2 : zHp} {w b : Int} {cnt f : Nat} (hc : cnt ≤ 6) {p : Nat → Bool} {R : Nat → Int → Int} (H : ∀ n : Nat, n ≤ 6 → ∀ x : zHp, (∀ a i : Int, a ≠ 55 → x a i = υ2 a i) → ∃ y, m_X9_areTurns [37, (n : Int)] x = some (if p n = true then 1 else 0, y) ∧ (∀ a i : Int, a ≠ 55 → y a i = x a i) ∧ (p n = true → ∀ a : Nat, a < cnt → y 55 a = R n a))
    (f0 : 1 ≤ f) (f1 : f ≤ cnt) (f2 : p f = true) (f3 : ∀ j, j < f → p j = false) : ∃ x, sW lc_X9_turns_1 lf_X9_turns_1 ls_X9_turns_1 [37, w, b, 1] υ2 = some (0, [37, w, b, (f : Int)], x) ∧ (∀ a i : Int, a ≠ 55 → x a i = υ2 a i) ∧ ∀ a : Nat, a < cnt → x 55 a = R f a := by
  have hl := zl_m (c := lc_X9_turns_1) (f := lf_X9_turns_1) (s := ls_X9_turns_1) (fun k e x => 1 + k ≤ f ∧ e = [37, w, b, 1 + (k : Int)] ∧ ∀ a i : Int, a ≠ 55 → x a i = υ2 a i)
    (fun t e x => t = 0 ∧ e = [37, w, b, (f : Int)] ∧ (∀ a i : Int, a ≠ 55 → x a i = υ2 a i) ∧ ∀ a : Nat, a < cnt → x 55 a = R f a) 100 (e := [37, w, b, 1]) (σ := υ2) ⟨by omega, by simp, fun _ _ _ => rfl⟩
    (by
      rintro k e x ⟨hk, rfl, hx⟩
      obtain ⟨y, y1, y2, y3⟩ := H (1 + k) (by omega) x hx
      have e1 : ((1 + k : Nat) : Int) = 1 + (k : Int) := by omega
      rw [e1] at y1
      have c := v_tuC (τ := y) (w := w) (b := b) y1
      by_cases q : 1 + k = f
      · rw [← q]
        rw [← q] at f2
        rw [f2] at c
        refine Or.inl ⟨y, c, rfl, by rw [e1], fun a i h => by rw [y2 a i h]; exact hx a i h, y3 f2⟩
      · rw [f3 (1 + k) (by omega)] at c
        refine Or.inr ⟨by omega, y, c, ?_⟩
        refine ⟨0, _, y, v_tuBody (n2 := 1 + ((k + 1 : Nat) : Int)) ?_, Or.inr ⟨Or.inl rfl, _, y, rfl, by omega, rfl, fun a i h => by rw [y2 a i h]; exact hx a i h⟩⟩
        have : o_iadd (1 + (k : Int)) 1 = 1 + (k : Int) + 1 := w32_id ⟨by omega, by omega⟩
        omega)
    (zf_lt (by decide))
  obtain ⟨t, e, x, hl, rfl, rfl, hx, hT⟩ := hl
  exact ⟨x, hl, hx, hT⟩
/-- both sides find the same turns -/
theorem zTurns (cl : Nat → Nat → Bool) {cnt : Nat} (hc : cnt ≤ 6) : ∃ (f : Nat) (T : Int → Int), f ≤ cnt ∧ (1 ≤ cnt → 1 ≤ f) ∧
    (∀ (σ : zHp) (C : Nat) (F : Int) (W : Int → Int) (G : Int → Int → Int), zCh2 F W G C = cl → zCp σ cnt C F W G → zCq cnt C F G → zWt cnt W → ∃ τ, m_X5_fewest [22] σ = some ((f : Int), τ) ∧ (∀ a b : Int, a ≠ 23 → a ≠ 24 → τ a b = σ a b) ∧ ∀ a : Nat, a < cnt → τ 24 a = T a) ∧
    (1 ≤ cnt → ∀ (υ : zHp) (w b : Int), υ 37 14 = cnt → zC54 υ cnt cl → ∃ x, sW lc_X9_turns_1 lf_X9_turns_1 ls_X9_turns_1 [37, w, b, 1] υ = some (0, [37, w, b, (f : Int)], x) ∧ (∀ a i : Int, a ≠ 55 → x a i = υ a i) ∧ ∀ a : Nat, a < cnt → x 55 a = T a) := by
  obtain ⟨f, f1, f2, f3⟩ := zFw (p := fun n => (zEd cl cnt n).1 = (cnt : Int)) cnt (zEd_all hc)
  have f0 : 1 ≤ cnt → 1 ≤ f := fun h => by
    rcases Nat.eq_zero_or_pos f with z | z
    · rw [z] at f2
      have e := zEd_0 (cl := cl) h
      have g : (-1 : Int) = (cnt : Int) := e.symm.trans f2
      omega
    · exact z
  refine ⟨f, (zEd cl cnt f).2, f1, f0, fun σ C F W G h1 h2 h3 h4 => ?_, fun h υ w b h14 h54 => ?_⟩
  · subst h1
    exact w_fw h2 h3 h4 f1 f2 f3
  · have H : ∀ n : Nat, n ≤ 6 → ∀ x : zHp, (∀ a i : Int, a ≠ 55 → x a i = υ a i) → ∃ y, m_X9_areTurns [37, (n : Int)] x = some (if (fun n => decide ((zEd cl cnt n).1 = (cnt : Int))) n = true then 1 else 0, y) ∧ (∀ a i : Int, a ≠ 55 → y a i = x a i) ∧ ((fun n => decide ((zEd cl cnt n).1 = (cnt : Int))) n = true → ∀ a : Nat, a < cnt → y 55 a = (fun n => (zEd cl cnt n).2) n a) := fun n n6 x hx => by
      obtain ⟨y, y1, y2, y3⟩ := v_at (σ := x) (cl := cl) hc (by rw [hx 37 14 (by decide)]; exact h14) (fun a b h1 h2 => by rw [hx 54 _ (by decide)]; exact h54 a b h1 h2) n6
      refine ⟨y, ?_, y2, fun h => y3 (of_decide_eq_true h)⟩
      rw [y1]
      simp only [decide_eq_true_eq]
    exact v_tw (w := w) (b := b) hc (p := fun n => decide ((zEd cl cnt n).1 = (cnt : Int))) (R := fun n => (zEd cl cnt n).2) H (f0 h) f1 (decide_eq_true f2) (fun j hj => decide_eq_false (f3 j hj))
theorem zp21 : zp_21 zInv := by
  intro w b hwr hbr σ hI
  have nN := zN_eq hI.2.2.1
  have hN := zI3 hI
  obtain ⟨nb1, nb2⟩ := zNb_e hI
  obtain ⟨nc1, nc2⟩ := zNc_e hI
  have ha : zOkA [0, 0] [w, b] := ⟨hwr, hbr, trivial⟩
  by_cases g2 : 0 ≤ w ∧ w ≤ 39
  case neg =>
    refine zq k_X8_turns k_X9_turns hI ha (r := -2) (σ1 := σ) (σ2 := σ) ?_ ?_ (zSame.rf σ) (zSame.rf σ)
    · simp [e_X8_turns, d_X8_turns, xC_e, xL_e, xU_e, xB_e, xD_e, xF_e, xG_e, xA_e, xE_e, xH_e, xI_e, xZ_e, xK_e, aN_e, aC_e, cR_e, cV_e, cA_e, cO_e, cN_e, bs_e, bn_e, zg_0, zg_S, sS_e, sX_e, sF_e, sG_e, sA_e, sE_e, sEo_e, sK_e, sQ_e, sI_e, sR_e, sV_e, sB_e, sC_e, sD_e, sN_e, sP_e, sY_e, st_0, st_S, zc_0, zc_S, r_eq, r_ne, r_lt, r_le, r_gt, r_ge, rb_ite, rb_0, rb_1, w_isWind_f g2]
    · simp [e_X9_turns, d_X9_turns, xC_e, xL_e, xU_e, xB_e, xD_e, xF_e, xG_e, xA_e, xE_e, xH_e, xI_e, xZ_e, xK_e, aN_e, aC_e, cR_e, cV_e, cA_e, cO_e, cN_e, bs_e, bn_e, zg_0, zg_S, sS_e, sX_e, sF_e, sG_e, sA_e, sE_e, sEo_e, sK_e, sQ_e, sI_e, sR_e, sV_e, sB_e, sC_e, sD_e, sN_e, sP_e, sY_e, st_0, st_S, zc_0, zc_S, r_eq, r_ne, r_lt, r_le, r_gt, r_ge, rb_ite, rb_0, rb_1, v_isWind_f g2]
  have e14 : o_isub (σ 37 14) 1 = σ 6 0 - 1 := by rw [hN.1]; exact w32_id ⟨by omega, by omega⟩
  by_cases g1 : b = -1 ∨ (0 ≤ b ∧ b < σ 6 0)
  case neg =>
    have g3 : ¬ b = -1 := fun z => g1 (Or.inl z)
    have g4 : ¬ (0 ≤ b ∧ b < σ 6 0) := fun z => g1 (Or.inr z)
    have g5 : ¬ (-1 ≤ b ∧ b ≤ σ 6 0 - 1) := by omega
    refine zq k_X8_turns k_X9_turns hI ha (r := -1) (σ1 := σ) (σ2 := σ) ?_ ?_ (zSame.rf σ) (zSame.rf σ)
    · simp [e_X8_turns, d_X8_turns, xC_e, xL_e, xU_e, xB_e, xD_e, xF_e, xG_e, xA_e, xE_e, xH_e, xI_e, xZ_e, xK_e, aN_e, aC_e, cR_e, cV_e, cA_e, cO_e, cN_e, bs_e, bn_e, zg_0, zg_S, sS_e, sX_e, sF_e, sG_e, sA_e, sE_e, sEo_e, sK_e, sQ_e, sI_e, sR_e, sV_e, sB_e, sC_e, sD_e, sN_e, sP_e, sY_e, st_0, st_S, zc_0, zc_S, r_eq, r_ne, r_lt, r_le, r_gt, r_ge, rb_ite, rb_0, rb_1, w_isWind_t g2, g3, w_isBell_f g4, rb_0]
    · simp [e_X9_turns, d_X9_turns, xC_e, xL_e, xU_e, xB_e, xD_e, xF_e, xG_e, xA_e, xE_e, xH_e, xI_e, xZ_e, xK_e, aN_e, aC_e, cR_e, cV_e, cA_e, cO_e, cN_e, bs_e, bn_e, zg_0, zg_S, sS_e, sX_e, sF_e, sG_e, sA_e, sE_e, sEo_e, sK_e, sQ_e, sI_e, sR_e, sV_e, sB_e, sC_e, sD_e, sN_e, sP_e, sY_e, st_0, st_S, zc_0, zc_S, r_eq, r_ne, r_lt, r_le, r_gt, r_ge, rb_ite, rb_0, rb_1, v_isWind_t g2, e14, v_within_f g5]
  have g5 : -1 ≤ b ∧ b ≤ σ 6 0 - 1 := by omega
  obtain ⟨τ, t1, t2, t3⟩ := zBlow hI g2
  have hW := zWt_I hI
  have hQ := zCq_I hI g2
  have hP := zPc_I hI g2
  generalize hcl : zCh2 (zFF σ w) (σ 9) (zGG σ w) (zNc σ) = cl
  obtain ⟨f, T, f1, f0, fc, fr⟩ := zTurns cl nb2
  obtain ⟨τ2, s1, s2, s3⟩ := fc τ _ _ _ _ hcl t3 hQ hW
  have sm2 : zSame σ τ2 := fun a i hab => by
    rw [s2 a i (by rintro rfl; simp [zfree] at hab) (by rintro rfl; simp [zfree] at hab), t2 a i hab]
  have h1 : m_X8_turns [0, w, b] σ = some (if b = -1 then (f : Int) else T b, τ2) := by
    by_cases z : b = -1
    · subst z
      simp [e_X8_turns, d_X8_turns, xC_e, xL_e, xU_e, xB_e, xD_e, xF_e, xG_e, xA_e, xE_e, xH_e, xI_e, xZ_e, xK_e, aN_e, aC_e, cR_e, cV_e, cA_e, cO_e, cN_e, bs_e, bn_e, zg_0, zg_S, sS_e, sX_e, sF_e, sG_e, sA_e, sE_e, sEo_e, sK_e, sQ_e, sI_e, sR_e, sV_e, sB_e, sC_e, sD_e, sN_e, sP_e, sY_e, st_0, st_S, zc_0, zc_S, r_eq, r_ne, r_lt, r_le, r_gt, r_ge, rb_ite, rb_0, rb_1, w_isWind_t g2, t1, s1]
    · have g6 : 0 ≤ b ∧ b < σ 6 0 := g1.resolve_left z
      have b6 : 0 ≤ b ∧ b < 6 := by omega
      have s4 := s3 b.toNat (by omega)
      rw [show ((b.toNat : Nat) : Int) = b by omega] at s4
      simp [e_X8_turns, d_X8_turns, xC_e, xL_e, xU_e, xB_e, xD_e, xF_e, xG_e, xA_e, xE_e, xH_e, xI_e, xZ_e, xK_e, aN_e, aC_e, cR_e, cV_e, cA_e, cO_e, cN_e, bs_e, bn_e, zg_0, zg_S, sS_e, sX_e, sF_e, sG_e, sA_e, sE_e, sEo_e, sK_e, sQ_e, sI_e, sR_e, sV_e, sB_e, sC_e, sD_e, sN_e, sP_e, sY_e, st_0, st_S, zc_0, zc_S, r_eq, r_ne, r_lt, r_le, r_gt, r_ge, rb_ite, rb_0, rb_1, w_isWind_t g2, z, w_isBell_t g6, rb_1, t1, s1, b6, s4]
  by_cases g0 : σ 6 0 = 0
  case pos =>
    have bm : b = -1 := by omega
    have f0 : f = 0 := by omega
    subst bm
    subst f0
    refine zq k_X8_turns k_X9_turns hI ha (r := 0) (σ1 := τ2) (σ2 := τ2) (by rw [h1]; rfl) ?_ sm2 (zSame.rf _)
    have z14 : τ2 37 14 = 0 := by rw [sm2 37 14 rfl, hN.1]; exact g0
    have e14z : o_isub 0 1 = -1 := by decide
    have vw : m_X9_within [-1, -1, -1] τ2 = some (1, τ2) := v_within_t (by decide)
    simp [e_X9_turns, d_X9_turns, xC_e, xL_e, xU_e, xB_e, xD_e, xF_e, xG_e, xA_e, xE_e, xH_e, xI_e, xZ_e, xK_e, aN_e, aC_e, cR_e, cV_e, cA_e, cO_e, cN_e, bs_e, bn_e, zg_0, zg_S, sS_e, sX_e, sF_e, sG_e, sA_e, sE_e, sEo_e, sK_e, sQ_e, sI_e, sR_e, sV_e, sB_e, sC_e, sD_e, sN_e, sP_e, sY_e, st_0, st_S, zc_0, zc_S, r_eq, r_ne, r_lt, r_le, r_gt, r_ge, rb_ite, rb_0, rb_1, v_isWind_t g2, z14, e14z, vw, rb_1]
  obtain ⟨υ, u1, u2, u3⟩ := zLay hI sm2 g2
  obtain ⟨υ2, v1, v2, v3⟩ := v_lc u3 hP hW nb2
  rw [hcl] at v3
  obtain ⟨x, hl, hx, hT⟩ := fr (by omega) υ2 w b (by rw [v2 37 14 (by decide)]; exact u3.1) v3
  have h2 : m_X9_turns [37, w, b] τ2 = some (if b = -1 then (f : Int) else T b, x) := by
    have e14' : o_isub (τ2 37 14) 1 = σ 6 0 - 1 := by rw [sm2 37 14 rfl]; exact e14
    have z14 : ¬ τ2 37 14 = 0 := by rw [sm2 37 14 rfl, hN.1]; exact g0
    by_cases z : b = -1
    · subst z
      simp [e_X9_turns, d_X9_turns, xC_e, xL_e, xU_e, xB_e, xD_e, xF_e, xG_e, xA_e, xE_e, xH_e, xI_e, xZ_e, xK_e, aN_e, aC_e, cR_e, cV_e, cA_e, cO_e, cN_e, bs_e, bn_e, zg_0, zg_S, sS_e, sX_e, sF_e, sG_e, sA_e, sE_e, sEo_e, sK_e, sQ_e, sI_e, sR_e, sV_e, sB_e, sC_e, sD_e, sN_e, sP_e, sY_e, st_0, st_S, zc_0, zc_S, r_eq, r_ne, r_lt, r_le, r_gt, r_ge, rb_ite, rb_0, rb_1, v_isWind_t g2, e14', v_within_t g5, z14, u1, v1, hl]
    · have b6 : 0 ≤ b ∧ b < 6 := by omega
      have s4 := hT b.toNat (by omega)
      rw [show ((b.toNat : Nat) : Int) = b by omega] at s4
      simp [e_X9_turns, d_X9_turns, xC_e, xL_e, xU_e, xB_e, xD_e, xF_e, xG_e, xA_e, xE_e, xH_e, xI_e, xZ_e, xK_e, aN_e, aC_e, cR_e, cV_e, cA_e, cO_e, cN_e, bs_e, bn_e, zg_0, zg_S, sS_e, sX_e, sF_e, sG_e, sA_e, sE_e, sEo_e, sK_e, sQ_e, sI_e, sR_e, sV_e, sB_e, sC_e, sD_e, sN_e, sP_e, sY_e, st_0, st_S, zc_0, zc_S, r_eq, r_ne, r_lt, r_le, r_gt, r_ge, rb_ite, rb_0, rb_1, v_isWind_t g2, e14', v_within_t g5, z14, u1, v1, hl, z, b6, s4]
  refine zq k_X8_turns k_X9_turns hI ha h1 h2 sm2 (u2.tr (fun a i hab => ?_))
  rw [hx a i (by rintro rfl; simp [zfree] at hab), v2 a i (by rintro rfl; simp [zfree] at hab)]
