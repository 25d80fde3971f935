/-- all rows anew -/
def zRows (σ ρ τ : zHp) (n : Int) : Prop := (∀ x y, ¬ (x = 11 ∧ 0 ≤ y ∧ y < 30 * n) → τ x y = σ x y) ∧ ∀ b c, 0 ≤ b → b < n → 0 ≤ c → c < σ 1 2 → τ 11 (30 * b + c) * zDn ρ (σ 7 b) (σ 8 b) c = zONE * zU (σ 7 b)
theorem w_carryAll {σ ρ : zHp} (hL : zIL σ) (hH : zIH σ) (hB : zIB σ) (r1 : ρ 1 1 = σ 1 1) (r2 : ∀ k, ρ 2 k = σ 2 k) (hP : ∀ c : Nat, c < 32 → zt (σ 1 3) c = decide ((c : Int) < σ 1 2 ∧ ρ 42 c = 1)) (h6 : 0 ≤ σ 6 0 ∧ σ 6 0 ≤ 6) (hb : ∀ b : Int, 0 ≤ b → b < σ 6 0 → (0 ≤ σ 7 b ∧ σ 7 b ≤ 2) ∧ (0 ≤ σ 8 b ∧ σ 8 b < σ 1 2)) :
    ∃ τ, m_X0_carryAll [10] σ = some (0, τ) ∧ zRows σ ρ τ (σ 6 0) := by
  have nN := zN_eq hL
  have nn : (((σ 6 0).toNat : Nat) : Int) = σ 6 0 := by omega
  have hl := zl_inv (c := lc_X0_carryAll_1) (f := lf_X0_carryAll_1) (s := ls_X0_carryAll_1) (fun k => [10, (k : Int)]) (fun k τ => zRows σ ρ τ (k : Int)) (σ 6 0).toNat (σ := σ)
    ⟨fun _ _ _ => rfl, fun b c h0 h1 => absurd h1 (by simp; omega)⟩
    (fun k τ hk hI => by
      have e := hI.1 6 0 (by omega)
      have : (k : Int) < τ 6 0 := by omega
      simp only [lc_X0_carryAll_1, xC_e, xL_e, xU_e, xB_e, xD_e, xF_e, xG_e, xA_e, xE_e, xH_e, xI_e, xZ_e, xK_e, aN_e, aC_e, cR_e, cV_e, cA_e, cO_e, cN_e, bs_e, bn_e, zg_0, zg_S, sS_e, sX_e, sF_e, sG_e, sA_e, sE_e, sEo_e, sK_e, sQ_e, sI_e, sR_e, sV_e, sB_e, sC_e, sD_e, sN_e, sP_e, sY_e, st_0, st_S, zc_0, zc_S, r_lt]
      rw [decide_eq_true this])
    (fun k τ hk1 hI => by
      obtain ⟨e, hr⟩ := hI
      have n2 := e 1 2 (by omega)
      have L' : zIL τ := zIL_c hL (e 1 0 (by omega)) (e 1 1 (by omega)) (e 1 2 (by omega)) (e 37 5 (by omega)) (e 37 6 (by omega))
      have H' : zIH τ := zIH_c hH (e 1 1 (by omega)) (e 1 2 (by omega)) (fun k => e 2 k (by omega)) (fun k => e 3 k (by omega)) (fun k => e 4 k (by omega)) (fun k => e 41 k (by omega))
      have B' : zIB τ := zIB_c hB (e 1 2 (by omega)) (fun k => e 2 k (by omega)) (fun k => e 5 k (by omega))
      have k7 := e 7 (k : Int) (by omega)
      have k8 := e 8 (k : Int) (by omega)
      obtain ⟨x1, x2⟩ := hb (k : Int) (by omega) (by omega)
      obtain ⟨υ, hv, et, hm⟩ := w_carry (σ := τ) (ρ := ρ) L' H' B' (by rw [r1, e 1 1 (by omega)]) (fun k => by rw [r2, e 2 k (by omega)]) (fun c hc => by rw [e 1 3 (by omega), n2]; exact hP c hc) (b := (k : Int)) (by omega) (by rw [k7]; exact x1) (by rw [k8, n2]; exact x2)
      refine ⟨0, [10, (k : Int)], υ, υ, ?_, Or.inl rfl, ?_, ?_, ?_⟩
      · simp [lf_X0_carryAll_1, xC_e, xL_e, xU_e, xB_e, xD_e, xF_e, xG_e, xA_e, xE_e, xH_e, xI_e, xZ_e, xK_e, aN_e, aC_e, cR_e, cV_e, cA_e, cO_e, cN_e, bs_e, bn_e, zg_0, zg_S, sS_e, sX_e, sF_e, sG_e, sA_e, sE_e, sEo_e, sK_e, sQ_e, sI_e, sR_e, sV_e, sB_e, sC_e, sD_e, sN_e, sP_e, sY_e, st_0, st_S, zc_0, zc_S, hv]
      · have e := zinc (k := k) (by omega)
        simp only [ls_X0_carryAll_1, xC_e, xL_e, xU_e, xB_e, xD_e, xF_e, xG_e, xA_e, xE_e, xH_e, xI_e, xZ_e, xK_e, aN_e, aC_e, cR_e, cV_e, cA_e, cO_e, cN_e, bs_e, bn_e, zg_0, zg_S, sS_e, sX_e, sF_e, sG_e, sA_e, sE_e, sEo_e, sK_e, sQ_e, sI_e, sR_e, sV_e, sB_e, sC_e, sD_e, sN_e, sP_e, sY_e, st_0, st_S, zc_0, zc_S, e]
      · intro x y hxy
        rw [et x y (by omega), e x y (by omega)]
      · intro b c b0 b1 c0 c1
        by_cases q : b = (k : Int)
        · subst q
          have := hm c c0 (by rw [n2]; exact c1)
          rw [k7, k8] at this
          exact this
        · rw [et 11 _ (by omega)]
          exact hr b c b0 (by omega) c0 c1)
    (fun τ hI => by
      have e := hI.1 6 0 (by omega)
      have : ¬ (((σ 6 0).toNat : Nat) : Int) < τ 6 0 := by omega
      simp only [lc_X0_carryAll_1, xC_e, xL_e, xU_e, xB_e, xD_e, xF_e, xG_e, xA_e, xE_e, xH_e, xI_e, xZ_e, xK_e, aN_e, aC_e, cR_e, cV_e, cA_e, cO_e, cN_e, bs_e, bn_e, zg_0, zg_S, sS_e, sX_e, sF_e, sG_e, sA_e, sE_e, sEo_e, sK_e, sQ_e, sI_e, sR_e, sV_e, sB_e, sC_e, sD_e, sN_e, sP_e, sY_e, st_0, st_S, zc_0, zc_S, r_lt]
      rw [decide_eq_false this])
    (zf_lt (by omega))
  obtain ⟨τ, hI, hl⟩ := hl
  rw [nn] at hI
  refine ⟨τ, ?_, hI⟩
  have hl2 : sW lc_X0_carryAll_1 lf_X0_carryAll_1 ls_X0_carryAll_1 [10, 0] σ = some (0, [10, (((σ 6 0).toNat : Nat) : Int)], τ) := hl
  simp [e_X0_carryAll, d_X0_carryAll, xC_e, xL_e, xU_e, xB_e, xD_e, xF_e, xG_e, xA_e, xE_e, xH_e, xI_e, xZ_e, xK_e, aN_e, aC_e, cR_e, cV_e, cA_e, cO_e, cN_e, bs_e, bn_e, zg_0, zg_S, sS_e, sX_e, sF_e, sG_e, sA_e, sE_e, sEo_e, sK_e, sQ_e, sI_e, sR_e, sV_e, sB_e, sC_e, sD_e, sN_e, sP_e, sY_e, st_0, st_S, zc_0, zc_S, hl2]
theorem zp2 : zp_2 zInv := by
  intro c is hcr his σ hI
  have h := hI
  obtain ⟨-, hF, hL, hH, hB, hP, hE, hN, hC, hR, hS⟩ := h
  have nN := zN_eq hL
  have ha : zOkA [0, 4] [c, is] := ⟨hcr, his, trivial⟩
  by_cases g1 : 0 ≤ c ∧ c < σ 1 2
  case neg =>
    have g1' : ¬ (0 ≤ c ∧ c < w32 (σ 37 5 * σ 37 6)) := by rw [nN.1]; exact g1
    refine zq k_X8_plant k_X9_plant hI ha (r := -1) (σ1 := σ) (σ2 := σ) ?_ ?_ (zSame.rf σ) (zSame.rf σ)
    · simp [e_X8_plant, d_X8_plant, xC_e, xL_e, xU_e, xB_e, xD_e, xF_e, xG_e, xA_e, xE_e, xH_e, xI_e, xZ_e, xK_e, aN_e, aC_e, cR_e, cV_e, cA_e, cO_e, cN_e, bs_e, bn_e, zg_0, zg_S, sS_e, sX_e, sF_e, sG_e, sA_e, sE_e, sEo_e, sK_e, sQ_e, sI_e, sR_e, sV_e, sB_e, sC_e, sD_e, sN_e, sP_e, sY_e, st_0, st_S, zc_0, zc_S, r_eq, r_ne, r_lt, r_le, r_gt, r_ge, rb_ite, rb_0, rb_1, w_isCell_f g1]
    · simp [e_X9_plant, d_X9_plant, xC_e, xL_e, xU_e, xB_e, xD_e, xF_e, xG_e, xA_e, xE_e, xH_e, xI_e, xZ_e, xK_e, aN_e, aC_e, cR_e, cV_e, cA_e, cO_e, cN_e, bs_e, bn_e, zg_0, zg_S, sS_e, sX_e, sF_e, sG_e, sA_e, sE_e, sEo_e, sK_e, sQ_e, sI_e, sR_e, sV_e, sB_e, sC_e, sD_e, sN_e, sP_e, sY_e, st_0, st_S, zc_0, zc_S, r_eq, r_ne, r_lt, r_le, r_gt, r_ge, rb_ite, rb_0, rb_1, v_isCell_f g1']
  have g1' : 0 ≤ c ∧ c < w32 (σ 37 5 * σ 37 6) := by rw [nN.1]; exact g1
  have c30 : 0 ≤ c ∧ c < 30 := by omega
  have pl := zPl hI.1 c g1.1
  have wp : m_X3_isPlanted [1, c] σ = some (σ 42 c, σ) := by
    rw [w_isPlanted hP nN.2.2 g1]
    rcases pl with p | p <;> rw [p] <;> rfl
  by_cases q : σ 42 c = is
  · refine zq k_X8_plant k_X9_plant hI ha (r := 0) (σ1 := σ) (σ2 := σ) ?_ ?_ (zSame.rf σ) (zSame.rf σ)
    · simp [e_X8_plant, d_X8_plant, xC_e, xL_e, xU_e, xB_e, xD_e, xF_e, xG_e, xA_e, xE_e, xH_e, xI_e, xZ_e, xK_e, aN_e, aC_e, cR_e, cV_e, cA_e, cO_e, cN_e, bs_e, bn_e, zg_0, zg_S, sS_e, sX_e, sF_e, sG_e, sA_e, sE_e, sEo_e, sK_e, sQ_e, sI_e, sR_e, sV_e, sB_e, sC_e, sD_e, sN_e, sP_e, sY_e, st_0, st_S, zc_0, zc_S, r_eq, r_ne, r_lt, r_le, r_gt, r_ge, rb_ite, rb_0, rb_1, w_isCell_t g1, wp, q]
    · have e : zput σ 42 c is = σ := by rw [← q, zput_id]
      simp [e_X9_plant, d_X9_plant, xC_e, xL_e, xU_e, xB_e, xD_e, xF_e, xG_e, xA_e, xE_e, xH_e, xI_e, xZ_e, xK_e, aN_e, aC_e, cR_e, cV_e, cA_e, cO_e, cN_e, bs_e, bn_e, zg_0, zg_S, sS_e, sX_e, sF_e, sG_e, sA_e, sE_e, sEo_e, sK_e, sQ_e, sI_e, sR_e, sV_e, sB_e, sC_e, sD_e, sN_e, sP_e, sY_e, st_0, st_S, zc_0, zc_S, r_eq, r_ne, r_lt, r_le, r_gt, r_ge, rb_ite, rb_0, rb_1, v_isCell_t g1', c30, q, e]
  generalize hx : zXor (σ 1 3) (zShl 1 c) = x
  generalize hσ : zput σ 1 3 x = σa
  have ea : ∀ a b, ¬ (a = 1 ∧ b = 3) → σa a b = σ a b := fun a b z => by rw [← hσ, zput_n z]
  have a13 : σa 1 3 = x := by rw [← hσ, zput_self]
  have hLa : zIL σa := zIL_c hL (ea 1 0 (by omega)) (ea 1 1 (by omega)) (ea 1 2 (by omega)) (ea 37 5 (by omega)) (ea 37 6 (by omega))
  have hHa : zIH σa := zIH_c hH (ea 1 1 (by omega)) (ea 1 2 (by omega)) (fun k => ea 2 k (by omega)) (fun k => ea 3 k (by omega)) (fun k => ea 4 k (by omega)) (fun k => ea 41 k (by omega))
  have hBa : zIB σa := zIB_c hB (ea 1 2 (by omega)) (fun k => ea 2 k (by omega)) (fun k => ea 5 k (by omega))
  have hPr : ∀ i : Nat, i < 32 → zt x i = decide ((i : Int) < σ 1 2 ∧ zput σ 42 c is 42 i = 1) := by
    intro i hi
    rw [← hx, zt_xor, zt_bit_i (by omega), hP i hi]
    by_cases ic : (i : Int) = c
    · rw [ic, zput_self, decide_eq_true (rfl : c = c)]
      have hc2 : c < σ 1 2 := g1.2
      rcases pl with p | p <;> rcases his with r | r
      · rw [p, r] at q; exact absurd rfl q
      · simp [p, r, hc2]
      · simp [p, r, hc2]
      · rw [p, r] at q; exact absurd rfl q
    · rw [zput_i ic, decide_eq_false ic, Bool.xor_false]
  obtain ⟨τ, ht, et, hr⟩ := w_carryAll (σ := σa) (ρ := zput σ 42 c is) hLa hHa hBa (by rw [zput_o (by decide), ea 1 1 (by omega)]) (fun k => by rw [zput_o (by decide), ea 2 k (by omega)]) (fun i hi => by rw [a13, ea 1 2 (by omega)]; exact hPr i hi) (by rw [ea 6 0 (by omega)]; exact ⟨hN.2.1, hN.2.2.1⟩) (fun b b0 b1 => by
    rw [ea 6 0 (by omega)] at b1
    rw [ea 7 b (by omega), ea 8 b (by omega), ea 1 2 (by omega)]
    obtain ⟨n1, n2, n3⟩ := hN.2.2.2 b b0 b1
    exact ⟨n1.2, n2.2⟩)
  have h1 : m_X8_plant [0, c, is] σ = some (1, τ) := by
    simp [e_X8_plant, d_X8_plant, xC_e, xL_e, xU_e, xB_e, xD_e, xF_e, xG_e, xA_e, xE_e, xH_e, xI_e, xZ_e, xK_e, aN_e, aC_e, cR_e, cV_e, cA_e, cO_e, cN_e, bs_e, bn_e, zg_0, zg_S, sS_e, sX_e, sF_e, sG_e, sA_e, sE_e, sEo_e, sK_e, sQ_e, sI_e, sR_e, sV_e, sB_e, sC_e, sD_e, sN_e, sP_e, sY_e, st_0, st_S, zc_0, zc_S, r_eq, r_ne, r_lt, r_le, r_gt, r_ge, rb_ite, rb_0, rb_1, w_isCell_t g1, wp, q, hx, hσ, ht]
  have t42 : ∀ k, τ 42 k = σ 42 k := fun k => by rw [et _ _ (by omega), ea _ _ (by omega)]
  have t37 : ∀ k, τ 37 k = σ 37 k := fun k => by rw [et _ _ (by omega), ea _ _ (by omega)]
  have h2 : m_X9_plant [37, c, is] τ = some (1, zput τ 42 c is) := by
    have g1'' : 0 ≤ c ∧ c < w32 (τ 37 5 * τ 37 6) := by rw [t37, t37]; exact g1'
    simp [e_X9_plant, d_X9_plant, xC_e, xL_e, xU_e, xB_e, xD_e, xF_e, xG_e, xA_e, xE_e, xH_e, xI_e, xZ_e, xK_e, aN_e, aC_e, cR_e, cV_e, cA_e, cO_e, cN_e, bs_e, bn_e, zg_0, zg_S, sS_e, sX_e, sF_e, sG_e, sA_e, sE_e, sEo_e, sK_e, sQ_e, sI_e, sR_e, sV_e, sB_e, sC_e, sD_e, sN_e, sP_e, sY_e, st_0, st_S, zc_0, zc_S, r_eq, r_ne, r_lt, r_le, r_gt, r_ge, rb_ite, rb_0, rb_1, v_isCell_t g1'', c30, t42, q]
  have o1 := zOk_of k_X8_plant hI.1 h1 ⟨zthis, ha⟩
  have o2 := zOk_of k_X9_plant o1 h2 ⟨zthat, ha⟩
  generalize hυ : zput τ 42 c is = υ at h2 o2
  have e : ∀ a b, a ≠ 42 → a ≠ 11 → ¬ (a = 1 ∧ b = 3) → υ a b = σ a b := fun a b q1 q2 q3 => by
    rw [← hυ, zput_o q1, et a b (by omega), ea a b q3]
  have u42 : ∀ k, υ 42 k = zput σ 42 c is 42 k := fun k => by
    rw [← hυ]
    by_cases z : k = c
    · rw [z, zput_self, zput_self]
    · rw [zput_i z, zput_i z, t42]
  refine ⟨_, _, _, h1, h2, ?_⟩
  have hP' : zIP υ := by
    intro i hi
    rw [e 1 2 (by omega) (by omega) (by omega), u42, ← hPr i hi, ← hυ, zput_o (by decide), et _ _ (by omega), a13]
  have hC' : zIC υ := by
    intro b k b0 b1 k0 k1
    rw [e 6 0 (by omega) (by omega) (by omega)] at b1
    rw [e 1 2 (by omega) (by omega) (by omega)] at k1
    have := hr b k b0 (by rw [ea 6 0 (by omega)]; exact b1) k0 (by rw [ea 1 2 (by omega)]; exact k1)
    rw [ea 7 b (by omega), ea 8 b (by omega)] at this
    have zd : ∀ kd f t, zDn υ kd f t = zDn (zput σ 42 c is) kd f t := zDn_eq (by rw [e 1 1 (by omega) (by omega) (by omega), zput_o (by decide)]) (fun k => by rw [e 2 k (by omega) (by omega) (by omega), zput_o (by decide)]) u42
    rw [e 7 b (by omega) (by omega) (by omega), e 8 b (by omega) (by omega) (by omega), zd, ← hυ, zput_o (by decide)]
    exact this
  refine ⟨o2, zIF_c hF ?_ ?_ ?_ ?_, zIL_c hL ?_ ?_ ?_ ?_ ?_, zIH_c hH ?_ ?_ ?_ ?_ ?_ ?_, zIB_c hB ?_ ?_ ?_, hP', zIE_c hE ?_ ?_, zIN_c hN ?_ ?_ ?_ ?_ ?_ ?_ ?_ ?_ ?_, hC', zIR_c hR ?_ ?_ ?_ ?_ ?_ ?_ ?_ ?_ ?_ ?_ ?_ ?_, zIS_c hS ?_ ?_ ?_ ?_⟩ <;> (intros; apply e <;> omega)
