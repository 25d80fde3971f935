/-! only the reference's mark of the loudest is another -/
def z22 (σ τ : zHp) : Prop := ∀ a b : Int, ¬ (a = 37 ∧ b = 22) → τ a b = σ a b
theorem z22.rf (σ : zHp) : z22 σ σ := fun _ _ _ => rfl
theorem z22.put {σ τ : zHp} (h : z22 σ τ) (v : Int) : z22 σ (zput τ 37 22 v) := fun a b hab => by rw [zput_n hab, h a b hab]
theorem z22.same {σ τ : zHp} (h : z22 σ τ) : zSame σ τ := fun a b hab => h a b (by rintro ⟨rfl, rfl⟩; simp [zfree] at hab)
theorem zRp_z {τ υ : zHp} {n C : Nat} {ea : Int} {W : Int → Int} {P Q : Int → Int → Int} (h : zRp τ n C ea W P Q) (hz : z22 τ υ) : zRp υ n C ea W P Q :=
  zRp_k h (hz 37 14 (by decide)) (hz 37 5 (by decide)) (hz 37 6 (by decide)) (hz 37 7 (by decide)) (fun k => hz 46 k (by omega)) (fun k => hz 47 k (by omega)) (fun k => hz 48 k (by omega))
/-- whether bell b is loudest and heard in a cell -/
def zRb (F : Int) (W : Int → Int) (G : Int → Int → Int) (n : Nat) (b : Int) (c : Nat) : Bool := decide (F ≤ zLd W G c (zMo (zLd W G c) n).2 ∧ zLd W G c b = zLd W G c (zMo (zLd W G c) n).2)
theorem zShl0 {c : Nat} (hc : c < 32) : zShl 0 (c : Int) = 0 := zt_ext (r32_shl _ _) r32_0 (fun i hi => by rw [zt_shl hc 0 hi, zbt0, zbt0, Bool.and_false])
theorem zLI_b {F : Int} {W : Int → Int} {G : Int → Int → Int} {n : Nat} (hn : n ≤ 31) {b : Int} (hb : 0 ≤ b ∧ b < n) (c : Nat) : zAnd (zShr (zLI F (zLd W G c) n).2 b) 1 = if zRb F W G n b c = true then 1 else 0 := by
  have b2 : ((b.toNat : Nat) : Int) = b := by omega
  rw [zbit_i (by omega), zLI_t F _ n (by omega), b2]
  unfold zRb
  generalize zMo (zLd W G c) n = r
  by_cases p : F ≤ zLd W G c r.2 ∧ zLd W G c b = zLd W G c r.2
  · rw [decide_eq_true p, decide_eq_true ⟨by omega, p.1, p.2⟩]
  · rw [decide_eq_false p, decide_eq_false (fun z => p z.2)]
theorem w_reBody {σ : zHp} {b w s k l x : Int} (h : m_X0_loudestIn [10, k] σ = some (l, σ)) (hx : zAnd (zShr l b) 1 = x) : lf_X8_reach_1 [0, b, w, s, k] σ = some (0, [0, b, w, zOr s (zShl x k), k], σ) := by
  simp [lf_X8_reach_1, xC_e, xL_e, xU_e, xB_e, xD_e, xF_e, xG_e, xA_e, xE_e, xH_e, xI_e, xZ_e, xK_e, aN_e, aC_e, cR_e, cV_e, cA_e, cO_e, cN_e, bs_e, bn_e, zg_0, zg_S, sS_e, sX_e, sF_e, sG_e, sA_e, sE_e, sEo_e, sK_e, sQ_e, sI_e, sR_e, sV_e, sB_e, sC_e, sD_e, sN_e, sP_e, sY_e, st_0, st_S, zc_0, zc_S, h, hx]
theorem v_reBody {υ τ : zHp} {b w s k : Int} {x : Bool} (h : m_X9_reaches [37, b, k] υ = some (if x = true then 1 else 0, τ)) : lf_X9_reach_1 [37, b, w, s, k] υ = some (0, [37, b, w, zOr s (if x = true then zShl 1 k else 0), k], τ) := by
  cases x <;> simp at h <;> simp [lf_X9_reach_1, xC_e, xL_e, xU_e, xB_e, xD_e, xF_e, xG_e, xA_e, xE_e, xH_e, xI_e, xZ_e, xK_e, aN_e, aC_e, cR_e, cV_e, cA_e, cO_e, cN_e, bs_e, bn_e, zg_0, zg_S, sS_e, sX_e, sF_e, sG_e, sA_e, sE_e, sEo_e, sK_e, sQ_e, sI_e, sR_e, sV_e, sB_e, sC_e, sD_e, sN_e, sP_e, sY_e, st_0, st_S, zc_0, zc_S, h, rb_0, rb_1]
theorem v_reB {τ : zHp} {n C : Nat} {K F ea : Int} {W : Int → Int} {P Q G : Int → Int → Int} (hR : zRp τ n C ea W P Q) (hP : zPc n C K F ea P Q G) (hW : zWt n W) {b : Int} (hb : 0 ≤ b ∧ b < n) {k : Nat} (hk : k < C) :
    m_X9_reaches [37, b, (k : Int)] τ = some (if zRb F W G n b k = true then 1 else 0, zput τ 37 22 (zMo (zLd W G k) n).2) := by
  rw [v_re hR hP hW hb (c := (k : Int)) (by omega)]
  unfold zRb
  simp only [decide_eq_true_eq]
theorem zp9 : zp_9 zInv := by
  intro b w hbr hwr σ hI
  have nN := zN_eq hI.2.2.1
  have hN := zI3 hI
  obtain ⟨nb1, nb2⟩ := zNb_e hI
  obtain ⟨nc1, nc2⟩ := zNc_e hI
  have ha : zOkA [0, 0] [b, w] := ⟨hbr, hwr, trivial⟩
  by_cases g1 : 0 ≤ b ∧ b < σ 6 0
  case neg =>
    have g1' : ¬ (0 ≤ b ∧ b < σ 37 14) := by rw [hN.1]; exact g1
    refine zq k_X8_reach k_X9_reach hI ha (r := -1) (σ1 := σ) (σ2 := σ) ?_ ?_ (zSame.rf σ) (zSame.rf σ)
    · simp [e_X8_reach, d_X8_reach, xC_e, xL_e, xU_e, xB_e, xD_e, xF_e, xG_e, xA_e, xE_e, xH_e, xI_e, xZ_e, xK_e, aN_e, aC_e, cR_e, cV_e, cA_e, cO_e, cN_e, bs_e, bn_e, zg_0, zg_S, sS_e, sX_e, sF_e, sG_e, sA_e, sE_e, sEo_e, sK_e, sQ_e, sI_e, sR_e, sV_e, sB_e, sC_e, sD_e, sN_e, sP_e, sY_e, st_0, st_S, zc_0, zc_S, r_eq, r_ne, r_lt, r_le, r_gt, r_ge, rb_ite, rb_0, rb_1, w_isBell_f g1]
    · simp [e_X9_reach, d_X9_reach, xC_e, xL_e, xU_e, xB_e, xD_e, xF_e, xG_e, xA_e, xE_e, xH_e, xI_e, xZ_e, xK_e, aN_e, aC_e, cR_e, cV_e, cA_e, cO_e, cN_e, bs_e, bn_e, zg_0, zg_S, sS_e, sX_e, sF_e, sG_e, sA_e, sE_e, sEo_e, sK_e, sQ_e, sI_e, sR_e, sV_e, sB_e, sC_e, sD_e, sN_e, sP_e, sY_e, st_0, st_S, zc_0, zc_S, r_eq, r_ne, r_lt, r_le, r_gt, r_ge, rb_ite, rb_0, rb_1, v_isBell_f g1']
  have g1' : 0 ≤ b ∧ b < σ 37 14 := by rw [hN.1]; exact g1
  by_cases g2 : 0 ≤ w ∧ w ≤ 39
  case neg =>
    refine zq k_X8_reach k_X9_reach hI ha (r := -2) (σ1 := σ) (σ2 := σ) ?_ ?_ (zSame.rf σ) (zSame.rf σ)
    · simp [e_X8_reach, d_X8_reach, xC_e, xL_e, xU_e, xB_e, xD_e, xF_e, xG_e, xA_e, xE_e, xH_e, xI_e, xZ_e, xK_e, aN_e, aC_e, cR_e, cV_e, cA_e, cO_e, cN_e, bs_e, bn_e, zg_0, zg_S, sS_e, sX_e, sF_e, sG_e, sA_e, sE_e, sEo_e, sK_e, sQ_e, sI_e, sR_e, sV_e, sB_e, sC_e, sD_e, sN_e, sP_e, sY_e, st_0, st_S, zc_0, zc_S, r_eq, r_ne, r_lt, r_le, r_gt, r_ge, rb_ite, rb_0, rb_1, w_isBell_t g1, w_isWind_f g2]
    · simp [e_X9_reach, d_X9_reach, xC_e, xL_e, xU_e, xB_e, xD_e, xF_e, xG_e, xA_e, xE_e, xH_e, xI_e, xZ_e, xK_e, aN_e, aC_e, cR_e, cV_e, cA_e, cO_e, cN_e, bs_e, bn_e, zg_0, zg_S, sS_e, sX_e, sF_e, sG_e, sA_e, sE_e, sEo_e, sK_e, sQ_e, sI_e, sR_e, sV_e, sB_e, sC_e, sD_e, sN_e, sP_e, sY_e, st_0, st_S, zc_0, zc_S, r_eq, r_ne, r_lt, r_le, r_gt, r_ge, rb_ite, rb_0, rb_1, v_isBell_t g1', v_isWind_f g2]
  obtain ⟨τ, t1, t2, t3⟩ := zBlow hI g2
  obtain ⟨υ, u1, u2, u3⟩ := zLay hI t2 g2
  have hW := zWt_I hI
  have hQ := zCq_I hI g2
  have hP := zPc_I hI g2
  have hb : 0 ≤ b ∧ b < (zNb σ : Int) := by omega
  have l1 := zforP (c := lc_X8_reach_1) (f := lf_X8_reach_1) (i := 4) (lo := 0) (σ := τ) (zNc σ) (fun k => [0, b, w, zSt2 (zRb (zFF σ w) (σ 9) (zGG σ w) (zNb σ) b) k, 0 + (k : Int)]) (fun k => rfl) (by decide) (by omega)
    (fun k hk => zc_lt (i := 4) (x := 0 + (k : Int)) rfl (zx_G (N := (zNc σ : Nat)) t3.2.1) (by omega))
    (fun k hk => by
      have li := w_li t3 hQ hW (c := (k : Int)) (by omega)
      have body := w_reBody (w := w) (s := zSt2 (zRb (zFF σ w) (σ 9) (zGG σ w) (zNb σ) b) k) li (zLI_b (by omega) hb k)
      rw [z0k, z0k]
      refine ⟨_, _, body, Or.inl rfl, rfl, ?_⟩
      show [0, b, w, _, _] = [0, b, w, zOr _ _, _]
      cases zRb (zFF σ w) (σ 9) (zGG σ w) (zNb σ) b k
      · simp only [Bool.false_eq_true, if_false, zShl0 (show k < 32 by omega)]
      · simp only [if_true])
  have l1b : sW lc_X8_reach_1 lf_X8_reach_1 ls_X8_reach_1 [0, b, w, 0, 0] τ = some (0, [0, b, w, zSt2 (zRb (zFF σ w) (σ 9) (zGG σ w) (zNb σ) b) (zNc σ), 0 + (zNc σ : Int)], τ) := l1
  obtain ⟨υ2, l2, z2⟩ := zfor0 (c := lc_X9_reach_1) (f := lf_X9_reach_1) (i := 4) (lo := 0) (σ := υ) (zNc σ) (fun k => [37, b, w, zSt2 (zRb (zFF σ w) (σ 9) (zGG σ w) (zNb σ) b) k, 0 + (k : Int)]) (fun k x => z22 υ x) (z22.rf υ) (fun k => rfl) (by decide) (by omega)
    (fun k x hk hx => zc_lt (i := 4) (x := 0 + (k : Int)) rfl (zx_all (zRp_z u3 hx).2.1) (by omega))
    (fun k x hk hx => by
      have body := v_reBody (w := w) (s := zSt2 (zRb (zFF σ w) (σ 9) (zGG σ w) (zNb σ) b) k) (v_reB (zRp_z u3 hx) hP hW hb hk)
      rw [z0k, z0k]
      exact ⟨_, _, _, body, Or.inl rfl, rfl, rfl, hx.put _⟩)
  have l2b : sW lc_X9_reach_1 lf_X9_reach_1 ls_X9_reach_1 [37, b, w, 0, 0] υ = some (0, [37, b, w, zSt2 (zRb (zFF σ w) (σ 9) (zGG σ w) (zNb σ) b) (zNc σ), 0 + (zNc σ : Int)], υ2) := l2
  refine zq k_X8_reach k_X9_reach hI ha (r := zSt2 (zRb (zFF σ w) (σ 9) (zGG σ w) (zNb σ) b) (zNc σ)) (σ1 := τ) (σ2 := υ2) ?_ ?_ t2 (u2.tr z2.same)
  · simp [e_X8_reach, d_X8_reach, xC_e, xL_e, xU_e, xB_e, xD_e, xF_e, xG_e, xA_e, xE_e, xH_e, xI_e, xZ_e, xK_e, aN_e, aC_e, cR_e, cV_e, cA_e, cO_e, cN_e, bs_e, bn_e, zg_0, zg_S, sS_e, sX_e, sF_e, sG_e, sA_e, sE_e, sEo_e, sK_e, sQ_e, sI_e, sR_e, sV_e, sB_e, sC_e, sD_e, sN_e, sP_e, sY_e, st_0, st_S, zc_0, zc_S, r_eq, r_ne, r_lt, r_le, r_gt, r_ge, rb_ite, rb_0, rb_1, w_isBell_t g1, w_isWind_t g2, t1, l1b]
  · have g1'' : 0 ≤ b ∧ b < τ 37 14 := by rw [t2 37 14 rfl]; exact g1'
    simp [e_X9_reach, d_X9_reach, xC_e, xL_e, xU_e, xB_e, xD_e, xF_e, xG_e, xA_e, xE_e, xH_e, xI_e, xZ_e, xK_e, aN_e, aC_e, cR_e, cV_e, cA_e, cO_e, cN_e, bs_e, bn_e, zg_0, zg_S, sS_e, sX_e, sF_e, sG_e, sA_e, sE_e, sEo_e, sK_e, sQ_e, sI_e, sR_e, sV_e, sB_e, sC_e, sD_e, sN_e, sP_e, sY_e, st_0, st_S, zc_0, zc_S, r_eq, r_ne, r_lt, r_le, r_gt, r_ge, rb_ite, rb_0, rb_1, v_isBell_t g1'', v_isWind_t g2, u1, l2b]
