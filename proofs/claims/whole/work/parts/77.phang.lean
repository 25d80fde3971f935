theorem zLd_c {W W2 : Int → Int} {G G2 : Int → Int → Int} {c x : Int} (h1 : W x = W2 x) (h2 : G x c = G2 x c) : zLd W G c x = zLd W2 G2 c x := by
  unfold zLd
  rw [h1, h2]
/-- the rows with one more -/
def zNw (n : Nat) (X : Int → Int → Int) (Y : Int → Int) : Int → Int → Int := fun b c => if b = (n : Int) then Y c else X b c
theorem zNw_n (n : Nat) (X : Int → Int → Int) (Y : Int → Int) (c : Int) : zNw n X Y n c = Y c := if_pos rfl
theorem zNw_o {n : Nat} {X : Int → Int → Int} {Y : Int → Int} {b c : Int} (h : b ≠ (n : Int)) : zNw n X Y b c = X b c := if_neg h
theorem w_hgEval {σ τ τ2 : zHp} {kd he w q be mo k : Int} (g1 : 0 ≤ kd ∧ kd ≤ 2) (g2 : 1 ≤ he ∧ he ≤ 99) (g3 : 0 ≤ w ∧ w ≤ 39) (g4 : 0 ≤ q ∧ q ≤ 1) (g5 : σ 1 2 ≠ 0) (g6 : ¬ σ 6 0 ≥ 6) (h1 : m_X0_blow [10, w] σ = some (0, τ)) (h2 : m_X0_setBars [10, 9, -1] τ = some (0, τ2)) (hl : sW lc_X8_hang_1 lf_X8_hang_1 ls_X8_hang_1 [0, kd, he, w, q, 0, -1, 0, 0] τ2 = some (0, [0, kd, he, w, q, be, mo, k, 0], τ2)) : m_X8_hang [0, kd, he, w, q] σ = some (if q = 0 then be else mo, τ2) := by
  have g7 : ¬ 6 ≤ σ 6 0 := g6
  rcases (show q = 0 ∨ q = 1 by omega) with rfl | rfl <;> simp [e_X8_hang, d_X8_hang, xC_e, xL_e, xU_e, xB_e, xD_e, xF_e, xG_e, xA_e, xE_e, xH_e, xI_e, xZ_e, xK_e, aN_e, aC_e, cR_e, cV_e, cA_e, cO_e, cN_e, bs_e, bn_e, zg_0, zg_S, sS_e, sX_e, sF_e, sG_e, sA_e, sE_e, sEo_e, sK_e, sQ_e, sI_e, sR_e, sV_e, sB_e, sC_e, sD_e, sN_e, sP_e, sY_e, st_0, st_S, zc_0, zc_S, r_eq, r_ne, r_lt, r_le, r_gt, r_ge, rb_ite, rb_0, rb_1, w_isKind_t g1, w_isWeight_t g2, w_isWind_t g3, w_isOneOfTwo_t g4, g5, g7, h1, h2, hl]
theorem v_hgEval {σ τ τ2 : zHp} {kd he w q be mo k n C : Int} (g1 : 0 ≤ kd ∧ kd ≤ 2) (g2 : 1 ≤ he ∧ he ≤ 99) (g3 : 0 ≤ w ∧ w ≤ 39) (g4 : 0 ≤ q ∧ q ≤ 1) (g5 : w32 (σ 37 5 * σ 37 6) = C) (g8 : C ≠ 0) (g6 : σ 37 14 ≠ 6) (h1 : m_X9_layLoud [37, w] σ = some (0, τ)) (hn : τ 37 14 = n) (n6 : 0 ≤ n ∧ n < 6)
    (hl : sW lc_X9_hang_1 lf_X9_hang_1 ls_X9_hang_1 [37, kd, he, w, q, n, 0, -1, 0, 0] (zput (zput (zput τ 44 n kd) 46 n he) 37 14 (n + 1)) = some (0, [37, kd, he, w, q, n, be, mo, k, 0], τ2)) (hn2 : τ2 37 14 = n + 1) : m_X9_hang [37, kd, he, w, q] σ = some (if q = 0 then be else mo, zput τ2 37 14 n) := by
  have n7 : 0 ≤ n ∧ n < 7 := by omega
  have e1 : o_iadd n 1 = n + 1 := w32_id ⟨by omega, by omega⟩
  have e2 : o_isub (n + 1) 1 = n := by
    have : o_isub (n + 1) 1 = n + 1 - 1 := w32_id ⟨by omega, by omega⟩
    omega
  have e3 : ∀ x, zput τ 44 n x 37 14 = n := fun x => by rw [zput_o (by decide)]; exact hn
  have e4 : ∀ x y, zput (zput τ 44 n x) 46 n y 37 14 = n := fun x y => by rw [zput_o (by decide)]; exact e3 x
  rcases (show q = 0 ∨ q = 1 by omega) with rfl | rfl <;> simp [e_X9_hang, d_X9_hang, xC_e, xL_e, xU_e, xB_e, xD_e, xF_e, xG_e, xA_e, xE_e, xH_e, xI_e, xZ_e, xK_e, aN_e, aC_e, cR_e, cV_e, cA_e, cO_e, cN_e, bs_e, bn_e, zg_0, zg_S, sS_e, sX_e, sF_e, sG_e, sA_e, sE_e, sEo_e, sK_e, sQ_e, sI_e, sR_e, sV_e, sB_e, sC_e, sD_e, sN_e, sP_e, sY_e, st_0, st_S, zc_0, zc_S, r_eq, r_ne, r_lt, r_le, r_gt, r_ge, rb_ite, rb_0, rb_1, v_within_t g1, v_isWeight_t g2, v_isWind_t g3, v_within_t g4, v_all, g5, g8, g6, h1, hn, n7, e1, e3, e4, hl, hn2, e2]
/-- what a try leaves as it was -/
def zHx (σ τ : zHp) (n : Int) : Prop := ∀ a b : Int, ¬ (a = 37 ∧ (b = 18 ∨ b = 19 ∨ b = 22)) → ¬ (a = 45 ∧ b = n) → ¬ ((a = 47 ∨ a = 48) ∧ 30 * n ≤ b) → τ a b = σ a b
theorem zp13 : zp_13 zInv := by
  intro kd he w q hkr hhr hwr hqr σ hI
  have nN := zN_eq hI.2.2.1
  have hN := zI3 hI
  obtain ⟨nb1, nb2⟩ := zNb_e hI
  obtain ⟨nc1, nc2⟩ := zNc_e hI
  have ha : zOkA [0, 0, 0, 0] [kd, he, w, q] := ⟨hkr, hhr, hwr, hqr, trivial⟩
  by_cases g : (0 ≤ kd ∧ kd ≤ 2) ∧ (1 ≤ he ∧ he ≤ 99) ∧ (0 ≤ w ∧ w ≤ 39) ∧ (0 ≤ q ∧ q ≤ 1)
  case neg =>
    refine zq k_X8_hang k_X9_hang hI ha (r := -2) (σ1 := σ) (σ2 := σ) ?_ ?_ (zSame.rf σ) (zSame.rf σ)
    · by_cases g1 : 0 ≤ kd ∧ kd ≤ 2
      · by_cases g2 : 1 ≤ he ∧ he ≤ 99
        · by_cases g3 : 0 ≤ w ∧ w ≤ 39
          · have g4 : ¬ (0 ≤ q ∧ q ≤ 1) := fun z => g ⟨g1, g2, g3, z⟩
            simp [e_X8_hang, d_X8_hang, xC_e, xL_e, xU_e, xB_e, xD_e, xF_e, xG_e, xA_e, xE_e, xH_e, xI_e, xZ_e, xK_e, aN_e, aC_e, cR_e, cV_e, cA_e, cO_e, cN_e, bs_e, bn_e, zg_0, zg_S, sS_e, sX_e, sF_e, sG_e, sA_e, sE_e, sEo_e, sK_e, sQ_e, sI_e, sR_e, sV_e, sB_e, sC_e, sD_e, sN_e, sP_e, sY_e, st_0, st_S, zc_0, zc_S, r_eq, r_ne, r_lt, r_le, r_gt, r_ge, rb_ite, rb_0, rb_1, w_isKind_t g1, w_isWeight_t g2, w_isWind_t g3, w_isOneOfTwo_f g4]
          · simp [e_X8_hang, d_X8_hang, xC_e, xL_e, xU_e, xB_e, xD_e, xF_e, xG_e, xA_e, xE_e, xH_e, xI_e, xZ_e, xK_e, aN_e, aC_e, cR_e, cV_e, cA_e, cO_e, cN_e, bs_e, bn_e, zg_0, zg_S, sS_e, sX_e, sF_e, sG_e, sA_e, sE_e, sEo_e, sK_e, sQ_e, sI_e, sR_e, sV_e, sB_e, sC_e, sD_e, sN_e, sP_e, sY_e, st_0, st_S, zc_0, zc_S, r_eq, r_ne, r_lt, r_le, r_gt, r_ge, rb_ite, rb_0, rb_1, w_isKind_t g1, w_isWeight_t g2, w_isWind_f g3]
        · simp [e_X8_hang, d_X8_hang, xC_e, xL_e, xU_e, xB_e, xD_e, xF_e, xG_e, xA_e, xE_e, xH_e, xI_e, xZ_e, xK_e, aN_e, aC_e, cR_e, cV_e, cA_e, cO_e, cN_e, bs_e, bn_e, zg_0, zg_S, sS_e, sX_e, sF_e, sG_e, sA_e, sE_e, sEo_e, sK_e, sQ_e, sI_e, sR_e, sV_e, sB_e, sC_e, sD_e, sN_e, sP_e, sY_e, st_0, st_S, zc_0, zc_S, r_eq, r_ne, r_lt, r_le, r_gt, r_ge, rb_ite, rb_0, rb_1, w_isKind_t g1, w_isWeight_f g2]
      · simp [e_X8_hang, d_X8_hang, xC_e, xL_e, xU_e, xB_e, xD_e, xF_e, xG_e, xA_e, xE_e, xH_e, xI_e, xZ_e, xK_e, aN_e, aC_e, cR_e, cV_e, cA_e, cO_e, cN_e, bs_e, bn_e, zg_0, zg_S, sS_e, sX_e, sF_e, sG_e, sA_e, sE_e, sEo_e, sK_e, sQ_e, sI_e, sR_e, sV_e, sB_e, sC_e, sD_e, sN_e, sP_e, sY_e, st_0, st_S, zc_0, zc_S, r_eq, r_ne, r_lt, r_le, r_gt, r_ge, rb_ite, rb_0, rb_1, w_isKind_f g1]
    · by_cases g1 : 0 ≤ kd ∧ kd ≤ 2
      · by_cases g2 : 1 ≤ he ∧ he ≤ 99
        · by_cases g3 : 0 ≤ w ∧ w ≤ 39
          · have g4 : ¬ (0 ≤ q ∧ q ≤ 1) := fun z => g ⟨g1, g2, g3, z⟩
            simp [e_X9_hang, d_X9_hang, xC_e, xL_e, xU_e, xB_e, xD_e, xF_e, xG_e, xA_e, xE_e, xH_e, xI_e, xZ_e, xK_e, aN_e, aC_e, cR_e, cV_e, cA_e, cO_e, cN_e, bs_e, bn_e, zg_0, zg_S, sS_e, sX_e, sF_e, sG_e, sA_e, sE_e, sEo_e, sK_e, sQ_e, sI_e, sR_e, sV_e, sB_e, sC_e, sD_e, sN_e, sP_e, sY_e, st_0, st_S, zc_0, zc_S, r_eq, r_ne, r_lt, r_le, r_gt, r_ge, rb_ite, rb_0, rb_1, v_within_t g1, v_isWeight_t g2, v_isWind_t g3, v_within_f g4]
          · simp [e_X9_hang, d_X9_hang, xC_e, xL_e, xU_e, xB_e, xD_e, xF_e, xG_e, xA_e, xE_e, xH_e, xI_e, xZ_e, xK_e, aN_e, aC_e, cR_e, cV_e, cA_e, cO_e, cN_e, bs_e, bn_e, zg_0, zg_S, sS_e, sX_e, sF_e, sG_e, sA_e, sE_e, sEo_e, sK_e, sQ_e, sI_e, sR_e, sV_e, sB_e, sC_e, sD_e, sN_e, sP_e, sY_e, st_0, st_S, zc_0, zc_S, r_eq, r_ne, r_lt, r_le, r_gt, r_ge, rb_ite, rb_0, rb_1, v_within_t g1, v_isWeight_t g2, v_isWind_f g3]
        · simp [e_X9_hang, d_X9_hang, xC_e, xL_e, xU_e, xB_e, xD_e, xF_e, xG_e, xA_e, xE_e, xH_e, xI_e, xZ_e, xK_e, aN_e, aC_e, cR_e, cV_e, cA_e, cO_e, cN_e, bs_e, bn_e, zg_0, zg_S, sS_e, sX_e, sF_e, sG_e, sA_e, sE_e, sEo_e, sK_e, sQ_e, sI_e, sR_e, sV_e, sB_e, sC_e, sD_e, sN_e, sP_e, sY_e, st_0, st_S, zc_0, zc_S, r_eq, r_ne, r_lt, r_le, r_gt, r_ge, rb_ite, rb_0, rb_1, v_within_t g1, v_isWeight_f g2]
      · simp [e_X9_hang, d_X9_hang, xC_e, xL_e, xU_e, xB_e, xD_e, xF_e, xG_e, xA_e, xE_e, xH_e, xI_e, xZ_e, xK_e, aN_e, aC_e, cR_e, cV_e, cA_e, cO_e, cN_e, bs_e, bn_e, zg_0, zg_S, sS_e, sX_e, sF_e, sG_e, sA_e, sE_e, sEo_e, sK_e, sQ_e, sI_e, sR_e, sV_e, sB_e, sC_e, sD_e, sN_e, sP_e, sY_e, st_0, st_S, zc_0, zc_S, r_eq, r_ne, r_lt, r_le, r_gt, r_ge, rb_ite, rb_0, rb_1, v_within_f g1]
  obtain ⟨g1, g2, g3, g4⟩ := g
  by_cases g5 : σ 1 2 = 0
  case pos =>
    refine zq k_X8_hang k_X9_hang hI ha (r := -3) (σ1 := σ) (σ2 := σ) ?_ ?_ (zSame.rf σ) (zSame.rf σ)
    · simp [e_X8_hang, d_X8_hang, xC_e, xL_e, xU_e, xB_e, xD_e, xF_e, xG_e, xA_e, xE_e, xH_e, xI_e, xZ_e, xK_e, aN_e, aC_e, cR_e, cV_e, cA_e, cO_e, cN_e, bs_e, bn_e, zg_0, zg_S, sS_e, sX_e, sF_e, sG_e, sA_e, sE_e, sEo_e, sK_e, sQ_e, sI_e, sR_e, sV_e, sB_e, sC_e, sD_e, sN_e, sP_e, sY_e, st_0, st_S, zc_0, zc_S, r_eq, r_ne, r_lt, r_le, r_gt, r_ge, rb_ite, rb_0, rb_1, w_isKind_t g1, w_isWeight_t g2, w_isWind_t g3, w_isOneOfTwo_t g4, g5]
    · simp [e_X9_hang, d_X9_hang, xC_e, xL_e, xU_e, xB_e, xD_e, xF_e, xG_e, xA_e, xE_e, xH_e, xI_e, xZ_e, xK_e, aN_e, aC_e, cR_e, cV_e, cA_e, cO_e, cN_e, bs_e, bn_e, zg_0, zg_S, sS_e, sX_e, sF_e, sG_e, sA_e, sE_e, sEo_e, sK_e, sQ_e, sI_e, sR_e, sV_e, sB_e, sC_e, sD_e, sN_e, sP_e, sY_e, st_0, st_S, zc_0, zc_S, r_eq, r_ne, r_lt, r_le, r_gt, r_ge, rb_ite, rb_0, rb_1, v_within_t g1, v_isWeight_t g2, v_isWind_t g3, v_within_t g4, v_all, nN.1, g5]
  by_cases g6 : σ 6 0 ≥ 6
  case pos =>
    have g7 : 6 ≤ σ 6 0 := g6
    have g8 : σ 37 14 = 6 := by rw [hN.1]; omega
    refine zq k_X8_hang k_X9_hang hI ha (r := -4) (σ1 := σ) (σ2 := σ) ?_ ?_ (zSame.rf σ) (zSame.rf σ)
    · simp [e_X8_hang, d_X8_hang, xC_e, xL_e, xU_e, xB_e, xD_e, xF_e, xG_e, xA_e, xE_e, xH_e, xI_e, xZ_e, xK_e, aN_e, aC_e, cR_e, cV_e, cA_e, cO_e, cN_e, bs_e, bn_e, zg_0, zg_S, sS_e, sX_e, sF_e, sG_e, sA_e, sE_e, sEo_e, sK_e, sQ_e, sI_e, sR_e, sV_e, sB_e, sC_e, sD_e, sN_e, sP_e, sY_e, st_0, st_S, zc_0, zc_S, r_eq, r_ne, r_lt, r_le, r_gt, r_ge, rb_ite, rb_0, rb_1, w_isKind_t g1, w_isWeight_t g2, w_isWind_t g3, w_isOneOfTwo_t g4, g5, g7]
    · simp [e_X9_hang, d_X9_hang, xC_e, xL_e, xU_e, xB_e, xD_e, xF_e, xG_e, xA_e, xE_e, xH_e, xI_e, xZ_e, xK_e, aN_e, aC_e, cR_e, cV_e, cA_e, cO_e, cN_e, bs_e, bn_e, zg_0, zg_S, sS_e, sX_e, sF_e, sG_e, sA_e, sE_e, sEo_e, sK_e, sQ_e, sI_e, sR_e, sV_e, sB_e, sC_e, sD_e, sN_e, sP_e, sY_e, st_0, st_S, zc_0, zc_S, r_eq, r_ne, r_lt, r_le, r_gt, r_ge, rb_ite, rb_0, rb_1, v_within_t g1, v_isWeight_t g2, v_isWind_t g3, v_within_t g4, v_all, nN.1, g5, g8]
  obtain ⟨τ, t1, t2, t3⟩ := zBlow hI g3
  have hW := zWt_I hI
  have hQ := zCq_I hI g3
  have hP := zPc_I hI g3
  obtain ⟨τ2, s1, s2, s3⟩ := w_sb t3 hQ (o := 9) (by decide) t3.2.2.2.1 hW (-1)
  have sm2 : zSame σ τ2 := fun a b hab => by
    rw [s2 a b (by rintro rfl; simp [zfree] at hab), t2 a b hab]
  -- the spec
  generalize hf : (fun k : Nat => (((zcn (fun c : Nat => decide (zBr (zFF σ w) (zLd (σ 9) (zGG σ w) c) (-1) (-1) (zNb σ) < he * zGn σ kd k c w)) (zNc σ) : Nat)) : Int)) = f
  have hfe : ∀ k : Nat, (((zcn (fun c : Nat => decide (zBr (zFF σ w) (zLd (σ 9) (zGG σ w) c) (-1) (-1) (zNb σ) < he * zGn σ kd k c w)) (zNc σ) : Nat)) : Int) = f k := fun k => congrFun hf k
  have l1 := zforP (c := lc_X8_hang_1) (f := lf_X8_hang_1) (i := 7) (lo := 0) (σ := τ2) (zNc σ) (fun k => [0, kd, he, w, q, (zHg f k).1, (zHg f k).2, 0 + (k : Int), 0]) (fun k => rfl) (by decide) (by omega)
    (fun k hk => zc_lt (i := 7) (x := 0 + (k : Int)) rfl (zx_G (N := (zNc σ : Nat)) (by rw [s2 1 2 (by decide)]; exact t3.2.1)) (by omega))
    (fun k hk => by
      have on := w_on hI sm2 (B := fun c => zBr (zFF σ w) (zLd (σ 9) (zGG σ w) c) (-1) (-1) (zNb σ)) s3 (f := (k : Int)) (kd := kd) (he := he) (w := w) (by omega) g1 g2 g3
      rw [hfe] at on
      have body := w_hgBody (q := q) (be := (zHg f k).1) (mo := (zHg f k).2) on
      rw [z0k, z0k]
      refine ⟨_, _, body, Or.inl rfl, ?_, ?_⟩
      · split <;> rfl
      · show _ = [0, kd, he, w, q, (if _ then _ else _ : Int × Int).1, (if _ then _ else _ : Int × Int).2, _, 0]
        split <;> rfl)
  have l1b : sW lc_X8_hang_1 lf_X8_hang_1 ls_X8_hang_1 [0, kd, he, w, q, 0, -1, 0, 0] τ2 = some (0, [0, kd, he, w, q, (zHg f (zNc σ)).1, (zHg f (zNc σ)).2, 0 + (zNc σ : Int), 0], τ2) := l1
  have h1 := w_hgEval g1 g2 g3 g4 g5 g6 t1 s1 l1b
  -- the reference
  obtain ⟨υ, u1, u2, u3⟩ := zLay hI sm2 g3
  have smυ : zSame σ υ := sm2.tr u2
  generalize hn : zNb σ = n at *
  have n6 : n < 6 := by omega
  generalize hX : zput (zput (zput υ 44 n kd) 46 n he) 37 14 ((n : Int) + 1) = X at *
  have eX : ∀ a b : Int, ¬ (a = 44 ∧ b = n) → ¬ (a = 46 ∧ b = n) → ¬ (a = 37 ∧ b = 14) → X a b = υ a b := fun a b z1 z2 z3 => by rw [← hX, zput_n z3, zput_n z2, zput_n z1]
  have X44 : X 44 n = kd := by rw [← hX, zput_o (by decide), zput_o (by decide), zput_self]
  have X46 : X 46 n = he := by rw [← hX, zput_o (by decide), zput_self]
  have X14 : X 37 14 = (n : Int) + 1 := by rw [← hX, zput_self]
  obtain ⟨Z, l2, z2⟩ := zfor0 (c := lc_X9_hang_1) (f := lf_X9_hang_1) (i := 8) (lo := 0) (σ := X) (zNc σ) (fun k => [37, kd, he, w, q, (n : Int), (zHg f k).1, (zHg f k).2, 0 + (k : Int), 0]) (fun k x => zHx X x n) (fun _ _ _ _ _ => rfl) (fun k => rfl) (by decide) (by omega)
    (fun k x hk hx => zc_lt (i := 8) (x := 0 + (k : Int)) rfl (zx_all (C := (zNc σ : Nat)) (by rw [hx 37 5 (by omega) (by omega) (by omega), hx 37 6 (by omega) (by omega) (by omega), eX 37 5 (by omega) (by omega) (by omega), eX 37 6 (by omega) (by omega) (by omega)]; exact u3.2.1)) (by omega))
    (fun k x hk hx => by
      have ex : ∀ a b : Int, ¬ (a = 37 ∧ (b = 14 ∨ b = 18 ∨ b = 19 ∨ b = 22)) → ¬ ((a = 44 ∨ a = 45 ∨ a = 46) ∧ b = n) → ¬ (a = 47 ∨ a = 48) → zfree a b = false → x a b = σ a b := fun a b z1 z2 z3 z4 => by
        rw [hx a b (by omega) (by omega) (by omega), eX a b (by omega) (by omega) (by omega), smυ a b z4]
      generalize hY : zput x 45 n (k : Int) = Y
      have eY : ∀ a b : Int, ¬ (a = 45 ∧ b = n) → Y a b = x a b := fun a b z => by rw [← hY, zput_n z]
      have eY2 : ∀ a b : Int, ¬ (a = 37 ∧ (b = 14 ∨ b = 18 ∨ b = 19 ∨ b = 22)) → ¬ ((a = 44 ∨ a = 45 ∨ a = 46) ∧ b = n) → ¬ (a = 47 ∨ a = 48) → zfree a b = false → Y a b = σ a b := fun a b z1 z2 z3 z4 => by
        rw [eY a b (by omega), ex a b z1 z2 z3 z4]
      have Y45 : Y 45 n = k := by rw [← hY, zput_self]
      have Y44 : Y 44 n = kd := by rw [eY _ _ (by omega), hx _ _ (by omega) (by omega) (by omega), X44]
      have LY : zIL Y := zIL_c hI.2.2.1 (eY2 1 0 (by omega) (by omega) (by omega) rfl) (eY2 1 1 (by omega) (by omega) (by omega) rfl) (eY2 1 2 (by omega) (by omega) (by omega) rfl) (eY2 37 5 (by omega) (by omega) (by omega) rfl) (eY2 37 6 (by omega) (by omega) (by omega) rfl)
      have HY : zIH Y := zIH_c hI.2.2.2.1 (eY2 1 1 (by omega) (by omega) (by omega) rfl) (eY2 1 2 (by omega) (by omega) (by omega) rfl) (fun k => eY2 2 k (by omega) (by omega) (by omega) rfl) (fun k => eY2 3 k (by omega) (by omega) (by omega) rfl) (fun k => eY2 4 k (by omega) (by omega) (by omega) rfl) (fun k => eY2 41 k (by omega) (by omega) (by omega) rfl)
      have Y12 : Y 1 2 = σ 1 2 := eY2 1 2 (by omega) (by omega) (by omega) rfl
      obtain ⟨V, v1, v2, v3⟩ := v_layOne LY HY (fun k hk => by rw [eY2 42 k (by omega) (by omega) (by omega) rfl]; exact zPl hI.1 k hk) (b := (n : Int)) (w := w) (by omega) (by rw [Y45, Y12]; omega) g3
      have eV : ∀ a b : Int, ¬ (a = 37 ∧ (b = 14 ∨ b = 18 ∨ b = 19 ∨ b = 22)) → ¬ ((a = 44 ∨ a = 45 ∨ a = 46) ∧ b = n) → ¬ (a = 47 ∨ a = 48) → zfree a b = false → V a b = σ a b := fun a b z1 z2 z3 z4 => by
        rw [v2 a b (by omega) (by omega), eY2 a b z1 z2 z3 z4]
      have hR : zRp V (n + 1) (zNc σ) (σ 10 2) (zWs (σ 9) n he) (zNw n (zPP σ w) (fun c => zPu σ kd k c w)) (zNw n (zQQ σ w) (fun c => zQd σ kd k c w)) := by
        refine ⟨?_, ?_, ?_, fun b b0 b1 => ?_, fun b c b0 b1 c0 c1 => ?_⟩
        · rw [v2 37 14 (by omega) (by omega), eY 37 14 (by omega), hx 37 14 (by omega) (by omega) (by omega), X14]
          rfl
        · rw [eV 37 5 (by omega) (by omega) (by omega) rfl, eV 37 6 (by omega) (by omega) (by omega) rfl, nN.1, nc1]
        · rw [eV 37 7 (by omega) (by omega) (by omega) rfl, hI.2.2.2.2.2.2.1.1]
        · by_cases z : b = (n : Int)
          · rw [z, zWs_b, v2 46 n (by omega) (by omega), eY 46 n (by omega), hx 46 n (by omega) (by omega) (by omega), X46]
          · rw [zWs_n z, eV 46 b (by omega) (by omega) (by omega) rfl, (hN.2.2.2 b b0 (by omega)).2.2.1]
        · by_cases z : b = (n : Int)
          · subst z
            rw [zNw_n, zNw_n]
            have := v3 c c0 (by rw [Y12]; omega)
            rw [Y44, Y45, zPu_eq (eY2 1 1 (by omega) (by omega) (by omega) rfl), zQd_eq (eY2 1 1 (by omega) (by omega) (by omega) rfl) (fun k => eY2 2 k (by omega) (by omega) (by omega) rfl) (fun k => eY2 42 k (by omega) (by omega) (by omega) rfl)] at this
            exact this
          · rw [zNw_o z, zNw_o z, v2 47 _ (by omega) (by omega), v2 48 _ (by omega) (by omega), eY _ _ (by omega), eY _ _ (by omega), hx 47 _ (by omega) (by omega) (by omega), hx 48 _ (by omega) (by omega) (by omega), eX _ _ (by omega) (by omega) (by omega), eX _ _ (by omega) (by omega) (by omega)]
            exact u3.2.2.2.2 b c b0 (by omega) c0 c1
      have gnk : ∀ c : Int, 0 ≤ c → c < σ 1 2 → (1 ≤ zGn σ kd k c w ∧ zGn σ kd k c w ≤ 21508378785653760) ∧ zGn σ kd k c w * zQd σ kd k c w = zKK w * zPu σ kd k c w := fun c c0 c1 => by
        have hfk : 0 ≤ (k : Int) ∧ (k : Int) < σ 1 2 := by omega
        have L' := zIL_s hI.2.2.1 (zSame.rf σ)
        obtain ⟨v, -, vv⟩ := w_calmUnit_r (σ := σ) (ρ := σ) hI.2.2.1 hI.2.2.2.1 hI.2.2.2.2.1 rfl (fun _ => rfl) (fun c hc => hI.2.2.2.2.2.1 c hc) g1 hfk ⟨c0, c1⟩
        rw [zGn_v (zDn_1 hI.2.2.1 hfk ⟨c0, c1⟩) vv]
        exact ⟨zGr_b (zCalm_b hI.2.2.1 hfk ⟨c0, c1⟩ vv) g3, zGr_e vv⟩
      have hP2 : zPc (n + 1) (zNc σ) (zKK w) (zFF σ w) (σ 10 2) (zNw n (zPP σ w) (fun c => zPu σ kd k c w)) (zNw n (zQQ σ w) (fun c => zQd σ kd k c w)) (zNw n (zGG σ w) (fun c => zGn σ kd k c w)) := by
        obtain ⟨p1, p2, p3, p4, p5, p6⟩ := hP
        refine ⟨by omega, p2, p3, p4, p5, fun b c b0 b1 c0 c1 => ?_⟩
        by_cases z : b = (n : Int)
        · subst z
          rw [zNw_n, zNw_n, zNw_n]
          obtain ⟨x1, x2, x3, x4⟩ := zPQ_b (kd := kd) (f := (k : Int)) (c := c) (w := w) hI.2.2.1 (by omega) ⟨c0, by omega⟩ g3
          obtain ⟨y1, y2⟩ := gnk c c0 (by omega)
          exact ⟨⟨x1, x2⟩, ⟨x3, x4⟩, y1, y2⟩
        · rw [zNw_o z, zNw_o z, zNw_o z]
          exact p6 b c b0 (by omega) c0 c1
      have hW2 : zWt (n + 1) (zWs (σ 9) n he) := fun b b0 b1 => by
        by_cases z : b = (n : Int)
        · rw [z, zWs_b]; exact g2
        · rw [zWs_n z]; exact hW b b0 (by omega)
      obtain ⟨V2, o1, o2⟩ := v_oc hR hP2 hW2 (n : Int)
      have cnt : (((zcn (fun i : Nat => decide (zWh (zFF σ w) (zLd (zWs (σ 9) n he) (zNw n (zGG σ w) (fun c => zGn σ kd k c w)) i) (n + 1) = (n : Int))) (zNc σ)) : Nat) : Int) = f k := by
        rw [← hfe]
        congr 1
        refine zcn_c _ (fun c hc => ?_)
        have gc := (gnk (c : Int) (by omega) (by omega)).1
        have eL : zLd (zWs (σ 9) n he) (zNw n (zGG σ w) (fun c => zGn σ kd k c w)) c n = he * zGn σ kd k c w := by
          unfold zLd
          rw [zWs_b, zNw_n]
        have eLo : ∀ x : Int, x ≠ n → zLd (zWs (σ 9) n he) (zNw n (zGG σ w) (fun c => zGn σ kd k c w)) c x = zLd (σ 9) (zGG σ w) c x := fun x hx => zLd_c (zWs_n hx) (zNw_o hx)
        have pos : 1 * 1 ≤ he * zGn σ kd k c w := Int.mul_le_mul g2.1 gc.1 (by omega) (by omega)
        have eq : (zWh (zFF σ w) (zLd (zWs (σ 9) n he) (zNw n (zGG σ w) (fun c => zGn σ kd k c w)) c) (n + 1) = (n : Int)) ↔ zBr (zFF σ w) (zLd (σ 9) (zGG σ w) c) (-1) (-1) n < he * zGn σ kd k c w := by
          rw [zWh_own ⟨by omega, by omega⟩, zBr_s]
          unfold zOwn
          rw [eL]
          constructor
          · rintro ⟨q1, q2⟩
            exact ⟨by omega, q1, fun x x0 x1 _ _ => by rw [← eLo x (by omega)]; exact q2 x x0 (by omega) (by omega)⟩
          · rintro ⟨-, q1, q2⟩
            exact ⟨q1, fun x x0 x1 xn => by rw [eLo x xn]; exact q2 x x0 (by omega) (by omega) (by omega)⟩
        simp only [eq]
      rw [cnt] at o1
      have body := v_hgBody (υ := x) (kd := kd) (he := he) (q := q) (be := (zHg f k).1) (mo := (zHg f k).2) (k := (k : Int)) (by omega) (by rw [hY]; exact v1) o1
      rw [z0k, z0k]
      refine ⟨_, _, _, body, Or.inl rfl, ?_, ?_, fun a b z1 z2 z3 => ?_⟩
      · split <;> rfl
      · show _ = [37, kd, he, w, q, (n : Int), (if _ then _ else _ : Int × Int).1, (if _ then _ else _ : Int × Int).2, _, 0]
        split <;> rfl
      · rw [o2 a b (by omega), v2 a b (by omega) (by omega), eY a b z2]
        exact hx a b z1 z2 z3)
  have l2b : sW lc_X9_hang_1 lf_X9_hang_1 ls_X9_hang_1 [37, kd, he, w, q, (n : Int), 0, -1, 0, 0] X = some (0, [37, kd, he, w, q, (n : Int), (zHg f (zNc σ)).1, (zHg f (zNc σ)).2, 0 + (zNc σ : Int), 0], Z) := l2
  rw [← hX] at l2b
  have Z14 : Z 37 14 = (n : Int) + 1 := by rw [z2 37 14 (by omega) (by omega) (by omega), X14]
  have h2 := v_hgEval (σ := τ2) g1 g2 g3 g4 (C := σ 1 2) (by rw [sm2 37 5 rfl, sm2 37 6 rfl]; exact nN.1) g5 (by rw [sm2 37 14 rfl, hN.1]; omega) u1 (n := (n : Int)) (by rw [smυ 37 14 rfl, hN.1, nb1]) (by omega) l2b Z14
  have o1 := zOk_of k_X8_hang hI.1 h1 ⟨zthis, ha⟩
  have o2 := zOk_of k_X9_hang o1 h2 ⟨zthat, ha⟩
  refine ⟨_, _, _, h1, h2, zInv_hg o2 hI (fun a b z1 z3 => ?_)⟩
  by_cases y : a = 37 ∧ b = 14
  · rw [y.1, y.2, zput_self, hN.1, nb1]
  · rw [zput_n y, z2 a b ?_ (by omega) ?_, eX a b (by omega) (by omega) y, smυ a b z1]
    · rintro ⟨rfl, rfl | rfl | rfl⟩ <;> simp [zfree] at z1
    · rintro ⟨rfl | rfl, -⟩ <;> simp [zfree] at z1
