/-! what the class answers, in the class's own picture -/
theorem zCl.rf (σ : zHp) : zCl σ σ := fun _ _ _ _ => rfl
theorem zCl.same {σ τ : zHp} (h : zCl σ τ) : zSame σ τ := fun a b hab => h a b (fun q => by rw [q] at hab; simp [zfree] at hab) (fun q => by rw [q.1, q.2] at hab; simp [zfree] at hab)
theorem c_blow {σ : zHp} (hI : zInv σ) {w : Int} (hw : 0 ≤ w ∧ w ≤ 39) : ∃ τ, m_X0_blow [10, w] σ = some (0, τ) ∧ zCl σ τ ∧ zCp τ (zNb σ) (zNc σ) (zFF σ w) (σ 9) (zGG σ w) := by
  obtain ⟨n1, n2⟩ := zNb_e hI
  obtain ⟨c1, c2⟩ := zNc_e hI
  obtain ⟨τ, h1, h2, h3, h4⟩ := w_blow hI.2.2.1 hI.2.2.2.1 hI.2.2.2.2.2.2.1.2 (zI3 hI) hI.2.2.2.2.2.2.2.2.1 hw
  refine ⟨τ, h1, h2, ?_, ?_, h3, fun b _ _ => h2 9 b (by decide) (by omega), fun b c b0 b1 c0 c1 => h4 b c b0 (by omega) c0 (by omega)⟩
  · rw [h2 6 0 (by decide) (by decide), n1]
  · rw [h2 1 2 (by decide) (by decide), c1]
theorem c_whose {σ : zHp} (hI : zInv σ) {c w : Int} (g1 : 0 ≤ c ∧ c < σ 1 2) (g2 : 0 ≤ w ∧ w ≤ 39) : ∃ τ, m_X8_whose [0, c, w] σ = some (zWh (zFF σ w) (zLd (σ 9) (zGG σ w) c) (zNb σ), τ) ∧ zCl σ τ := by
  obtain ⟨nb1, nb2⟩ := zNb_e hI
  obtain ⟨nc1, nc2⟩ := zNc_e hI
  obtain ⟨τ, t1, t2, t3⟩ := c_blow hI g2
  have hW := zWt_I hI
  have hQ := zCq_I hI g2
  have hc : 0 ≤ c ∧ c < (zNc σ : Int) := by omega
  have li := w_li t3 hQ hW hc
  generalize hL : zLd (σ 9) (zGG σ w) c = L at *
  have hl := zfor (c := lc_X8_whose_1) (f := lf_X8_whose_1) (i := 4) (lo := 0) (zNb σ) (fun k => [0, c, w, (zLI (zFF σ w) L (zNb σ)).2, 0 + (k : Int)]) (fun k υ => υ = τ ∧ ∀ b : Int, 0 ≤ b → b < k → ¬ zWh (zFF σ w) L (zNb σ) = b)
    (fun t e υ => υ = τ ∧ ((t = 1 ∧ e = [zWh (zFF σ w) L (zNb σ)]) ∨ (t = 0 ∧ (∀ b : Int, 0 ≤ b → b < zNb σ → ¬ zWh (zFF σ w) L (zNb σ) = b) ∧ e = [0, c, w, (zLI (zFF σ w) L (zNb σ)).2, 0 + (zNb σ : Int)])))
    (σ := τ) ⟨rfl, fun b b0 b1 => by omega⟩ (fun k => rfl) (by decide) (by omega)
    (fun k υ hk h => zc_lt (i := 4) (x := 0 + (k : Int)) rfl (zx_G (N := (zNb σ : Nat)) (by rw [h.1]; exact t3.1)) (by omega))
    (fun k υ hk h => by
      obtain ⟨rfl, h2⟩ := h
      rw [w_whBody]
      by_cases p : (zLI (zFF σ w) L (zNb σ)).2 = zShl 1 (0 + (k : Int))
      · rw [if_pos p]
        have := (zLI_one (by omega) (by omega)).mp p
        exact Or.inl ⟨_, _, rfl, rfl, Or.inl ⟨rfl, by rw [this]⟩⟩
      · rw [if_neg p]
        refine Or.inr ⟨_, _, _, rfl, Or.inl rfl, rfl, rfl, rfl, fun b b0 b1 hb => ?_⟩
        by_cases z : b = (k : Int)
        · refine p ((zLI_one (by omega) (by omega)).mpr ?_)
          rw [hb]; omega
        · exact h2 b b0 (by omega) hb)
    (fun υ h => ⟨h.1, Or.inr ⟨rfl, h.2, rfl⟩⟩)
  obtain ⟨t, e, υ2, hl, rfl, hq⟩ := hl
  have hl2 : sW lc_X8_whose_1 lf_X8_whose_1 ls_X8_whose_1 [0, c, w, (zLI (zFF σ w) L (zNb σ)).2, 0] υ2 = some (t, e, υ2) := hl
  refine ⟨υ2, ?_, t2⟩
  rcases hq with ⟨rfl, rfl⟩ | ⟨rfl, q1, rfl⟩
  · simp [e_X8_whose, d_X8_whose, xC_e, xL_e, xU_e, xB_e, xD_e, xF_e, xG_e, xA_e, xE_e, xH_e, xI_e, xZ_e, xK_e, aN_e, aC_e, cR_e, cV_e, cA_e, cO_e, cN_e, bs_e, bn_e, zg_0, zg_S, sS_e, sX_e, sF_e, sG_e, sA_e, sE_e, sEo_e, sK_e, sQ_e, sI_e, sR_e, sV_e, sB_e, sC_e, sD_e, sN_e, st_0, st_S, zc_0, zc_S, r_eq, r_ne, r_lt, r_le, r_gt, r_ge, rb_ite, rb_0, rb_1, w_isCell_t g1, w_isWind_t g2, t1, li, hl2]
  · by_cases z : (zLI (zFF σ w) L (zNb σ)).2 = 0
    · have e := (zLI_none (by omega)).mp z
      rw [z] at hl2 li
      simp [e_X8_whose, d_X8_whose, xC_e, xL_e, xU_e, xB_e, xD_e, xF_e, xG_e, xA_e, xE_e, xH_e, xI_e, xZ_e, xK_e, aN_e, aC_e, cR_e, cV_e, cA_e, cO_e, cN_e, bs_e, bn_e, zg_0, zg_S, sS_e, sX_e, sF_e, sG_e, sA_e, sE_e, sEo_e, sK_e, sQ_e, sI_e, sR_e, sV_e, sB_e, sC_e, sD_e, sN_e, st_0, st_S, zc_0, zc_S, r_eq, r_ne, r_lt, r_le, r_gt, r_ge, rb_ite, rb_0, rb_1, w_isCell_t g1, w_isWind_t g2, t1, li, hl2, e]
    · have e : zWh (zFF σ w) L (zNb σ) = -5 := by
        rcases zWh_i (zFF σ w) L (zNb σ) with y | y | y
        · exact absurd ((zLI_none (by omega)).mpr y) z
        · exact y
        · exact absurd rfl (q1 _ y.1 y.2)
      simp [e_X8_whose, d_X8_whose, xC_e, xL_e, xU_e, xB_e, xD_e, xF_e, xG_e, xA_e, xE_e, xH_e, xI_e, xZ_e, xK_e, aN_e, aC_e, cR_e, cV_e, cA_e, cO_e, cN_e, bs_e, bn_e, zg_0, zg_S, sS_e, sX_e, sF_e, sG_e, sA_e, sE_e, sEo_e, sK_e, sQ_e, sI_e, sR_e, sV_e, sB_e, sC_e, sD_e, sN_e, st_0, st_S, zc_0, zc_S, r_eq, r_ne, r_lt, r_le, r_gt, r_ge, rb_ite, rb_0, rb_1, w_isCell_t g1, w_isWind_t g2, t1, li, hl2, e, z]
theorem c_reach {σ : zHp} (hI : zInv σ) {b w : Int} (g1 : 0 ≤ b ∧ b < σ 6 0) (g2 : 0 ≤ w ∧ w ≤ 39) : ∃ τ, m_X8_reach [0, b, w] σ = some (zSt2 (zRb (zFF σ w) (σ 9) (zGG σ w) (zNb σ) b) (zNc σ), τ) ∧ zCl σ τ := by
  obtain ⟨nb1, nb2⟩ := zNb_e hI
  obtain ⟨nc1, nc2⟩ := zNc_e hI
  obtain ⟨τ, t1, t2, t3⟩ := c_blow hI g2
  have hW := zWt_I hI
  have hQ := zCq_I hI g2
  have hb : 0 ≤ b ∧ b < (zNb σ : Int) := by omega
  have l1 := zforP (c := lc_X8_reach_1) (f := lf_X8_reach_1) (i := 4) (lo := 0) (σ := τ) (zNc σ) (fun k => [0, b, w, zSt2 (zRb (zFF σ w) (σ 9) (zGG σ w) (zNb σ) b) k, 0 + (k : Int)]) (fun k => rfl) (by decide) (by omega)
    (fun k hk => zc_lt (i := 4) (x := 0 + (k : Int)) rfl (zx_G (N := (zNc σ : Nat)) t3.2.1) (by omega))
    (fun k hk => by
      have li := w_li t3 hQ hW (c := (k : Int)) (by omega)
      have body := w_reBody (w := w) (s := zSt2 (zRb (zFF σ w) (σ 9) (zGG σ w) (zNb σ) b) k) li (zLI_b (by omega) hb k)
      rw [z0k, z0k]
      refine ⟨_, _, body, Or.inl rfl, rfl, ?_⟩
      show [0, b, w, _, _] = [0, b, w, zOr _ _, _]
      cases zRb (zFF σ w) (σ 9) (zGG σ w) (zNb σ) b k
      · simp only [Bool.false_eq_true, if_false, zShl0 (show k < 32 by omega)]
      · simp only [if_true])
  have l1b : sW lc_X8_reach_1 lf_X8_reach_1 ls_X8_reach_1 [0, b, w, 0, 0] τ = some (0, [0, b, w, zSt2 (zRb (zFF σ w) (σ 9) (zGG σ w) (zNb σ) b) (zNc σ), 0 + (zNc σ : Int)], τ) := l1
  exact ⟨τ, by simp [e_X8_reach, d_X8_reach, xC_e, xL_e, xU_e, xB_e, xD_e, xF_e, xG_e, xA_e, xE_e, xH_e, xI_e, xZ_e, xK_e, aN_e, aC_e, cR_e, cV_e, cA_e, cO_e, cN_e, bs_e, bn_e, zg_0, zg_S, sS_e, sX_e, sF_e, sG_e, sA_e, sE_e, sEo_e, sK_e, sQ_e, sI_e, sR_e, sV_e, sB_e, sC_e, sD_e, sN_e, st_0, st_S, zc_0, zc_S, r_eq, r_ne, r_lt, r_le, r_gt, r_ge, rb_ite, rb_0, rb_1, w_isBell_t g1, w_isWind_t g2, t1, l1b], t2⟩
theorem c_wins {σ : zHp} (hI : zInv σ) {b c w : Int} (g1 : 0 ≤ b ∧ b < σ 6 0) (g3 : 0 ≤ c ∧ c < σ 1 2) (g2 : 0 ≤ w ∧ w ≤ 39) : ∃ τ, m_X8_wins [0, b, c, w] σ = some (zFst (zWn (zFF σ w) (σ 9) (zGG σ w) (zNb σ) b c) 99, τ) ∧ zCl σ τ := by
  obtain ⟨nb1, nb2⟩ := zNb_e hI
  obtain ⟨nc1, nc2⟩ := zNc_e hI
  obtain ⟨τ, t1, t2, t3⟩ := c_blow hI g2
  have x1 := w_lto t3 (zCq_I hI g2) (zWt_I hI) (b := b) (c := c) (by omega) (by omega)
  exact ⟨τ, by simp [e_X8_wins, d_X8_wins, xC_e, xL_e, xU_e, xB_e, xD_e, xF_e, xG_e, xA_e, xE_e, xH_e, xI_e, xZ_e, xK_e, aN_e, aC_e, cR_e, cV_e, cA_e, cO_e, cN_e, bs_e, bn_e, zg_0, zg_S, sS_e, sX_e, sF_e, sG_e, sA_e, sE_e, sEo_e, sK_e, sQ_e, sI_e, sR_e, sV_e, sB_e, sC_e, sD_e, sN_e, st_0, st_S, zc_0, zc_S, r_eq, r_ne, r_lt, r_le, r_gt, r_ge, rb_ite, rb_0, rb_1, w_isBell_t g1, w_isCell_t g3, w_isWind_t g2, t1, x1], t2⟩
theorem c_cheapest {σ : zHp} (hI : zInv σ) {c w q : Int} (g1 : 0 ≤ c ∧ c < σ 1 2) (g2 : 0 ≤ w ∧ w ≤ 39) (g4 : 0 ≤ q ∧ q ≤ 1) : ∃ τ, m_X8_cheapest [0, c, w, q] σ = some (if q = 0 then (zCh (fun b => zFst (zWn (zFF σ w) (σ 9) (zGG σ w) (zNb σ) b c) 99) (σ 9) (zNb σ)).1 else (zCh (fun b => zFst (zWn (zFF σ w) (σ 9) (zGG σ w) (zNb σ) b c) 99) (σ 9) (zNb σ)).2, τ) ∧ zCl σ τ := by
  obtain ⟨nb1, nb2⟩ := zNb_e hI
  obtain ⟨nc1, nc2⟩ := zNc_e hI
  obtain ⟨τ, t1, t2, t3⟩ := c_blow hI g2
  have hW := zWt_I hI
  have hQ := zCq_I hI g2
  have hc : 0 ≤ c ∧ c < (zNc σ : Int) := by omega
  have hfi : ∀ b : Int, -9 ≤ zFst (zWn (zFF σ w) (σ 9) (zGG σ w) (zNb σ) b c) 99 ∧ zFst (zWn (zFF σ w) (σ 9) (zGG σ w) (zNb σ) b c) 99 ≤ 99 := fun b => by
    have := zFst_i (zWn (zFF σ w) (σ 9) (zGG σ w) (zNb σ) b c) 99
    omega
  have x1 := fun (k : Nat) (hk : k < zNb σ) => w_lto t3 hQ hW (b := (k : Int)) (c := c) (by omega) hc
  generalize hf : (fun b : Int => zFst (zWn (zFF σ w) (σ 9) (zGG σ w) (zNb σ) b c) 99) = f
  have hfe : ∀ b, zFst (zWn (zFF σ w) (σ 9) (zGG σ w) (zNb σ) b c) 99 = f b := fun b => congrFun hf b
  have l1 := zforP (c := lc_X8_cheapest_1) (f := lf_X8_cheapest_1) (i := 6) (lo := 0) (σ := τ) (zNb σ) (fun k => [0, c, w, q, (zCh f (σ 9) k).1, (zCh f (σ 9) k).2, 0 + (k : Int), 0, 0]) (fun k => rfl) (by decide) (by omega)
    (fun k hk => zc_lt (i := 6) (x := 0 + (k : Int)) rfl (zx_G (N := (zNb σ : Nat)) t3.1) (by omega))
    (fun k hk => by
      have h := x1 k hk
      have fb := hfi (k : Int)
      rw [hfe] at h fb
      have body := w_chBody (w := w) (q := q) (be := (zCh f (σ 9) k).1) (le := (zCh f (σ 9) k).2) (by omega) (t3.2.2.2.1 k (by omega) (by omega)) (hW k (by omega) (by omega)) fb h
      rw [z0k, z0k]
      refine ⟨_, _, body, Or.inl rfl, ?_, ?_⟩
      · split <;> rfl
      · show _ = [0, c, w, q, (if _ then _ else _ : Int × Int).1, (if _ then _ else _ : Int × Int).2, _, 0, 0]
        split <;> rfl)
  have l1b : sW lc_X8_cheapest_1 lf_X8_cheapest_1 ls_X8_cheapest_1 [0, c, w, q, -9, -9, 0, 0, 0] τ = some (0, [0, c, w, q, (zCh f (σ 9) (zNb σ)).1, (zCh f (σ 9) (zNb σ)).2, 0 + (zNb σ : Int), 0, 0], τ) := l1
  generalize zCh f (σ 9) (zNb σ) = r at *
  refine ⟨τ, ?_, t2⟩
  rcases (show q = 0 ∨ q = 1 by omega) with rfl | rfl <;> simp [e_X8_cheapest, d_X8_cheapest, xC_e, xL_e, xU_e, xB_e, xD_e, xF_e, xG_e, xA_e, xE_e, xH_e, xI_e, xZ_e, xK_e, aN_e, aC_e, cR_e, cV_e, cA_e, cO_e, cN_e, bs_e, bn_e, zg_0, zg_S, sS_e, sX_e, sF_e, sG_e, sA_e, sE_e, sEo_e, sK_e, sQ_e, sI_e, sR_e, sV_e, sB_e, sC_e, sD_e, sN_e, st_0, st_S, zc_0, zc_S, r_eq, r_ne, r_lt, r_le, r_gt, r_ge, rb_ite, rb_0, rb_1, w_isCell_t g1, w_isWind_t g2, w_isOneOfTwo_t g4, t1, l1b]
theorem c_loud {σ : zHp} (hI : zInv σ) {b c w q : Int} (g1 : 0 ≤ b ∧ b < σ 6 0) (g2 : 0 ≤ c ∧ c < σ 1 2) (g3 : 0 ≤ w ∧ w ≤ 39) (g4 : 0 ≤ q ∧ q ≤ 1) :
    m_X8_loud [0, b, c, w, q] σ = some (if q = 0 then ((((zPP σ w b c).toNat * (σ 9 b).toNat) / Nat.gcd ((zPP σ w b c).toNat * (σ 9 b).toNat) (zQQ σ w b c).toNat : Nat) : Int) else (((zQQ σ w b c).toNat / Nat.gcd ((zPP σ w b c).toNat * (σ 9 b).toNat) (zQQ σ w b c).toNat : Nat) : Int), σ) := by
  have nN := zN_eq hI.2.2.1
  have hN := zI3 hI
  have hn6 := hN.2.2.1
  have hb := hN.2.2.2 b g1.1 g1.2
  have hcal := hI.2.2.2.2.2.2.2.2.1 b c g1.1 g1.2 g2.1 g2.2
  have hcb := zIC_b hI g1 g2
  have hu := w_unitBy hI.2.2.1 hI.2.2.2.1 (b := b) (c := c) (w := w) (by omega) (by omega) hb.2.1.2 g2 g3
  have hgb := zGr_b (σ := σ) (f := σ 8 b) (c := c) hcb g3
  obtain ⟨gg, gp, k1, k2⟩ := zG_P hI.2.2.1 (w := w) hb.2.1.2 g2 g3 hcal
  have pq := zPQ_b (kd := σ 7 b) hI.2.2.1 hb.2.1.2 g2 g3
  have hw := hb.2.2.2
  have hPP : zPP σ w b c = zPu σ (σ 7 b) (σ 8 b) c w := rfl
  have hQQ : zQQ σ w b c = zQd σ (σ 7 b) (σ 8 b) c w := rfl
  rw [hPP, hQQ]
  generalize hP : zPu σ (σ 7 b) (σ 8 b) c w = P at *
  generalize hQ : zQd σ (σ 7 b) (σ 8 b) c w = Q at *
  generalize hG : zGr σ (σ 11 (30 * b + c)) (σ 8 b) c w = G at *
  generalize hWb : σ 9 b = wb at *
  have kb : zKK w ≤ 11320199360870400 := by
    unfold zKK
    rw [zONE_e]
    omega
  have x1 := zmul_i (x := wb) (y := G) 99 21508378785653760 (by omega) (by omega)
  have y1 := zmul_i (x := P) (y := wb) 38 99 (by omega) (by omega)
  have o1 : o_lmul wb G = wb * G := w64_id ⟨by omega, by omega⟩
  have n1 : ((P.toNat * wb.toNat : Nat) : Int) = P * wb := by rw [Int.natCast_mul, Int.toNat_of_nonneg (by omega), Int.toNat_of_nonneg (by omega)]
  have n2 : ((gg.toNat * (P.toNat * wb.toNat) : Nat) : Int) = wb * G := by
    rw [Int.natCast_mul, n1, Int.toNat_of_nonneg (by omega), k2]
    ac_rfl
  have n3 : ((gg.toNat * Q.toNat : Nat) : Int) = zKK w := by
    rw [Int.natCast_mul, Int.toNat_of_nonneg (by omega), Int.toNat_of_nonneg (by omega), k1]
  have s1 := w_share (σ := σ) (a := P.toNat * wb.toNat) (b := Q.toNat) (g := gg.toNat) (w := q) (by omega) (by omega) (by omega) (by omega)
  rw [n2, n3] at s1
  exact w_louEval g1 (by omega) g2 g3 g4 hWb hu o1 (w_grains g3 σ) s1
theorem zFF_s {σ τ : zHp} (hs : zSame σ τ) (w : Int) : zFF τ w = zFF σ w := by unfold zFF; rw [hs 10 2 rfl]
theorem zNb_s {σ τ : zHp} (hs : zSame σ τ) : zNb τ = zNb σ := by unfold zNb; rw [hs 6 0 rfl]
theorem zNc_s {σ τ : zHp} (hs : zSame σ τ) : zNc τ = zNc σ := by unfold zNc; rw [hs 1 2 rfl]
theorem z9_s {σ τ : zHp} (hs : zSame σ τ) : τ 9 = σ 9 := funext fun k => hs 9 k rfl
theorem zGG_s {σ τ : zHp} (hs : zSame σ τ) (w : Int) : zGG τ w = zGG σ w := by
  funext b c
  unfold zGG
  rw [zGr_eq (hs 1 1 rfl), hs 11 _ rfl, hs 8 b rfl]
theorem zPP_s {σ τ : zHp} (hs : zSame σ τ) (w b c : Int) : zPP τ w b c = zPP σ w b c := by
  unfold zPP
  rw [zPu_eq (hs 1 1 rfl), hs 7 b rfl, hs 8 b rfl]
theorem zQQ_s {σ τ : zHp} (hs : zSame σ τ) (w b c : Int) : zQQ τ w b c = zQQ σ w b c := by
  unfold zQQ
  rw [zQd_eq (hs 1 1 rfl) (fun k => hs 2 k rfl) (zpl_s hs), hs 7 b rfl, hs 8 b rfl]
theorem c_blowT {σ τ : zHp} (hI : zInv σ) (ho : zOk τ) (hs : zSame σ τ) {w : Int} (hw : 0 ≤ w ∧ w ≤ 39) : ∃ υ, m_X0_blow [10, w] τ = some (0, υ) ∧ zCl τ υ ∧ zOk υ ∧ zCp υ (zNb σ) (zNc σ) (zFF σ w) (σ 9) (zGG σ w) := by
  obtain ⟨υ, h1, h2, h3⟩ := c_blow (zInv_same ho hs hI) hw
  rw [zNb_s hs, zNc_s hs, zFF_s hs, z9_s hs, zGG_s hs] at h3
  exact ⟨υ, h1, h2, zOk_of k_X0_blow ho h1 ⟨⟨rfl, by decide, by decide⟩, ⟨by omega, by omega⟩, trivial⟩, h3⟩
theorem zOk_08 {σ : zHp} (h : zOk σ) {v : Int} (hv : 0 ≤ v ∧ v ≤ 10) : zOk (zput σ 0 8 v) := zOk_put (o := 0) (i := 8) h ⟨by omega, by omega⟩
theorem zSame_08 (σ : zHp) (v : Int) : zSame σ (zput σ 0 8 v) := fun a b h => zput_n (fun q => by rw [q.1, q.2] at h; simp [zfree] at h)
/-- tithes of one day -/
def zDay (σ : zHp) (b w : Int) : Int := zSm (zPo (zFF σ w) (σ 9) (zGG σ w) (zNb σ) (fun i => σ 2 i) b) (zNc σ)
theorem zDay_b {σ : zHp} (hI : zInv σ) {b w : Int} (hb : 0 ≤ b ∧ b < σ 6 0) : 0 ≤ zDay σ b w ∧ zDay σ b w ≤ 18000 := by
  obtain ⟨nb1, nb2⟩ := zNb_e hI
  obtain ⟨nc1, nc2⟩ := zNc_e hI
  have := zSm_b (f := zPo (zFF σ w) (σ 9) (zGG σ w) (zNb σ) (fun i => σ 2 i) b) (lo := 0) (hi := 600) (zNc σ) (fun i hi => zPo_b (by omega) (by
    have := hI.2.2.2.1 (i : Int) (by omega) (by omega)
    exact ⟨this.1, this.2.1⟩))
  unfold zDay
  omega
theorem c_tiF {σ : zHp} (hI : zInv σ) {s so i n : Int} (hs : 0 ≤ s ∧ s < 4) : m_X6_faultOfRow [29 + 2 * s, so, i, n] (zput σ 0 8 0) = some (zAg σ s so i n, zput σ 0 8 0) := by
  have s2 := hI.2.2.2.2.2.2.2.2.2.2 s hs.1 hs.2
  have e : ∀ k, zput σ 0 8 0 (29 + 2 * s) k = σ (29 + 2 * s) k := fun k => zput_o (by omega) k
  rw [w_faultOfRow (by rw [e]; omega), e, e, e]
  rfl
theorem c_tiL {σ : zHp} {b s so i n q : Int} {N : Nat} {V : Nat → Int} (hN : (N : Int) = n) (hi : 0 ≤ i) (hl : i + n ≤ 60) (hs : 0 ≤ s ∧ s < 4) (V30 : ∀ k : Nat, k < N → σ (29 + 2 * s + 1) (i + (k : Int)) = V k) :
    ∃ t e, sW lc_X8_tithes_1 lf_X8_tithes_1 ls_X8_tithes_1 [0, b, s, so, i, n, q, 29 + 2 * s, i, 0, 0] (zput σ 0 8 0) = some (t, e, zput σ 0 8 0) ∧ ((t = 1 ∧ e = [-9223372036854775808] ∧ ¬ ∀ k : Nat, k < N → 0 ≤ V k ∧ V k ≤ 39) ∨ (t = 0 ∧ (∀ k : Nat, k < N → 0 ≤ V k ∧ V k ≤ 39) ∧ e = [0, b, s, so, i, n, q, 29 + 2 * s, i + (N : Int), 0, 0])) := by
  have inn : o_iadd i n = i + n := w32_id ⟨by omega, by omega⟩
  have hl := zfor (c := lc_X8_tithes_1) (f := lf_X8_tithes_1) (i := 8) (lo := i) (σ := zput σ 0 8 0) N (fun k => [0, b, s, so, i, n, q, 29 + 2 * s, i + (k : Int), 0, 0]) (fun k τ => τ = zput σ 0 8 0 ∧ ∀ j : Nat, j < k → 0 ≤ V j ∧ V j ≤ 39)
    (fun t e τ => τ = zput σ 0 8 0 ∧ ((t = 1 ∧ e = [-9223372036854775808] ∧ ¬ ∀ k : Nat, k < N → 0 ≤ V k ∧ V k ≤ 39) ∨ (t = 0 ∧ (∀ k : Nat, k < N → 0 ≤ V k ∧ V k ≤ 39) ∧ e = [0, b, s, so, i, n, q, 29 + 2 * s, i + (N : Int), 0, 0])))
    ⟨rfl, fun j hj => by omega⟩ (fun k => rfl) (by omega) (by omega)
    (fun k τ hk h => by
      rw [w_tiC1 inn]
      have : (i + (k : Int) < i + n) ↔ k < N := by omega
      simp only [this])
    (fun k τ hk h => by
      obtain ⟨rfl, h2⟩ := h
      have body := w_tiBody1 (υ := zput σ 0 8 0) (b := b) (s := s) (so := so) (i := i) (n := n) (q := q) (o := 29 + 2 * s) (d := i + (k : Int)) (v := V k) (z := 0) (z2 := 0) (by omega) (by rw [zput_o (by omega)]; exact V30 k hk)
      rw [body]
      by_cases p : 0 ≤ V k ∧ V k ≤ 39
      · rw [if_pos p]
        refine Or.inr ⟨_, _, _, rfl, Or.inl rfl, rfl, rfl, rfl, fun j hj => ?_⟩
        by_cases z : j = k
        · rw [z]; exact p
        · exact h2 j (by omega)
      · rw [if_neg p]
        exact Or.inl ⟨_, _, rfl, rfl, Or.inl ⟨rfl, rfl, fun z => p (z k hk)⟩⟩)
    (fun τ h => ⟨h.1, Or.inr ⟨rfl, h.2, rfl⟩⟩)
  obtain ⟨t, e, τ, hl, rfl, hq⟩ := hl
  have e0 : i + ((0 : Nat) : Int) = i := by omega
  have hl2 : sW lc_X8_tithes_1 lf_X8_tithes_1 ls_X8_tithes_1 [0, b, s, so, i, n, q, 29 + 2 * s, i + ((0 : Nat) : Int), 0, 0] (zput σ 0 8 0) = some (t, e, zput σ 0 8 0) := hl
  rw [e0] at hl2
  exact ⟨t, e, hl2, hq⟩
theorem c_tithes {σ : zHp} (hI : zInv σ) {b s so i n q : Int} {N : Nat} {V : Nat → Int} (hN : (N : Int) = n) (g1 : 0 ≤ b ∧ b < σ 6 0) (g2 : 0 ≤ s ∧ s < 4) (g3 : 0 ≤ so ∧ so ≤ 2) (g4 : 0 ≤ q ∧ q ≤ 1) (ga : zAg σ s so i n = 0) (V30 : ∀ k : Nat, k < N → σ (29 + 2 * s + 1) (i + (k : Int)) = V k) (hall : ∀ k : Nat, k < N → 0 ≤ V k ∧ V k ≤ 39) :
    ∃ τ, m_X8_tithes [0, b, s, so, i, n, q] σ = some (if q = 0 then (((zSm (fun k => zDay σ b (V k)) N).toNat / Nat.gcd (zSm (fun k => zDay σ b (V k)) N).toNat 60 : Nat) : Int) else ((60 / Nat.gcd (zSm (fun k => zDay σ b (V k)) N).toNat 60 : Nat) : Int), τ) ∧ zCl (zput σ 0 8 0) τ := by
  have s2 := hI.2.2.2.2.2.2.2.2.2.2 s g2.1 g2.2
  obtain ⟨nb1, nb2⟩ := zNb_e hI
  obtain ⟨nc1, nc2⟩ := zNc_e hI
  have fr := c_tiF hI (s := s) (so := so) (i := i) (n := n) g2
  obtain ⟨a1, a2, a3, a4⟩ := zAg_0 ga
  rw [ga] at fr
  have inn : o_iadd i n = i + n := w32_id ⟨by omega, by omega⟩
  obtain ⟨t1, e1, l1, q1⟩ := c_tiL (σ := σ) (b := b) (s := s) (so := so) (q := q) hN a1 (by omega) g2 V30
  rcases q1 with ⟨-, -, q1⟩ | ⟨rfl, -, rfl⟩
  · exact absurd hall q1
  have hW := zWt_I hI
  have hh : ∀ i : Nat, i < zNc σ → 0 ≤ σ 2 i ∧ σ 2 i ≤ 9 := fun i hi => by
    have := hI.2.2.2.1 (i : Int) (by omega) (by omega)
    exact ⟨this.1, this.2.1⟩
  have hDb : ∀ k : Nat, 0 ≤ zDay σ b (V k) ∧ zDay σ b (V k) ≤ 18000 := fun k => zDay_b hI g1
  generalize hD : (fun k : Nat => zDay σ b (V k)) = D
  have hDe : ∀ k : Nat, zDay σ b (V k) = D k := fun k => congrFun hD k
  have hDs : ∀ k : Nat, k ≤ 60 → 0 ≤ zSm D k ∧ zSm D k ≤ 1080000 := fun k hk => by
    have := zSm_b (f := D) (lo := 0) (hi := 18000) k (fun i _ => by rw [← hDe]; exact hDb i)
    omega
  obtain ⟨τ, m1, m2, m3⟩ := zfor0 (c := lc_X8_tithes_2) (f := lf_X8_tithes_2) (i := 10) (lo := i) (σ := zput σ 0 8 0) N (fun k => [0, b, s, so, i, n, q, 29 + 2 * s, zSm D k, 0, i + (k : Int)]) (fun k x => zCl (zput σ 0 8 0) x ∧ zOk x) ⟨fun _ _ _ _ => rfl, zOk_08 hI.1 ⟨by decide, by decide⟩⟩ (fun k => rfl) (by omega) (by omega)
    (fun k x hk h => by
      rw [w_tiC2 inn]
      have : (i + (k : Int) < i + n) ↔ k < N := by omega
      simp only [this])
    (fun k x hk hx => by
      have sf : zSame σ x := (zSame_08 σ 0).tr hx.1.same
      obtain ⟨y, y1, y2, y3, y4⟩ := c_blowT hI hx.2 sf (hall k hk)
      have po := w_po y4 (zCq_I hI (hall k hk)) hW (h := fun i => σ 2 i) (fun i hi => (sf.tr y2.same) 2 i rfl) (fun i hi => hh i hi) (b := b) (by omega)
      have po : m_X8_partsOfTithe [0, b] y = some (D k, y) := by rw [← hDe]; exact po
      have db := hDb k
      rw [hDe] at db
      have ds := hDs k (by omega)
      have body := w_tiBody2 (υ := x) (b := b) (s := s) (so := so) (i := i) (n := n) (q := q) (o := 29 + 2 * s) (sum := zSm D k) (d := i + (k : Int)) (v := V k) (z := 0) (by omega) (by rw [hx.1 _ _ (by omega) (by omega), zput_o (by omega)]; exact V30 k hk) y1 po (w64_id ⟨by omega, by omega⟩)
      exact ⟨_, _, _, body, Or.inl rfl, rfl, rfl, hx.1.tr y2, y3⟩)
  have e0 : i + ((0 : Nat) : Int) = i := by omega
  have m1b : sW lc_X8_tithes_2 lf_X8_tithes_2 ls_X8_tithes_2 [0, b, s, so, i, n, q, 29 + 2 * s, 0, 0, i + ((0 : Nat) : Int)] (zput σ 0 8 0) = some (0, [0, b, s, so, i, n, q, 29 + 2 * s, zSm D N, 0, i + (N : Int)], τ) := m1
  rw [e0] at m1b
  have sb := hDs N (by omega)
  have sn : (((zSm D N).toNat : Nat) : Int) = zSm D N := by omega
  have sh1 := w_share (σ := τ) (a := (zSm D N).toNat) (b := 60) (g := 1) (w := q) (by decide) (by decide) (by omega) (by decide)
  rw [Nat.one_mul, Nat.one_mul, sn] at sh1
  exact ⟨τ, w_tiEval3 g1 g2 g3 g4 fr l1 m1b sh1, m2⟩
