/-! the law's own picture: the loudest, as a set -/
def qIs (ea : Int) (U Q : Int → Int) (b : Int) : Nat → Bool
  | 0 => decide (ea * Q b ≤ 10 * U b)
  | k + 1 => qIs ea U Q b k && decide (U (k : Int) * Q b ≤ U b * Q (k : Int))
theorem qIs_e (ea : Int) (U Q : Int → Int) (b : Int) : ∀ n : Nat, qIs ea U Q b n = true ↔ ea * Q b ≤ 10 * U b ∧ ∀ x : Int, 0 ≤ x → x < n → U x * Q b ≤ U b * Q x
  | 0 => by
    unfold qIs
    rw [decide_eq_true_eq]
    exact ⟨fun h => ⟨h, fun x x0 x1 => by omega⟩, fun h => h.1⟩
  | k + 1 => by
    unfold qIs
    rw [Bool.and_eq_true, decide_eq_true_eq, qIs_e ea U Q b k]
    refine ⟨fun h => ⟨h.1.1, fun x x0 x1 => ?_⟩, fun h => ⟨⟨h.1, fun x x0 x1 => h.2 x x0 (by omega)⟩, h.2 k (by omega) (by omega)⟩⟩
    by_cases q : x = (k : Int)
    · rw [q]; exact h.2
    · exact h.1.2 x x0 (by omega)
theorem q_beC1a {υ : zHp} {s b i k n : Int} (h : υ 37 41 = n) : lc_L_best_a_1 [37, 38, s, b, i, k] υ = some (decide (k < n), υ) := by
  simp [lc_L_best_a_1, xC_e, xL_e, xU_e, xB_e, xD_e, xF_e, xG_e, xA_e, xE_e, xH_e, xI_e, xZ_e, xK_e, aN_e, aC_e, cR_e, cV_e, cA_e, cO_e, cN_e, bs_e, bn_e, zg_0, zg_S, sS_e, sX_e, sF_e, sG_e, sA_e, sE_e, sEo_e, sK_e, sQ_e, sI_e, sR_e, sV_e, sB_e, sC_e, sD_e, sN_e, st_0, st_S, zc_0, zc_S, r_eq, r_ne, r_lt, r_le, r_gt, r_ge, rb_ite, rb_0, rb_1, h]
theorem q_beC2a {υ : zHp} {s b i k n : Int} (h : υ 37 41 = n) : lc_L_best_a_2 [37, 38, s, b, i, k] υ = some (decide (b < n), υ) := by
  simp [lc_L_best_a_2, xC_e, xL_e, xU_e, xB_e, xD_e, xF_e, xG_e, xA_e, xE_e, xH_e, xI_e, xZ_e, xK_e, aN_e, aC_e, cR_e, cV_e, cA_e, cO_e, cN_e, bs_e, bn_e, zg_0, zg_S, sS_e, sX_e, sF_e, sG_e, sA_e, sE_e, sEo_e, sK_e, sQ_e, sI_e, sR_e, sV_e, sB_e, sC_e, sD_e, sN_e, st_0, st_S, zc_0, zc_S, r_eq, r_ne, r_lt, r_le, r_gt, r_ge, rb_ite, rb_0, rb_1, h]
theorem q_beB1a {υ : zHp} {s b k ub qb uk qk x y : Int} {B : Bool} (b6 : 0 ≤ b ∧ b < 6) (k6 : 0 ≤ k ∧ k < 6) (h1 : υ 38 b = ub) (h2 : υ 38 (8 + b) = qb) (h3 : υ 38 k = uk) (h4 : υ 38 (8 + k) = qk) (o1 : o_lmul uk qb = x) (o2 : o_lmul ub qk = y) :
    lf_L_best_a_1 [37, 38, s, b, if B = true then 1 else 0, k] υ = some (0, [37, 38, s, b, if (B && decide (x ≤ y)) = true then 1 else 0, k], υ) := by
  have w1 : o_iadd 8 b = 8 + b := w32_id ⟨by omega, by omega⟩
  have w2 : o_iadd 8 k = 8 + k := w32_id ⟨by omega, by omega⟩
  have i1 : 0 ≤ b ∧ b < 16 := by omega
  have i2 : 0 ≤ k ∧ k < 16 := by omega
  have i3 : 0 ≤ 8 + b ∧ 8 + b < 16 := by omega
  have i4 : 0 ≤ 8 + k ∧ 8 + k < 16 := by omega
  cases B
  · simp [lf_L_best_a_1, xC_e, xL_e, xU_e, xB_e, xD_e, xF_e, xG_e, xA_e, xE_e, xH_e, xI_e, xZ_e, xK_e, aN_e, aC_e, cR_e, cV_e, cA_e, cO_e, cN_e, bs_e, bn_e, zg_0, zg_S, sS_e, sX_e, sF_e, sG_e, sA_e, sE_e, sEo_e, sK_e, sQ_e, sI_e, sR_e, sV_e, sB_e, sC_e, sD_e, sN_e, st_0, st_S, zc_0, zc_S, r_eq, r_ne, r_lt, r_le, r_gt, r_ge, rb_ite, rb_0, rb_1]
  · by_cases p : x ≤ y <;> simp [lf_L_best_a_1, xC_e, xL_e, xU_e, xB_e, xD_e, xF_e, xG_e, xA_e, xE_e, xH_e, xI_e, xZ_e, xK_e, aN_e, aC_e, cR_e, cV_e, cA_e, cO_e, cN_e, bs_e, bn_e, zg_0, zg_S, sS_e, sX_e, sF_e, sG_e, sA_e, sE_e, sEo_e, sK_e, sQ_e, sI_e, sR_e, sV_e, sB_e, sC_e, sD_e, sN_e, st_0, st_S, zc_0, zc_S, r_eq, r_ne, r_lt, r_le, r_gt, r_ge, rb_ite, rb_0, rb_1, w1, w2, i1, i2, i3, i4, h1, h2, h3, h4, o1, o2, p]
theorem q_beB2a {υ : zHp} {s b ea ub qb x y k : Int} {A B : Bool} (b6 : 0 ≤ b ∧ b < 6) (he : υ 37 2 = ea) (h1 : υ 38 b = ub) (h2 : υ 38 (8 + b) = qb) (o1 : o_lmul 10 ub = x) (o2 : o_lmul ea qb = y) (hA : decide (y ≤ x) = A)
    (hl : sW lc_L_best_a_1 lf_L_best_a_1 ls_L_best_a_1 [37, 38, s, b, if A = true then 1 else 0, 0] υ = some (0, [37, 38, s, b, if B = true then 1 else 0, k], υ)) :
    lf_L_best_a_2 [37, 38, s, b, 0, 0] υ = some (0, [37, 38, zOr s (if B = true then zShl 1 b else 0), b, 0, 0], υ) := by
  have w1 : o_iadd 8 b = 8 + b := w32_id ⟨by omega, by omega⟩
  have i1 : 0 ≤ b ∧ b < 16 := by omega
  have i3 : 0 ≤ 8 + b ∧ 8 + b < 16 := by omega
  unfold lf_L_best_a_2
  refine (sD_0 (e1 := [37, 38, zOr s (if B = true then zShl 1 b else 0), b, if B = true then 1 else 0, 0]) ?_).trans rfl
  rw [sQ_s (e1 := [37, 38, s, b, if A = true then 1 else 0, 0]) (σ1 := υ) (by
    subst hA
    by_cases p : y ≤ x <;> simp [xC_e, xL_e, xU_e, xB_e, xD_e, xF_e, xG_e, xA_e, xE_e, xH_e, xI_e, xZ_e, xK_e, aN_e, aC_e, cR_e, cV_e, cA_e, cO_e, cN_e, bs_e, bn_e, zg_0, zg_S, sS_e, sX_e, sF_e, sG_e, sA_e, sE_e, sEo_e, sK_e, sQ_e, sI_e, sR_e, sV_e, sB_e, sC_e, sD_e, sN_e, st_0, st_S, zc_0, zc_S, r_eq, r_ne, r_lt, r_le, r_gt, r_ge, rb_ite, rb_0, rb_1, w1, i1, i3, he, h1, h2, o1, o2, p])]
  rw [sQ_s (e1 := [37, 38, s, b, if B = true then 1 else 0, 0]) (σ1 := υ) (by
    refine (sD_0 (e1 := [37, 38, s, b, if B = true then 1 else 0, k]) ?_).trans rfl
    rw [sQ_s (e1 := [37, 38, s, b, if A = true then 1 else 0, 0]) (σ1 := υ) (by simp [xC_e, xL_e, xU_e, xB_e, xD_e, xF_e, xG_e, xA_e, xE_e, xH_e, xI_e, xZ_e, xK_e, aN_e, aC_e, cR_e, cV_e, cA_e, cO_e, cN_e, bs_e, bn_e, zg_0, zg_S, sS_e, sX_e, sF_e, sG_e, sA_e, sE_e, sEo_e, sK_e, sQ_e, sI_e, sR_e, sV_e, sB_e, sC_e, sD_e, sN_e, st_0, st_S, zc_0, zc_S])]
    exact hl)]
  cases B <;> simp [xC_e, xL_e, xU_e, xB_e, xD_e, xF_e, xG_e, xA_e, xE_e, xH_e, xI_e, xZ_e, xK_e, aN_e, aC_e, cR_e, cV_e, cA_e, cO_e, cN_e, bs_e, bn_e, zg_0, zg_S, sS_e, sX_e, sF_e, sG_e, sA_e, sE_e, sEo_e, sK_e, sQ_e, sI_e, sR_e, sV_e, sB_e, sC_e, sD_e, sN_e, st_0, st_S, zc_0, zc_S, r_eq, r_ne, r_lt, r_le, r_gt, r_ge, rb_ite, rb_0, rb_1]
theorem q_besta {σ : zHp} {n : Nat} {ea : Int} {U Q : Int → Int} (hn : σ 37 41 = n) (n6 : n ≤ 6) (he : σ 37 2 = ea) (e99 : 0 ≤ ea ∧ ea ≤ 99) (hU : ∀ b : Int, 0 ≤ b → b < n → σ 38 b = U b ∧ σ 38 (8 + b) = Q b) (bU : ∀ b : Int, 0 ≤ b → b < n → 1 ≤ U b ∧ U b ≤ 3762) (bQ : ∀ b : Int, 0 ≤ b → b < n → 1 ≤ Q b ∧ Q b ≤ 209152) :
    m_L_best_a [37, 38] σ = some (zSt2 (fun b => qIs ea U Q b n) n, σ) := by
  have l2 := zforP (c := lc_L_best_a_2) (f := lf_L_best_a_2) (i := 3) (lo := 0) (σ := σ) n (fun k => [37, 38, zSt2 (fun b => qIs ea U Q b n) k, 0 + (k : Int), 0, 0]) (fun k => rfl) (by decide) (by omega)
    (fun k hk => by
      rw [q_beC2a hn]
      have : (0 + (k : Int) < (n : Int)) ↔ k < n := by omega
      simp only [this])
    (fun k hk => by
      have kU := hU k (by omega) (by omega)
      have k1 := bU k (by omega) (by omega)
      have k2 := bQ k (by omega) (by omega)
      have m1 := zmul_i (x := ea) (y := Q k) 99 209152 (by omega) (by omega)
      have l1 := zforP (c := lc_L_best_a_1) (f := lf_L_best_a_1) (i := 5) (lo := 0) (σ := σ) n (fun j => [37, 38, zSt2 (fun b => qIs ea U Q b n) k, (k : Int), if qIs ea U Q k j = true then 1 else 0, 0 + (j : Int)]) (fun j => rfl) (by decide) (by omega)
        (fun j hj => by
          rw [q_beC1a hn]
          have : (0 + (j : Int) < (n : Int)) ↔ j < n := by omega
          simp only [this])
        (fun j hj => by
          have jU := hU j (by omega) (by omega)
          have j1 := bU j (by omega) (by omega)
          have j2 := bQ j (by omega) (by omega)
          have m2 := zmul_i (x := U j) (y := Q k) 3762 209152 (by omega) (by omega)
          have m3 := zmul_i (x := U k) (y := Q j) 3762 209152 (by omega) (by omega)
          have body := q_beB1a (υ := σ) (s := zSt2 (fun b => qIs ea U Q b n) k) (b := (k : Int)) (k := (j : Int)) (B := qIs ea U Q k j) (by omega) (by omega) kU.1 kU.2 jU.1 jU.2 (w64_id (x := U j * Q k) ⟨by omega, by omega⟩) (w64_id (x := U k * Q j) ⟨by omega, by omega⟩)
          rw [z0k]
          exact ⟨0, _, body, Or.inl rfl, rfl, rfl⟩)
      have body := q_beB2a (υ := σ) (s := zSt2 (fun b => qIs ea U Q b n) k) (b := (k : Int)) (ea := ea) (A := qIs ea U Q k 0) (B := qIs ea U Q k n) (k := 0 + (n : Int)) (by omega) he kU.1 kU.2 (w64_id (x := 10 * U k) ⟨by omega, by omega⟩) (w64_id (x := ea * Q k) ⟨by omega, by omega⟩) rfl l1
      rw [z0k]
      exact ⟨0, _, body, Or.inl rfl, rfl, rfl⟩)
  have l3 : sW lc_L_best_a_2 lf_L_best_a_2 ls_L_best_a_2 [37, 38, 0, 0, 0, 0] σ = some (0, [37, 38, zSt2 (fun b => qIs ea U Q b n) n, 0 + (n : Int), 0, 0], σ) := l2
  rw [e_L_best_a]
  unfold d_L_best_a
  rw [sQ_s (e1 := [37, 38, 0, 0, 0, 0]) (σ1 := σ) (by simp [xC_e, xL_e, xU_e, xB_e, xD_e, xF_e, xG_e, xA_e, xE_e, xH_e, xI_e, xZ_e, xK_e, aN_e, aC_e, cR_e, cV_e, cA_e, cO_e, cN_e, bs_e, bn_e, zg_0, zg_S, sS_e, sX_e, sF_e, sG_e, sA_e, sE_e, sEo_e, sK_e, sQ_e, sI_e, sR_e, sV_e, sB_e, sC_e, sD_e, sN_e, st_0, st_S, zc_0, zc_S])]
  rw [sQ_s (e1 := [37, 38, zSt2 (fun b => qIs ea U Q b n) n, 0, 0, 0]) (σ1 := σ) (by
    refine (sD_0 (e1 := [37, 38, zSt2 (fun b => qIs ea U Q b n) n, 0 + (n : Int), 0, 0]) ?_).trans rfl
    rw [sQ_s (e1 := [37, 38, 0, 0, 0, 0]) (σ1 := σ) (by simp [xC_e, xL_e, xU_e, xB_e, xD_e, xF_e, xG_e, xA_e, xE_e, xH_e, xI_e, xZ_e, xK_e, aN_e, aC_e, cR_e, cV_e, cA_e, cO_e, cN_e, bs_e, bn_e, zg_0, zg_S, sS_e, sX_e, sF_e, sG_e, sA_e, sE_e, sEo_e, sK_e, sQ_e, sI_e, sR_e, sV_e, sB_e, sC_e, sD_e, sN_e, st_0, st_S, zc_0, zc_S])]
    exact l3)]
  simp [xC_e, xL_e, xU_e, xB_e, xD_e, xF_e, xG_e, xA_e, xE_e, xH_e, xI_e, xZ_e, xK_e, aN_e, aC_e, cR_e, cV_e, cA_e, cO_e, cN_e, bs_e, bn_e, zg_0, zg_S, sS_e, sX_e, sF_e, sG_e, sA_e, sE_e, sEo_e, sK_e, sQ_e, sI_e, sR_e, sV_e, sB_e, sC_e, sD_e, sN_e, st_0, st_S, zc_0, zc_S]
theorem q_beC1b {υ : zHp} {s b i k n : Int} (h : υ 37 41 = n) : lc_L_best_b_1 [37, 41, s, b, i, k] υ = some (decide (k < n), υ) := by
  simp [lc_L_best_b_1, xC_e, xL_e, xU_e, xB_e, xD_e, xF_e, xG_e, xA_e, xE_e, xH_e, xI_e, xZ_e, xK_e, aN_e, aC_e, cR_e, cV_e, cA_e, cO_e, cN_e, bs_e, bn_e, zg_0, zg_S, sS_e, sX_e, sF_e, sG_e, sA_e, sE_e, sEo_e, sK_e, sQ_e, sI_e, sR_e, sV_e, sB_e, sC_e, sD_e, sN_e, st_0, st_S, zc_0, zc_S, r_eq, r_ne, r_lt, r_le, r_gt, r_ge, rb_ite, rb_0, rb_1, h]
theorem q_beC2b {υ : zHp} {s b i k n : Int} (h : υ 37 41 = n) : lc_L_best_b_2 [37, 41, s, b, i, k] υ = some (decide (b < n), υ) := by
  simp [lc_L_best_b_2, xC_e, xL_e, xU_e, xB_e, xD_e, xF_e, xG_e, xA_e, xE_e, xH_e, xI_e, xZ_e, xK_e, aN_e, aC_e, cR_e, cV_e, cA_e, cO_e, cN_e, bs_e, bn_e, zg_0, zg_S, sS_e, sX_e, sF_e, sG_e, sA_e, sE_e, sEo_e, sK_e, sQ_e, sI_e, sR_e, sV_e, sB_e, sC_e, sD_e, sN_e, st_0, st_S, zc_0, zc_S, r_eq, r_ne, r_lt, r_le, r_gt, r_ge, rb_ite, rb_0, rb_1, h]
theorem q_beB1b {υ : zHp} {s b k ub qb uk qk x y : Int} {B : Bool} (b6 : 0 ≤ b ∧ b < 6) (k6 : 0 ≤ k ∧ k < 6) (h1 : υ 41 b = ub) (h2 : υ 41 (8 + b) = qb) (h3 : υ 41 k = uk) (h4 : υ 41 (8 + k) = qk) (o1 : o_lmul uk qb = x) (o2 : o_lmul ub qk = y) :
    lf_L_best_b_1 [37, 41, s, b, if B = true then 1 else 0, k] υ = some (0, [37, 41, s, b, if (B && decide (x ≤ y)) = true then 1 else 0, k], υ) := by
  have w1 : o_iadd 8 b = 8 + b := w32_id ⟨by omega, by omega⟩
  have w2 : o_iadd 8 k = 8 + k := w32_id ⟨by omega, by omega⟩
  have i1 : 0 ≤ b ∧ b < 16 := by omega
  have i2 : 0 ≤ k ∧ k < 16 := by omega
  have i3 : 0 ≤ 8 + b ∧ 8 + b < 16 := by omega
  have i4 : 0 ≤ 8 + k ∧ 8 + k < 16 := by omega
  cases B
  · simp [lf_L_best_b_1, xC_e, xL_e, xU_e, xB_e, xD_e, xF_e, xG_e, xA_e, xE_e, xH_e, xI_e, xZ_e, xK_e, aN_e, aC_e, cR_e, cV_e, cA_e, cO_e, cN_e, bs_e, bn_e, zg_0, zg_S, sS_e, sX_e, sF_e, sG_e, sA_e, sE_e, sEo_e, sK_e, sQ_e, sI_e, sR_e, sV_e, sB_e, sC_e, sD_e, sN_e, st_0, st_S, zc_0, zc_S, r_eq, r_ne, r_lt, r_le, r_gt, r_ge, rb_ite, rb_0, rb_1]
  · by_cases p : x ≤ y <;> simp [lf_L_best_b_1, xC_e, xL_e, xU_e, xB_e, xD_e, xF_e, xG_e, xA_e, xE_e, xH_e, xI_e, xZ_e, xK_e, aN_e, aC_e, cR_e, cV_e, cA_e, cO_e, cN_e, bs_e, bn_e, zg_0, zg_S, sS_e, sX_e, sF_e, sG_e, sA_e, sE_e, sEo_e, sK_e, sQ_e, sI_e, sR_e, sV_e, sB_e, sC_e, sD_e, sN_e, st_0, st_S, zc_0, zc_S, r_eq, r_ne, r_lt, r_le, r_gt, r_ge, rb_ite, rb_0, rb_1, w1, w2, i1, i2, i3, i4, h1, h2, h3, h4, o1, o2, p]
theorem q_beB2b {υ : zHp} {s b ea ub qb x y k : Int} {A B : Bool} (b6 : 0 ≤ b ∧ b < 6) (he : υ 37 2 = ea) (h1 : υ 41 b = ub) (h2 : υ 41 (8 + b) = qb) (o1 : o_lmul 10 ub = x) (o2 : o_lmul ea qb = y) (hA : decide (y ≤ x) = A)
    (hl : sW lc_L_best_b_1 lf_L_best_b_1 ls_L_best_b_1 [37, 41, s, b, if A = true then 1 else 0, 0] υ = some (0, [37, 41, s, b, if B = true then 1 else 0, k], υ)) :
    lf_L_best_b_2 [37, 41, s, b, 0, 0] υ = some (0, [37, 41, zOr s (if B = true then zShl 1 b else 0), b, 0, 0], υ) := by
  have w1 : o_iadd 8 b = 8 + b := w32_id ⟨by omega, by omega⟩
  have i1 : 0 ≤ b ∧ b < 16 := by omega
  have i3 : 0 ≤ 8 + b ∧ 8 + b < 16 := by omega
  unfold lf_L_best_b_2
  refine (sD_0 (e1 := [37, 41, zOr s (if B = true then zShl 1 b else 0), b, if B = true then 1 else 0, 0]) ?_).trans rfl
  rw [sQ_s (e1 := [37, 41, s, b, if A = true then 1 else 0, 0]) (σ1 := υ) (by
    subst hA
    by_cases p : y ≤ x <;> simp [xC_e, xL_e, xU_e, xB_e, xD_e, xF_e, xG_e, xA_e, xE_e, xH_e, xI_e, xZ_e, xK_e, aN_e, aC_e, cR_e, cV_e, cA_e, cO_e, cN_e, bs_e, bn_e, zg_0, zg_S, sS_e, sX_e, sF_e, sG_e, sA_e, sE_e, sEo_e, sK_e, sQ_e, sI_e, sR_e, sV_e, sB_e, sC_e, sD_e, sN_e, st_0, st_S, zc_0, zc_S, r_eq, r_ne, r_lt, r_le, r_gt, r_ge, rb_ite, rb_0, rb_1, w1, i1, i3, he, h1, h2, o1, o2, p])]
  rw [sQ_s (e1 := [37, 41, s, b, if B = true then 1 else 0, 0]) (σ1 := υ) (by
    refine (sD_0 (e1 := [37, 41, s, b, if B = true then 1 else 0, k]) ?_).trans rfl
    rw [sQ_s (e1 := [37, 41, s, b, if A = true then 1 else 0, 0]) (σ1 := υ) (by simp [xC_e, xL_e, xU_e, xB_e, xD_e, xF_e, xG_e, xA_e, xE_e, xH_e, xI_e, xZ_e, xK_e, aN_e, aC_e, cR_e, cV_e, cA_e, cO_e, cN_e, bs_e, bn_e, zg_0, zg_S, sS_e, sX_e, sF_e, sG_e, sA_e, sE_e, sEo_e, sK_e, sQ_e, sI_e, sR_e, sV_e, sB_e, sC_e, sD_e, sN_e, st_0, st_S, zc_0, zc_S])]
    exact hl)]
  cases B <;> simp [xC_e, xL_e, xU_e, xB_e, xD_e, xF_e, xG_e, xA_e, xE_e, xH_e, xI_e, xZ_e, xK_e, aN_e, aC_e, cR_e, cV_e, cA_e, cO_e, cN_e, bs_e, bn_e, zg_0, zg_S, sS_e, sX_e, sF_e, sG_e, sA_e, sE_e, sEo_e, sK_e, sQ_e, sI_e, sR_e, sV_e, sB_e, sC_e, sD_e, sN_e, st_0, st_S, zc_0, zc_S, r_eq, r_ne, r_lt, r_le, r_gt, r_ge, rb_ite, rb_0, rb_1]
theorem q_bestb {σ : zHp} {n : Nat} {ea : Int} {U Q : Int → Int} (hn : σ 37 41 = n) (n6 : n ≤ 6) (he : σ 37 2 = ea) (e99 : 0 ≤ ea ∧ ea ≤ 99) (hU : ∀ b : Int, 0 ≤ b → b < n → σ 41 b = U b ∧ σ 41 (8 + b) = Q b) (bU : ∀ b : Int, 0 ≤ b → b < n → 1 ≤ U b ∧ U b ≤ 3762) (bQ : ∀ b : Int, 0 ≤ b → b < n → 1 ≤ Q b ∧ Q b ≤ 209152) :
    m_L_best_b [37, 41] σ = some (zSt2 (fun b => qIs ea U Q b n) n, σ) := by
  have l2 := zforP (c := lc_L_best_b_2) (f := lf_L_best_b_2) (i := 3) (lo := 0) (σ := σ) n (fun k => [37, 41, zSt2 (fun b => qIs ea U Q b n) k, 0 + (k : Int), 0, 0]) (fun k => rfl) (by decide) (by omega)
    (fun k hk => by
      rw [q_beC2b hn]
      have : (0 + (k : Int) < (n : Int)) ↔ k < n := by omega
      simp only [this])
    (fun k hk => by
      have kU := hU k (by omega) (by omega)
      have k1 := bU k (by omega) (by omega)
      have k2 := bQ k (by omega) (by omega)
      have m1 := zmul_i (x := ea) (y := Q k) 99 209152 (by omega) (by omega)
      have l1 := zforP (c := lc_L_best_b_1) (f := lf_L_best_b_1) (i := 5) (lo := 0) (σ := σ) n (fun j => [37, 41, zSt2 (fun b => qIs ea U Q b n) k, (k : Int), if qIs ea U Q k j = true then 1 else 0, 0 + (j : Int)]) (fun j => rfl) (by decide) (by omega)
        (fun j hj => by
          rw [q_beC1b hn]
          have : (0 + (j : Int) < (n : Int)) ↔ j < n := by omega
          simp only [this])
        (fun j hj => by
          have jU := hU j (by omega) (by omega)
          have j1 := bU j (by omega) (by omega)
          have j2 := bQ j (by omega) (by omega)
          have m2 := zmul_i (x := U j) (y := Q k) 3762 209152 (by omega) (by omega)
          have m3 := zmul_i (x := U k) (y := Q j) 3762 209152 (by omega) (by omega)
          have body := q_beB1b (υ := σ) (s := zSt2 (fun b => qIs ea U Q b n) k) (b := (k : Int)) (k := (j : Int)) (B := qIs ea U Q k j) (by omega) (by omega) kU.1 kU.2 jU.1 jU.2 (w64_id (x := U j * Q k) ⟨by omega, by omega⟩) (w64_id (x := U k * Q j) ⟨by omega, by omega⟩)
          rw [z0k]
          exact ⟨0, _, body, Or.inl rfl, rfl, rfl⟩)
      have body := q_beB2b (υ := σ) (s := zSt2 (fun b => qIs ea U Q b n) k) (b := (k : Int)) (ea := ea) (A := qIs ea U Q k 0) (B := qIs ea U Q k n) (k := 0 + (n : Int)) (by omega) he kU.1 kU.2 (w64_id (x := 10 * U k) ⟨by omega, by omega⟩) (w64_id (x := ea * Q k) ⟨by omega, by omega⟩) rfl l1
      rw [z0k]
      exact ⟨0, _, body, Or.inl rfl, rfl, rfl⟩)
  have l3 : sW lc_L_best_b_2 lf_L_best_b_2 ls_L_best_b_2 [37, 41, 0, 0, 0, 0] σ = some (0, [37, 41, zSt2 (fun b => qIs ea U Q b n) n, 0 + (n : Int), 0, 0], σ) := l2
  rw [e_L_best_b]
  unfold d_L_best_b
  rw [sQ_s (e1 := [37, 41, 0, 0, 0, 0]) (σ1 := σ) (by simp [xC_e, xL_e, xU_e, xB_e, xD_e, xF_e, xG_e, xA_e, xE_e, xH_e, xI_e, xZ_e, xK_e, aN_e, aC_e, cR_e, cV_e, cA_e, cO_e, cN_e, bs_e, bn_e, zg_0, zg_S, sS_e, sX_e, sF_e, sG_e, sA_e, sE_e, sEo_e, sK_e, sQ_e, sI_e, sR_e, sV_e, sB_e, sC_e, sD_e, sN_e, st_0, st_S, zc_0, zc_S])]
  rw [sQ_s (e1 := [37, 41, zSt2 (fun b => qIs ea U Q b n) n, 0, 0, 0]) (σ1 := σ) (by
    refine (sD_0 (e1 := [37, 41, zSt2 (fun b => qIs ea U Q b n) n, 0 + (n : Int), 0, 0]) ?_).trans rfl
    rw [sQ_s (e1 := [37, 41, 0, 0, 0, 0]) (σ1 := σ) (by simp [xC_e, xL_e, xU_e, xB_e, xD_e, xF_e, xG_e, xA_e, xE_e, xH_e, xI_e, xZ_e, xK_e, aN_e, aC_e, cR_e, cV_e, cA_e, cO_e, cN_e, bs_e, bn_e, zg_0, zg_S, sS_e, sX_e, sF_e, sG_e, sA_e, sE_e, sEo_e, sK_e, sQ_e, sI_e, sR_e, sV_e, sB_e, sC_e, sD_e, sN_e, st_0, st_S, zc_0, zc_S])]
    exact l3)]
  simp [xC_e, xL_e, xU_e, xB_e, xD_e, xF_e, xG_e, xA_e, xE_e, xH_e, xI_e, xZ_e, xK_e, aN_e, aC_e, cR_e, cV_e, cA_e, cO_e, cN_e, bs_e, bn_e, zg_0, zg_S, sS_e, sX_e, sF_e, sG_e, sA_e, sE_e, sEo_e, sK_e, sQ_e, sI_e, sR_e, sV_e, sB_e, sC_e, sD_e, sN_e, st_0, st_S, zc_0, zc_S]
/-- it is the class's own order -/
theorem qIs_top {n C : Nat} {K F ea : Int} {P Q G : Int → Int → Int} (hP : zPc n C K F ea P Q G) {V : Int → Int} {b c : Int} (hb : 0 ≤ b ∧ b < n) (hc : 0 ≤ c ∧ c < C) : qIs ea (fun b => V b * P b c) (fun b => Q b c) b n = true ↔ zTop F (zLd V G c) n b := by
  obtain ⟨n7, C30, e99, hK, hF, hB⟩ := hP
  have B := hB b c hb.1 hb.2 hc.1 hc.2
  rw [qIs_e]
  unfold zTop zLd
  have h1 : ea * Q b c ≤ 10 * (V b * P b c) ↔ F ≤ V b * G b c := by
    rw [← zhear2 hK (show 0 < Q b c by omega) B.2.2.2 hF, Int.mul_assoc]
  have h2 : ∀ x : Int, 0 ≤ x → x < n → (V x * P x c * Q b c ≤ V b * P b c * Q x c ↔ V x * G x c ≤ V b * G b c) := fun x x0 x1 => by
    have X := hB x c x0 x1 hc.1 hc.2
    have z := (zcmp (wa := V x) (wb := V b) hK (show 0 < Q x c by omega) (show 0 < Q b c by omega) X.2.2.2 B.2.2.2).1
    omega
  exact ⟨fun h => ⟨h1.mp h.1, fun x x0 x1 => (h2 x x0 x1).mp (h.2 x x0 x1)⟩, fun h => ⟨h1.mpr h.1, fun x x0 x1 => (h2 x x0 x1).mpr (h.2 x x0 x1)⟩⟩
