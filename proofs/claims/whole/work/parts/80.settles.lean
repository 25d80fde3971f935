/-! settles -/
def zAw (V : Int → Int) : Nat → Int
  | 0 => 0
  | k + 1 => 100 * zAw V k + V k
theorem zAw_b {V : Int → Int} : ∀ n : Nat, n ≤ 6 → (∀ b : Int, 0 ≤ b → b < n → 1 ≤ V b ∧ V b ≤ 99) → 0 ≤ zAw V n ∧ zAw V n < 100 ^ n
  | 0, _, _ => ⟨Int.le_refl _, by show (0 : Int) < 100 ^ 0; decide⟩
  | n + 1, hn, h => by
    have ih := zAw_b (V := V) n (by omega) (fun b b0 b1 => h b b0 (by omega))
    have hv := h n (by omega) (by omega)
    show 0 ≤ 100 * zAw V n + V n ∧ 100 * zAw V n + V n < 100 ^ (n + 1)
    have e : (100 : Int) ^ (n + 1) = 100 * 100 ^ n := by rw [Int.pow_succ, Int.mul_comm]
    omega
theorem zAw_B {V : Int → Int} {n : Nat} (hn : n ≤ 6) (h : zWt n V) : 0 ≤ zAw V n ∧ zAw V n < 1000000000000 := by
  have b := zAw_b (V := V) n hn h
  have p : (100 : Int) ^ n ≤ 100 ^ 6 := by
    rcases (show n = 0 ∨ n = 1 ∨ n = 2 ∨ n = 3 ∨ n = 4 ∨ n = 5 ∨ n = 6 by omega) with rfl | rfl | rfl | rfl | rfl | rfl | rfl <;> decide
  have e : (100 : Int) ^ 6 = 1000000000000 := by decide
  omega
theorem zAw_i {V U : Int → Int} : ∀ n : Nat, (∀ b : Int, 0 ≤ b → b < n → 1 ≤ V b ∧ V b ≤ 99) → (∀ b : Int, 0 ≤ b → b < n → 1 ≤ U b ∧ U b ≤ 99) → (zAw V n = zAw U n ↔ ∀ b : Int, 0 ≤ b → b < n → V b = U b)
  | 0, _, _ => ⟨fun _ b b0 b1 => by omega, fun _ => rfl⟩
  | n + 1, h, g => by
    have ih := zAw_i (V := V) (U := U) n (fun b b0 b1 => h b b0 (by omega)) (fun b b0 b1 => g b b0 (by omega))
    have hv := h n (by omega) (by omega)
    have hu := g n (by omega) (by omega)
    show 100 * zAw V n + V n = 100 * zAw U n + U n ↔ _
    constructor
    · intro e b b0 b1
      by_cases z : b = (n : Int)
      · rw [z]; omega
      · exact ih.mp (by omega) b b0 (by omega)
    · intro e
      have e1 := ih.mpr (fun b b0 b1 => e b b0 (by omega))
      have e2 := e n (by omega) (by omega)
      omega
theorem w_awgBody {υ : zHp} {s k v x y : Int} (k6 : 0 ≤ k ∧ k < 6) (h : υ 26 k = v) (o1 : o_lmul 100 s = x) (o2 : o_ladd x v = y) : lf_X2_allWeights_1 [25, s, 0, k] υ = some (0, [25, y, 0, k], υ) := by
  simp [lf_X2_allWeights_1, xC_e, xL_e, xU_e, xB_e, xD_e, xF_e, xG_e, xA_e, xE_e, xH_e, xI_e, xZ_e, xK_e, aN_e, aC_e, cR_e, cV_e, cA_e, cO_e, cN_e, bs_e, bn_e, zg_0, zg_S, sS_e, sX_e, sF_e, sG_e, sA_e, sE_e, sEo_e, sK_e, sQ_e, sI_e, sR_e, sV_e, sB_e, sC_e, sD_e, sN_e, sP_e, sY_e, st_0, st_S, zc_0, zc_S, k6, h, o1, o2]
theorem w_awgEval {υ : zHp} {s k : Int} (hl : sW lc_X2_allWeights_1 lf_X2_allWeights_1 ls_X2_allWeights_1 [25, 0, 0, 0] υ = some (0, [25, s, 0, k], υ)) : m_X2_allWeights [25] υ = some (s, υ) := by
  simp [e_X2_allWeights, d_X2_allWeights, xC_e, xL_e, xU_e, xB_e, xD_e, xF_e, xG_e, xA_e, xE_e, xH_e, xI_e, xZ_e, xK_e, aN_e, aC_e, cR_e, cV_e, cA_e, cO_e, cN_e, bs_e, bn_e, zg_0, zg_S, sS_e, sX_e, sF_e, sG_e, sA_e, sE_e, sEo_e, sK_e, sQ_e, sI_e, sR_e, sV_e, sB_e, sC_e, sD_e, sN_e, sP_e, sY_e, st_0, st_S, zc_0, zc_S, hl]
theorem w_awg {σ : zHp} {n : Nat} (hn : n ≤ 6) (h6 : σ 6 0 = n) {V : Int → Int} (hV : ∀ b : Int, 0 ≤ b → b < n → σ 26 b = V b) (hW : zWt n V) : m_X2_allWeights [25] σ = some (zAw V n, σ) := by
  refine w_awgEval (k := 0 + (n : Int)) (zforP (c := lc_X2_allWeights_1) (f := lf_X2_allWeights_1) (i := 3) (lo := 0) n (fun k => [25, zAw V k, 0, 0 + (k : Int)]) (fun k => rfl) (by decide) (by omega)
    (fun k hk => zc_lt (i := 3) (x := 0 + (k : Int)) rfl (zx_G (N := n) h6) (by omega)) (fun k hk => ?_))
  have b := zAw_B (V := V) (n := k) (by omega) (fun b b0 b1 => hW b b0 (by omega))
  have hv := hW k (by omega) (by omega)
  have body := w_awgBody (υ := σ) (s := zAw V k) (k := (k : Int)) (v := V k) (x := 100 * zAw V k) (y := zAw V (k + 1)) (by omega) (hV k (by omega) (by omega)) (w64_id ⟨by omega, by omega⟩) (by
    show w64 (100 * zAw V k + V k) = 100 * zAw V k + V k
    exact w64_id ⟨by omega, by omega⟩)
  rw [z0k, z0k]
  exact ⟨_, _, body, Or.inl rfl, rfl, rfl⟩
/-- the last of those ahead -/
def zLst (p : Nat → Bool) : Nat → Int
  | 0 => -1
  | k + 1 => if p k = true then (k : Int) else zLst p k
theorem zLst_i (p : Nat → Bool) : ∀ k : Nat, -1 ≤ zLst p k ∧ zLst p k < k
  | 0 => by show -1 ≤ (-1 : Int) ∧ (-1 : Int) < 0; omega
  | k + 1 => by
    have := zLst_i p k
    unfold zLst
    split <;> omega
def zFr (q : Nat → Int) : Nat → Int × Int
  | 0 => (-9, -9)
  | k + 1 => if (zFr q k).1 ≠ -9 then zFr q k else if q (k + 1) ≠ -1 then (((k + 1 : Nat) : Int), ((k + 1 : Nat) : Int) - q (k + 1)) else (-9, -9)
theorem zFr_S (q : Nat → Int) (k : Nat) : zFr q (k + 1) = if (zFr q k).1 ≠ -9 then zFr q k else if q (k + 1) ≠ -1 then (((k + 1 : Nat) : Int), ((k + 1 : Nat) : Int) - q (k + 1)) else (-9, -9) := rfl
theorem zFr_st {q : Nat → Int} {k : Nat} (h : (zFr q k).1 ≠ -9) : ∀ d, zFr q (k + d) = zFr q k
  | 0 => rfl
  | d + 1 => by
    show zFr q (k + d + 1) = _
    rw [zFr_S, zFr_st h d, if_pos h]
theorem zFr_i {q : Nat → Int} (hq : ∀ k, -1 ≤ q k ∧ q k < k) : ∀ k : Nat, ((zFr q k).1 = -9 ∧ (zFr q k).2 = -9) ∨ (1 ≤ (zFr q k).1 ∧ 1 ≤ (zFr q k).2)
  | 0 => Or.inl ⟨rfl, rfl⟩
  | k + 1 => by
    have ih := zFr_i hq k
    rw [zFr_S]
    split
    · exact ih
    · split
      · have := hq (k + 1)
        exact Or.inr ⟨by show (1 : Int) ≤ ((k + 1 : Nat) : Int); omega, by show (1 : Int) ≤ ((k + 1 : Nat) : Int) - q (k + 1); omega⟩
      · exact Or.inl ⟨rfl, rfl⟩
theorem w_gu1Body {υ : zHp} {d e x y r : Int} (e201 : 0 ≤ e ∧ e < 201) (d201 : 0 ≤ d ∧ d < 201) (h1 : υ 27 e = x) (h2 : υ 27 d = y) (o1 : o_isub d e = r) : lf_X2_goUntilRepeated_1 [25, d, e] υ = some (0, [25, d, e], if x = y then zput (zput υ 25 4 d) 25 5 r else υ) := by
  by_cases p : x = y <;> simp [lf_X2_goUntilRepeated_1, xC_e, xL_e, xU_e, xB_e, xD_e, xF_e, xG_e, xA_e, xE_e, xH_e, xI_e, xZ_e, xK_e, aN_e, aC_e, cR_e, cV_e, cA_e, cO_e, cN_e, bs_e, bn_e, zg_0, zg_S, sS_e, sX_e, sF_e, sG_e, sA_e, sE_e, sEo_e, sK_e, sQ_e, sI_e, sR_e, sV_e, sB_e, sC_e, sD_e, sN_e, sP_e, sY_e, st_0, st_S, zc_0, zc_S, r_eq, r_ne, r_lt, r_le, r_gt, r_ge, rb_ite, rb_0, rb_1, e201, d201, h1, h2, o1, p]
theorem w_gu2C {υ : zHp} {d z g : Int} (h : υ 25 5 = g) : lc_X2_goUntilRepeated_2 [25, d, z] υ = some (decide (d ≤ 200 ∧ g = -9), υ) := by
  by_cases p : d ≤ 200
  · by_cases q : g = -9 <;> simp [lc_X2_goUntilRepeated_2, xC_e, xL_e, xU_e, xB_e, xD_e, xF_e, xG_e, xA_e, xE_e, xH_e, xI_e, xZ_e, xK_e, aN_e, aC_e, cR_e, cV_e, cA_e, cO_e, cN_e, bs_e, bn_e, zg_0, zg_S, sS_e, sX_e, sF_e, sG_e, sA_e, sE_e, sEo_e, sK_e, sQ_e, sI_e, sR_e, sV_e, sB_e, sC_e, sD_e, sN_e, sP_e, sY_e, st_0, st_S, zc_0, zc_S, r_eq, r_ne, r_lt, r_le, r_gt, r_ge, rb_ite, rb_0, rb_1, p, q, h]
  · simp [lc_X2_goUntilRepeated_2, xC_e, xL_e, xU_e, xB_e, xD_e, xF_e, xG_e, xA_e, xE_e, xH_e, xI_e, xZ_e, xK_e, aN_e, aC_e, cR_e, cV_e, cA_e, cO_e, cN_e, bs_e, bn_e, zg_0, zg_S, sS_e, sX_e, sF_e, sG_e, sA_e, sE_e, sEo_e, sK_e, sQ_e, sI_e, sR_e, sV_e, sB_e, sC_e, sD_e, sN_e, sP_e, sY_e, st_0, st_S, zc_0, zc_S, r_eq, r_ne, r_lt, r_le, r_gt, r_ge, rb_ite, rb_0, rb_1, p]
theorem w_gu2Body {υ τ τ2 : zHp} {d v k : Int} (d201 : 0 ≤ d ∧ d < 201) (h1 : m_X2_goRound [25] υ = some (0, τ)) (h2 : m_X2_allWeights [25] τ = some (v, τ)) (hl : sW lc_X2_goUntilRepeated_1 lf_X2_goUntilRepeated_1 ls_X2_goUntilRepeated_1 [25, d, 0] (zput τ 27 d v) = some (0, [25, d, k], τ2)) : lf_X2_goUntilRepeated_2 [25, d, 0] υ = some (0, [25, d, 0], τ2) := by
  simp [lf_X2_goUntilRepeated_2, xC_e, xL_e, xU_e, xB_e, xD_e, xF_e, xG_e, xA_e, xE_e, xH_e, xI_e, xZ_e, xK_e, aN_e, aC_e, cR_e, cV_e, cA_e, cO_e, cN_e, bs_e, bn_e, zg_0, zg_S, sS_e, sX_e, sF_e, sG_e, sA_e, sE_e, sEo_e, sK_e, sQ_e, sI_e, sR_e, sV_e, sB_e, sC_e, sD_e, sN_e, sP_e, sY_e, st_0, st_S, zc_0, zc_S, d201, h1, h2, hl]
theorem w_guStep {υ : zHp} {d d2 : Int} (h : o_iadd d 1 = d2) : ls_X2_goUntilRepeated_2 [25, d, 0] υ = some (0, [25, d2, 0], υ) := by
  simp only [ls_X2_goUntilRepeated_2, xC_e, xL_e, xU_e, xB_e, xD_e, xF_e, xG_e, xA_e, xE_e, xH_e, xI_e, xZ_e, xK_e, aN_e, aC_e, cR_e, cV_e, cA_e, cO_e, cN_e, bs_e, bn_e, zg_0, zg_S, sS_e, sX_e, sF_e, sG_e, sA_e, sE_e, sEo_e, sK_e, sQ_e, sI_e, sR_e, sV_e, sB_e, sC_e, sD_e, sN_e, sP_e, sY_e, st_0, st_S, zc_0, zc_S, h]
theorem w_guEval {υ τ τ2 : zHp} {v d : Int} (hτ : zcopy υ 9 0 26 0 6 = τ) (h2 : m_X2_allWeights [25] τ = some (v, τ)) (hl : sW lc_X2_goUntilRepeated_2 lf_X2_goUntilRepeated_2 ls_X2_goUntilRepeated_2 [25, 1, 0] (zput (zput (zput τ 27 0 v) 25 4 (-9)) 25 5 (-9)) = some (0, [25, d, 0], τ2)) : m_X2_goUntilRepeated [25] υ = some (0, τ2) := by
  simp [e_X2_goUntilRepeated, d_X2_goUntilRepeated, xC_e, xL_e, xU_e, xB_e, xD_e, xF_e, xG_e, xA_e, xE_e, xH_e, xI_e, xZ_e, xK_e, aN_e, aC_e, cR_e, cV_e, cA_e, cO_e, cN_e, bs_e, bn_e, zg_0, zg_S, sS_e, sX_e, sF_e, sG_e, sA_e, sE_e, sEo_e, sK_e, sQ_e, sI_e, sR_e, sV_e, sB_e, sC_e, sD_e, sN_e, sP_e, sY_e, st_0, st_S, zc_0, zc_S, w_beg, hτ, h2, hl]
/-- whether two rounds are alike -/
def zAk (F : Int) (G : Int → Int → Int) (n C : Nat) (W : Int → Int) (r e : Nat) : Bool := decide (zAw (zRnd F G n C W e) n = zAw (zRnd F G n C W r) n)
def zQr (F : Int) (G : Int → Int → Int) (n C : Nat) (W : Int → Int) (r : Nat) : Int := zLst (zAk F G n C W r) r
theorem w_gu1 {σ : zHp} {d : Nat} (hd : d ≤ 200) (h45 : σ 25 4 = -9 ∧ σ 25 5 = -9) {S : Nat → Int} (hS : ∀ j : Nat, j ≤ d → σ 27 j = S j) : ∃ τ, sW lc_X2_goUntilRepeated_1 lf_X2_goUntilRepeated_1 ls_X2_goUntilRepeated_1 [25, (d : Int), 0] σ = some (0, [25, (d : Int), 0 + (d : Int)], τ) ∧ (∀ a b : Int, ¬ (a = 25 ∧ (b = 4 ∨ b = 5)) → τ a b = σ a b) ∧ ((zLst (fun e => decide (S e = S d)) d = -1 ∧ τ 25 4 = -9 ∧ τ 25 5 = -9) ∨ (zLst (fun e => decide (S e = S d)) d ≠ -1 ∧ τ 25 4 = d ∧ τ 25 5 = (d : Int) - zLst (fun e => decide (S e = S d)) d)) := by
  obtain ⟨τ, l, z1, z2⟩ := zfor0 (c := lc_X2_goUntilRepeated_1) (f := lf_X2_goUntilRepeated_1) (i := 2) (lo := 0) (σ := σ) d (fun k => [25, (d : Int), 0 + (k : Int)]) (fun k x => (∀ a b : Int, ¬ (a = 25 ∧ (b = 4 ∨ b = 5)) → x a b = σ a b) ∧ ((zLst (fun e => decide (S e = S d)) k = -1 ∧ x 25 4 = -9 ∧ x 25 5 = -9) ∨ (zLst (fun e => decide (S e = S d)) k ≠ -1 ∧ x 25 4 = d ∧ x 25 5 = (d : Int) - zLst (fun e => decide (S e = S d)) k)))
    ⟨fun _ _ _ => rfl, Or.inl ⟨rfl, h45.1, h45.2⟩⟩ (fun k => rfl) (by decide) (by omega)
    (fun k x hk hx => zc_lt (i := 2) (x := 0 + (k : Int)) (N := (d : Int)) rfl (xL_e _ _ _) (by omega))
    (fun k x hk hx => by
      obtain ⟨x1, x2⟩ := hx
      have e : o_isub (d : Int) (k : Int) = (d : Int) - (k : Int) := w32_id ⟨by omega, by omega⟩
      have body := w_gu1Body (υ := x) (d := (d : Int)) (e := (k : Int)) (x := S k) (y := S d) (by omega) (by omega) (by rw [x1 27 k (by omega)]; exact hS k (by omega)) (by rw [x1 27 d (by omega)]; exact hS d (Nat.le_refl _)) e
      have S2 : zLst (fun e => decide (S e = S d)) (k + 1) = if decide (S k = S d) = true then (k : Int) else zLst (fun e => decide (S e = S d)) k := rfl
      rw [z0k, z0k]
      refine ⟨_, _, _, body, Or.inl rfl, rfl, rfl, ?_, ?_⟩
      · intro a b h
        split
        · rw [zput_n (by omega), zput_n (by omega)]
          exact x1 a b h
        · exact x1 a b h
      · by_cases p : S k = S d
        · rw [if_pos p]
          rw [if_pos (decide_eq_true p)] at S2
          rw [S2]
          exact Or.inr ⟨by omega, by rw [zput_i (by decide), zput_self], zput_self _ _ _ _⟩
        · rw [if_neg p]
          rw [if_neg (by rw [decide_eq_false p]; decide)] at S2
          rw [S2]
          exact x2)
  exact ⟨τ, l, z1, z2⟩
theorem w_gu {σ : zHp} {n C : Nat} {F : Int} {W : Int → Int} {G : Int → Int → Int} (hC : zCp σ n C F W G) (hQ : zCq n C F G) (hW : zWt n W) : ∃ τ, m_X2_goUntilRepeated [25] σ = some (0, τ) ∧ zFo σ τ ∧ τ 25 4 = (zFr (zQr F G n C W) 200).1 ∧ τ 25 5 = (zFr (zQr F G n C W) 200).2 := by
  have n6 := hQ.1
  have qi : ∀ k, -1 ≤ zQr F G n C W k ∧ zQr F G n C W k < k := fun k => zLst_i _ k
  generalize hτ : zcopy σ 9 0 26 0 6 = τ0
  have e0 : ∀ a b : Int, a ≠ 26 → τ0 a b = σ a b := fun a b h => by rw [← hτ, zcopy_o h]
  have t26 : ∀ b : Int, 0 ≤ b → b < n → τ0 26 b = W b := fun b b0 b1 => by rw [← hτ, zcopy_y ⟨b0, by omega⟩]; exact hC.2.2.2.1 b b0 b1
  have aw0 := w_awg n6 (by rw [e0 6 0 (by decide)]; exact hC.1) t26 hW
  generalize hx0 : zput (zput (zput τ0 27 0 (zAw W n)) 25 4 (-9)) 25 5 (-9) = x0
  have ex0 : ∀ a b : Int, ¬ (a = 27 ∧ b = 0) → ¬ (a = 25 ∧ (b = 4 ∨ b = 5)) → x0 a b = τ0 a b := fun a b q1 q2 => by rw [← hx0, zput_n (by omega), zput_n (by omega), zput_n q1]
  have hl := zl_m (c := lc_X2_goUntilRepeated_2) (f := lf_X2_goUntilRepeated_2) (s := ls_X2_goUntilRepeated_2)
    (fun k e x => zFo σ x ∧ k ≤ 200 ∧ e = [25, 1 + (k : Int), 0] ∧ (x 25 4 = (zFr (zQr F G n C W) k).1 ∧ x 25 5 = (zFr (zQr F G n C W) k).2) ∧ (∀ b : Int, 0 ≤ b → b < n → x 26 b = zRnd F G n C W k b) ∧ ∀ j : Nat, j ≤ k → x 27 j = zAw (zRnd F G n C W j) n)
    (fun t e x => zFo σ x ∧ t = 0 ∧ (∃ d : Int, e = [25, d, 0]) ∧ x 25 4 = (zFr (zQr F G n C W) 200).1 ∧ x 25 5 = (zFr (zQr F G n C W) 200).2) 200 (e := [25, 1, 0]) (σ := x0)
    ⟨fun a b q1 q2 q3 q4 => by rw [ex0 a b (by omega) q4, e0 a b q2], by decide, rfl, ⟨by rw [← hx0, zput_i (by decide), zput_self]; rfl, by rw [← hx0, zput_self]; rfl⟩, fun b b0 b1 => by rw [ex0 26 b (by omega) (by omega)]; exact t26 b b0 b1, fun j hj => by
      have : j = 0 := by omega
      subst this
      rw [← hx0, zput_o (by decide), zput_o (by decide)]
      exact zput_self _ _ _ _⟩
    (by
      rintro k e x ⟨hf, hk, rfl, ⟨r1, r2⟩, h26, h27⟩
      by_cases q : k < 200 ∧ (zFr (zQr F G n C W) k).2 = -9
      · refine Or.inr ⟨q.1, x, by rw [w_gu2C r2, decide_eq_true ⟨by omega, q.2⟩], ?_⟩
        have fi := zFr_i qi k
        have f1 : (zFr (zQr F G n C W) k).1 = -9 := by omega
        obtain ⟨y, y1, y2, y3⟩ := w_gr (hf.cp hC) hQ h26 (zRnd_W hW k)
        have hWk := zRnd_W (F := F) (G := G) (C := C) hW (k + 1)
        have aw := w_awg (V := zRnd F G n C W (k + 1)) n6 (by rw [y2 6 0 (by omega) (by omega)]; exact (hf.cp hC).1) y3 hWk
        have e1 : ((k + 1 : Nat) : Int) = 1 + (k : Int) := by omega
        obtain ⟨z, z1, z2, z3⟩ := w_gu1 (σ := zput y 27 (1 + (k : Int)) (zAw (zRnd F G n C W (k + 1)) n)) (d := k + 1) (by omega) (by
          rw [zput_o (by decide), zput_o (by decide), y2 25 4 (by omega) (by omega), y2 25 5 (by omega) (by omega), r1, r2]
          exact ⟨f1, q.2⟩) (S := fun j => zAw (zRnd F G n C W j) n) (fun j hj => by
          by_cases p : j = k + 1
          · subst p
            rw [e1, zput_self]
          · rw [zput_i (by omega), y2 27 _ (by omega) (by omega)]
            exact h27 j (by omega))
        rw [e1] at z1
        have body := w_gu2Body (by omega) y1 aw z1
        refine ⟨0, _, _, body, Or.inr ⟨Or.inl rfl, _, z, w_guStep (d2 := 1 + ((k + 1 : Nat) : Int)) ?_, ?_, by omega, rfl, ?_, fun b b0 b1 => ?_, fun j hj => ?_⟩⟩
        · have : o_iadd (1 + (k : Int)) 1 = 1 + (k : Int) + 1 := w32_id ⟨by omega, by omega⟩
          omega
        · intro a b q1 q2 q3 q4
          rw [z2 a b q4, zput_o q3, y2 a b q1 q2]
          exact hf a b q1 q2 q3 q4
        · have S := zFr_S (zQr F G n C W) k
          rw [if_neg (by simpa using f1)] at S
          have eq : zLst (fun e => decide (zAw (zRnd F G n C W e) n = zAw (zRnd F G n C W (k + 1)) n)) (k + 1) = zQr F G n C W (k + 1) := rfl
          rw [eq] at z3
          rcases z3 with ⟨p1, p2, p3⟩ | ⟨p1, p2, p3⟩
          · rw [if_neg (by simpa using p1)] at S
            rw [S]
            exact ⟨p2, p3⟩
          · rw [if_pos p1] at S
            rw [S]
            exact ⟨p2, p3⟩
        · rw [z2 26 b (by omega), zput_o (by decide), y3 b b0 b1]
          rfl
        · rw [z2 27 _ (by omega)]
          by_cases p : j = k + 1
          · subst p
            rw [e1, zput_self]
          · rw [zput_i (by omega), y2 27 _ (by omega) (by omega)]
            exact h27 j (by omega)
      · refine Or.inl ⟨x, by rw [w_gu2C r2, decide_eq_false (by omega)], hf, rfl, ⟨_, rfl⟩, ?_⟩
        by_cases q2 : k = 200
        · subst q2
          exact ⟨r1, r2⟩
        · have fi := zFr_i qi k
          have st := zFr_st (q := zQr F G n C W) (k := k) (by omega) (200 - k)
          rw [show k + (200 - k) = 200 by omega] at st
          rw [st]
          exact ⟨r1, r2⟩)
    (zf_lt (by decide))
  obtain ⟨t, e, x, hl, h1, rfl, ⟨d, rfl⟩, h2⟩ := hl
  refine ⟨x, w_guEval hτ aw0 (by rw [hx0]; exact hl), h1, h2⟩
/-! the reference's -/
theorem v_akBody {υ : zHp} {r e k x y i1 i2 : Int} (h1 : o_iadd (o_imul 6 r) k = i1) (h2 : o_iadd (o_imul 6 e) k = i2) (b1 : 0 ≤ i1 ∧ i1 < 1206) (b2 : 0 ≤ i2 ∧ i2 < 1206) (v1 : υ 56 i1 = x) (v2 : υ 56 i2 = y) : lf_X9_areAlike_1 [37, r, e, k] υ = if x = y then some (0, [37, r, e, k], υ) else some (1, [0], υ) := by
  by_cases p : x = y <;> simp [lf_X9_areAlike_1, xC_e, xL_e, xU_e, xB_e, xD_e, xF_e, xG_e, xA_e, xE_e, xH_e, xI_e, xZ_e, xK_e, aN_e, aC_e, cR_e, cV_e, cA_e, cO_e, cN_e, bs_e, bn_e, zg_0, zg_S, sS_e, sX_e, sF_e, sG_e, sA_e, sE_e, sEo_e, sK_e, sQ_e, sI_e, sR_e, sV_e, sB_e, sC_e, sD_e, sN_e, sP_e, sY_e, st_0, st_S, zc_0, zc_S, r_eq, r_ne, r_lt, r_le, r_gt, r_ge, rb_ite, rb_0, rb_1, h1, h2, b1, b2, v1, v2, p]
theorem v_akEval {υ : zHp} {r e x : Int} {t : Nat} {l : List Int} (hl : sW lc_X9_areAlike_1 lf_X9_areAlike_1 ls_X9_areAlike_1 [37, r, e, 0] υ = some (t, l, υ)) (hq : (t = 1 ∧ l = [0] ∧ x = 0) ∨ (t = 0 ∧ x = 1)) : m_X9_areAlike [37, r, e] υ = some (x, υ) := by
  rcases hq with ⟨rfl, rfl, rfl⟩ | ⟨rfl, rfl⟩
  · simp [e_X9_areAlike, d_X9_areAlike, xC_e, xL_e, xU_e, xB_e, xD_e, xF_e, xG_e, xA_e, xE_e, xH_e, xI_e, xZ_e, xK_e, aN_e, aC_e, cR_e, cV_e, cA_e, cO_e, cN_e, bs_e, bn_e, zg_0, zg_S, sS_e, sX_e, sF_e, sG_e, sA_e, sE_e, sEo_e, sK_e, sQ_e, sI_e, sR_e, sV_e, sB_e, sC_e, sD_e, sN_e, sP_e, sY_e, st_0, st_S, zc_0, zc_S, r_eq, r_ne, r_lt, r_le, r_gt, r_ge, rb_ite, rb_0, rb_1, hl]
  · simp [e_X9_areAlike, d_X9_areAlike, xC_e, xL_e, xU_e, xB_e, xD_e, xF_e, xG_e, xA_e, xE_e, xH_e, xI_e, xZ_e, xK_e, aN_e, aC_e, cR_e, cV_e, cA_e, cO_e, cN_e, bs_e, bn_e, zg_0, zg_S, sS_e, sX_e, sF_e, sG_e, sA_e, sE_e, sEo_e, sK_e, sQ_e, sI_e, sR_e, sV_e, sB_e, sC_e, sD_e, sN_e, sP_e, sY_e, st_0, st_S, zc_0, zc_S, r_eq, r_ne, r_lt, r_le, r_gt, r_ge, rb_ite, rb_0, rb_1, hl]
theorem v_ak {υ : zHp} {n C : Nat} {F : Int} {W : Int → Int} {G : Int → Int → Int} (n6 : n ≤ 6) (h14 : υ 37 14 = n) (hW : zWt n W) (h56 : ∀ k : Nat, k ≤ 200 → ∀ b : Int, 0 ≤ b → b < n → υ 56 (6 * (k : Int) + b) = zRnd F G n C W k b) {r e : Nat} (hr : r ≤ 200) (he : e ≤ 200) : m_X9_areAlike [37, (r : Int), (e : Int)] υ = some (if zAk F G n C W r e = true then 1 else 0, υ) := by
  have ai := zAw_i (V := zRnd F G n C W e) (U := zRnd F G n C W r) n (zRnd_W hW e) (zRnd_W hW r)
  have ix : ∀ q k : Nat, q ≤ 200 → k < n → o_iadd (o_imul 6 (q : Int)) (k : Int) = 6 * (q : Int) + (k : Int) := fun q k hq hk => by
    have : o_imul 6 (q : Int) = 6 * (q : Int) := w32_id ⟨by omega, by omega⟩
    rw [this]
    exact w32_id ⟨by omega, by omega⟩
  have hl := zfor (c := lc_X9_areAlike_1) (f := lf_X9_areAlike_1) (i := 3) (lo := 0) n (fun k => [37, (r : Int), (e : Int), 0 + (k : Int)]) (fun k τ => τ = υ ∧ ∀ b : Int, 0 ≤ b → b < k → zRnd F G n C W e b = zRnd F G n C W r b)
    (fun t l τ => τ = υ ∧ ((t = 1 ∧ l = [0] ∧ zAk F G n C W r e = false) ∨ (t = 0 ∧ zAk F G n C W r e = true))) (σ := υ) ⟨rfl, fun b b0 b1 => by omega⟩ (fun k => rfl) (by decide) (by omega)
    (fun k τ hk h => zc_lt (i := 3) (x := 0 + (k : Int)) rfl (zx_G (N := n) (by rw [h.1]; exact h14)) (by omega))
    (fun k τ hk h => by
      obtain ⟨rfl, h2⟩ := h
      have body := v_akBody (υ := τ) (ix r k hr hk) (ix e k he hk) (by omega) (by omega) (h56 r hr k (by omega) (by omega)) (h56 e he k (by omega) (by omega))
      rw [z0k, z0k, body]
      by_cases p : zRnd F G n C W r k = zRnd F G n C W e k
      · rw [if_pos p]
        refine Or.inr ⟨_, _, _, rfl, Or.inl rfl, rfl, rfl, rfl, fun b b0 b1 => ?_⟩
        by_cases z : b = (k : Int)
        · rw [z]; exact p.symm
        · exact h2 b b0 (by omega)
      · rw [if_neg p]
        exact Or.inl ⟨_, _, rfl, rfl, Or.inl ⟨rfl, rfl, decide_eq_false (fun z => p (ai.mp z k (by omega) (by omega)).symm)⟩⟩)
    (fun τ h => ⟨h.1, Or.inr ⟨rfl, decide_eq_true (ai.mpr h.2)⟩⟩)
  obtain ⟨t, l, τ, hl, rfl, hq⟩ := hl
  refine v_akEval hl ?_
  rcases hq with ⟨q1, q2, q3⟩ | ⟨q1, q2⟩
  · exact Or.inl ⟨q1, q2, by rw [q3]; rfl⟩
  · exact Or.inr ⟨q1, by rw [q2]; rfl⟩
theorem v_se1C {υ : zHp} {w q r e : Int} : lc_X9_settles_1 [37, w, q, r, e] υ = some (decide (0 ≤ e), υ) := by
  simp [lc_X9_settles_1, xC_e, xL_e, xU_e, xB_e, xD_e, xF_e, xG_e, xA_e, xE_e, xH_e, xI_e, xZ_e, xK_e, aN_e, aC_e, cR_e, cV_e, cA_e, cO_e, cN_e, bs_e, bn_e, zg_0, zg_S, sS_e, sX_e, sF_e, sG_e, sA_e, sE_e, sEo_e, sK_e, sQ_e, sI_e, sR_e, sV_e, sB_e, sC_e, sD_e, sN_e, sP_e, sY_e, st_0, st_S, zc_0, zc_S, r_eq, r_ne, r_lt, r_le, r_gt, r_ge, rb_ite, rb_0, rb_1]
theorem v_se1Body {υ : zHp} {w q r e d : Int} {x : Bool} (h : m_X9_areAlike [37, r, e] υ = some (if x = true then 1 else 0, υ)) (o1 : o_isub r e = d) : lf_X9_settles_1 [37, w, q, r, e] υ = if x = true then some (1, [if q = 0 then r else d], υ) else some (0, [37, w, q, r, e], υ) := by
  cases x
  · simp at h
    simp [lf_X9_settles_1, xC_e, xL_e, xU_e, xB_e, xD_e, xF_e, xG_e, xA_e, xE_e, xH_e, xI_e, xZ_e, xK_e, aN_e, aC_e, cR_e, cV_e, cA_e, cO_e, cN_e, bs_e, bn_e, zg_0, zg_S, sS_e, sX_e, sF_e, sG_e, sA_e, sE_e, sEo_e, sK_e, sQ_e, sI_e, sR_e, sV_e, sB_e, sC_e, sD_e, sN_e, sP_e, sY_e, st_0, st_S, zc_0, zc_S, r_eq, r_ne, r_lt, r_le, r_gt, r_ge, rb_ite, rb_0, rb_1, h, rb_0]
  · simp at h
    by_cases p : q = 0 <;> simp [lf_X9_settles_1, xC_e, xL_e, xU_e, xB_e, xD_e, xF_e, xG_e, xA_e, xE_e, xH_e, xI_e, xZ_e, xK_e, aN_e, aC_e, cR_e, cV_e, cA_e, cO_e, cN_e, bs_e, bn_e, zg_0, zg_S, sS_e, sX_e, sF_e, sG_e, sA_e, sE_e, sEo_e, sK_e, sQ_e, sI_e, sR_e, sV_e, sB_e, sC_e, sD_e, sN_e, sP_e, sY_e, st_0, st_S, zc_0, zc_S, r_eq, r_ne, r_lt, r_le, r_gt, r_ge, rb_ite, rb_0, rb_1, h, rb_1, p, o1]
theorem v_se1Step {υ : zHp} {w q r e d : Int} (h : o_iadd e (-1) = d) : ls_X9_settles_1 [37, w, q, r, e] υ = some (0, [37, w, q, r, d], υ) := by
  simp only [ls_X9_settles_1, xC_e, xL_e, xU_e, xB_e, xD_e, xF_e, xG_e, xA_e, xE_e, xH_e, xI_e, xZ_e, xK_e, aN_e, aC_e, cR_e, cV_e, cA_e, cO_e, cN_e, bs_e, bn_e, zg_0, zg_S, sS_e, sX_e, sF_e, sG_e, sA_e, sE_e, sEo_e, sK_e, sQ_e, sI_e, sR_e, sV_e, sB_e, sC_e, sD_e, sN_e, sP_e, sY_e, st_0, st_S, zc_0, zc_S, h]
theorem v_se1 {υ : zHp} {p : Nat → Bool} {r : Nat} (hr : 1 ≤ r ∧ r ≤ 200) (h : ∀ e : Nat, e < r → m_X9_areAlike [37, (r : Int), (e : Int)] υ = some (if p e = true then 1 else 0, υ)) (w q : Int) : ∃ t l, sW lc_X9_settles_1 lf_X9_settles_1 ls_X9_settles_1 [37, w, q, (r : Int), (r : Int) - 1] υ = some (t, l, υ) ∧ ((t = 1 ∧ zLst p r ≠ -1 ∧ l = [if q = 0 then (r : Int) else (r : Int) - zLst p r]) ∨ (t = 0 ∧ zLst p r = -1 ∧ l = [37, w, q, (r : Int), -1])) := by
  have hl := zl_m (c := lc_X9_settles_1) (f := lf_X9_settles_1) (s := ls_X9_settles_1) (fun k e τ => τ = υ ∧ k ≤ r ∧ e = [37, w, q, (r : Int), (r : Int) - 1 - (k : Int)] ∧ zLst p r = zLst p (r - k))
    (fun t l τ => τ = υ ∧ ((t = 1 ∧ zLst p r ≠ -1 ∧ l = [if q = 0 then (r : Int) else (r : Int) - zLst p r]) ∨ (t = 0 ∧ zLst p r = -1 ∧ l = [37, w, q, (r : Int), -1]))) r (e := [37, w, q, (r : Int), (r : Int) - 1]) (σ := υ) ⟨rfl, by omega, by simp, rfl⟩
    (by
      rintro k e τ ⟨rfl, hk, rfl, h2⟩
      by_cases g : k < r
      · refine Or.inr ⟨g, τ, by rw [v_se1C, decide_eq_true (by omega)], ?_⟩
        have e1 : (r : Int) - 1 - (k : Int) = ((r - k - 1 : Nat) : Int) := by omega
        have e2 : r - k = (r - k - 1) + 1 := by omega
        have S : zLst p ((r - k - 1) + 1) = if p (r - k - 1) = true then ((r - k - 1 : Nat) : Int) else zLst p (r - k - 1) := rfl
        rw [← e2, ← h2] at S
        have hh := h (r - k - 1) (by omega)
        have body := v_se1Body (w := w) (q := q) (d := (r : Int) - ((r - k - 1 : Nat) : Int)) hh (w32_id ⟨by omega, by omega⟩)
        rw [e1, body]
        by_cases z : p (r - k - 1) = true
        · rw [if_pos z] at S ⊢
          refine ⟨_, _, _, rfl, Or.inl ⟨rfl, rfl, Or.inl ⟨rfl, by omega, ?_⟩⟩⟩
          rw [S]
        · rw [if_neg z] at S ⊢
          refine ⟨_, _, _, rfl, Or.inr ⟨Or.inl rfl, _, _, v_se1Step (d := (r : Int) - 1 - ((k + 1 : Nat) : Int)) ?_, rfl, by omega, rfl, ?_⟩⟩
          · have : o_iadd ((r - k - 1 : Nat) : Int) (-1) = ((r - k - 1 : Nat) : Int) + -1 := w32_id ⟨by omega, by omega⟩
            omega
          · rw [S, show r - (k + 1) = r - k - 1 by omega]
      · refine Or.inl ⟨τ, by rw [v_se1C, decide_eq_false (by omega)], rfl, Or.inr ⟨rfl, ?_, ?_⟩⟩
        · rw [h2, show r - k = 0 by omega]
          rfl
        · rw [show (r : Int) - 1 - (k : Int) = -1 by omega])
    (zf_lt (by omega))
  obtain ⟨t, l, τ, hl, rfl, hq⟩ := hl
  exact ⟨t, l, hl, hq⟩
theorem v_se2Body {υ : zHp} {w q r d : Int} {t : Nat} {l : List Int} (h : o_isub r 1 = d) (hl : sW lc_X9_settles_1 lf_X9_settles_1 ls_X9_settles_1 [37, w, q, r, d] υ = some (t, l, υ)) : lf_X9_settles_2 [37, w, q, r, 0] υ = some (if t = 1 then (1, l, υ) else (t, zclr [4] l, υ)) := by
  by_cases p : t = 1
  · simp [lf_X9_settles_2, sD_e, sQ_e, sS_e, xB_e, xL_e, xC_e, bs_e, zg_S, zg_0, st_S, st_0, h, hl, p]
  · simp [lf_X9_settles_2, sD_e, sQ_e, sS_e, xB_e, xL_e, xC_e, bs_e, zg_S, zg_0, st_S, st_0, h, hl, p]
theorem zp22 : zp_22 zInv := by
  intro w q hwr hqr σ hI
  have hN := zI3 hI
  obtain ⟨nb1, nb2⟩ := zNb_e hI
  have ha : zOkA [0, 0] [w, q] := ⟨hwr, hqr, trivial⟩
  by_cases g2 : (0 ≤ w ∧ w ≤ 39) ∧ (0 ≤ q ∧ q ≤ 1)
  case neg =>
    refine zq k_X8_settles k_X9_settles hI ha (r := -2) (σ1 := σ) (σ2 := σ) ?_ ?_ (zSame.rf σ) (zSame.rf σ)
    · by_cases g3 : 0 ≤ w ∧ w ≤ 39
      · have g4 : ¬ (0 ≤ q ∧ q ≤ 1) := fun z => g2 ⟨g3, z⟩
        simp [e_X8_settles, d_X8_settles, xC_e, xL_e, xU_e, xB_e, xD_e, xF_e, xG_e, xA_e, xE_e, xH_e, xI_e, xZ_e, xK_e, aN_e, aC_e, cR_e, cV_e, cA_e, cO_e, cN_e, bs_e, bn_e, zg_0, zg_S, sS_e, sX_e, sF_e, sG_e, sA_e, sE_e, sEo_e, sK_e, sQ_e, sI_e, sR_e, sV_e, sB_e, sC_e, sD_e, sN_e, sP_e, sY_e, st_0, st_S, zc_0, zc_S, r_eq, r_ne, r_lt, r_le, r_gt, r_ge, rb_ite, rb_0, rb_1, w_isWind_t g3, w_isOneOfTwo_f g4]
      · simp [e_X8_settles, d_X8_settles, xC_e, xL_e, xU_e, xB_e, xD_e, xF_e, xG_e, xA_e, xE_e, xH_e, xI_e, xZ_e, xK_e, aN_e, aC_e, cR_e, cV_e, cA_e, cO_e, cN_e, bs_e, bn_e, zg_0, zg_S, sS_e, sX_e, sF_e, sG_e, sA_e, sE_e, sEo_e, sK_e, sQ_e, sI_e, sR_e, sV_e, sB_e, sC_e, sD_e, sN_e, sP_e, sY_e, st_0, st_S, zc_0, zc_S, r_eq, r_ne, r_lt, r_le, r_gt, r_ge, rb_ite, rb_0, rb_1, w_isWind_f g3]
    · by_cases g3 : 0 ≤ w ∧ w ≤ 39
      · have g4 : ¬ (0 ≤ q ∧ q ≤ 1) := fun z => g2 ⟨g3, z⟩
        simp [e_X9_settles, d_X9_settles, xC_e, xL_e, xU_e, xB_e, xD_e, xF_e, xG_e, xA_e, xE_e, xH_e, xI_e, xZ_e, xK_e, aN_e, aC_e, cR_e, cV_e, cA_e, cO_e, cN_e, bs_e, bn_e, zg_0, zg_S, sS_e, sX_e, sF_e, sG_e, sA_e, sE_e, sEo_e, sK_e, sQ_e, sI_e, sR_e, sV_e, sB_e, sC_e, sD_e, sN_e, sP_e, sY_e, st_0, st_S, zc_0, zc_S, r_eq, r_ne, r_lt, r_le, r_gt, r_ge, rb_ite, rb_0, rb_1, v_isWind_t g3, v_within_f g4]
      · simp [e_X9_settles, d_X9_settles, xC_e, xL_e, xU_e, xB_e, xD_e, xF_e, xG_e, xA_e, xE_e, xH_e, xI_e, xZ_e, xK_e, aN_e, aC_e, cR_e, cV_e, cA_e, cO_e, cN_e, bs_e, bn_e, zg_0, zg_S, sS_e, sX_e, sF_e, sG_e, sA_e, sE_e, sEo_e, sK_e, sQ_e, sI_e, sR_e, sV_e, sB_e, sC_e, sD_e, sN_e, sP_e, sY_e, st_0, st_S, zc_0, zc_S, r_eq, r_ne, r_lt, r_le, r_gt, r_ge, rb_ite, rb_0, rb_1, v_isWind_f g3]
  obtain ⟨g2, g3⟩ := g2
  by_cases g1 : σ 6 0 = 0
  case pos =>
    refine zq k_X8_settles k_X9_settles hI ha (r := -3) (σ1 := σ) (σ2 := σ) ?_ ?_ (zSame.rf σ) (zSame.rf σ)
    · simp [e_X8_settles, d_X8_settles, xC_e, xL_e, xU_e, xB_e, xD_e, xF_e, xG_e, xA_e, xE_e, xH_e, xI_e, xZ_e, xK_e, aN_e, aC_e, cR_e, cV_e, cA_e, cO_e, cN_e, bs_e, bn_e, zg_0, zg_S, sS_e, sX_e, sF_e, sG_e, sA_e, sE_e, sEo_e, sK_e, sQ_e, sI_e, sR_e, sV_e, sB_e, sC_e, sD_e, sN_e, sP_e, sY_e, st_0, st_S, zc_0, zc_S, r_eq, r_ne, r_lt, r_le, r_gt, r_ge, rb_ite, rb_0, rb_1, w_isWind_t g2, w_isOneOfTwo_t g3, g1]
    · simp [e_X9_settles, d_X9_settles, xC_e, xL_e, xU_e, xB_e, xD_e, xF_e, xG_e, xA_e, xE_e, xH_e, xI_e, xZ_e, xK_e, aN_e, aC_e, cR_e, cV_e, cA_e, cO_e, cN_e, bs_e, bn_e, zg_0, zg_S, sS_e, sX_e, sF_e, sG_e, sA_e, sE_e, sEo_e, sK_e, sQ_e, sI_e, sR_e, sV_e, sB_e, sC_e, sD_e, sN_e, sP_e, sY_e, st_0, st_S, zc_0, zc_S, r_eq, r_ne, r_lt, r_le, r_gt, r_ge, rb_ite, rb_0, rb_1, v_isWind_t g2, v_within_t g3, hN.1, g1]
  obtain ⟨τ, t1, t2, t3⟩ := zBlow hI g2
  obtain ⟨τ2, s1, s2, s3, s4⟩ := w_gu t3 (zCq_I hI g2) (zWt_I hI)
  obtain ⟨υ, u1, u2, u3⟩ := v_lr hI (t2.tr s2.same) g2 (r := 200) (by decide)
  have sm := (t2.tr s2.same).tr u2
  have h14 : υ 37 14 = (zNb σ : Int) := by rw [sm 37 14 rfl, hN.1, nb1]
  have qi : ∀ k, -1 ≤ zQr (zFF σ w) (zGG σ w) (zNb σ) (zNc σ) (σ 9) k ∧ zQr (zFF σ w) (zGG σ w) (zNb σ) (zNc σ) (σ 9) k < k := fun k => zLst_i _ k
  have ak := fun (r e : Nat) (hr : r ≤ 200) (he : e ≤ 200) => v_ak nb2 h14 (zWt_I hI) u3 hr he
  generalize hQr : zQr (zFF σ w) (zGG σ w) (zNb σ) (zNc σ) (σ 9) = Qr at *
  have hl := zfor (c := lc_X9_settles_2) (f := lf_X9_settles_2) (i := 3) (lo := 1) 200 (fun k => [37, w, q, 1 + (k : Int), 0]) (fun k x => x = υ ∧ (zFr Qr k).1 = -9)
    (fun t e x => x = υ ∧ ((t = 1 ∧ (zFr Qr 200).1 ≠ -9 ∧ e = [if q = 0 then (zFr Qr 200).1 else (zFr Qr 200).2]) ∨ (t = 0 ∧ (zFr Qr 200).1 = -9 ∧ e = [37, w, q, 1 + ((200 : Nat) : Int), 0]))) (σ := υ) ⟨rfl, rfl⟩ (fun k => rfl) (by decide) (by decide)
    (fun k x hk hx => zc_le (i := 3) (x := 1 + (k : Int)) rfl (xC_e _ _ _) (by omega))
    (fun k x hk hx => by
      obtain ⟨rfl, h2⟩ := hx
      have e1 : ((k + 1 : Nat) : Int) = 1 + (k : Int) := by omega
      have S := zFr_S Qr k
      rw [if_neg (by simpa using h2)] at S
      obtain ⟨t, l, l1, l2⟩ := v_se1 (υ := x) (p := zAk (zFF σ w) (zGG σ w) (zNb σ) (zNc σ) (σ 9) (k + 1)) (r := k + 1) (by omega) (fun e he => ak (k + 1) e (by omega) (by omega)) w q
      have eq : zLst (zAk (zFF σ w) (zGG σ w) (zNb σ) (zNc σ) (σ 9) (k + 1)) (k + 1) = Qr (k + 1) := by rw [← hQr]; rfl
      rw [eq] at l2
      rw [e1] at l1 l2 S
      have d1 : o_isub (1 + (k : Int)) 1 = 1 + (k : Int) - 1 := w32_id ⟨by omega, by omega⟩
      have body := v_se2Body d1 l1
      rw [body]
      rcases l2 with ⟨rfl, p1, rfl⟩ | ⟨rfl, p1, rfl⟩
      · rw [if_pos p1] at S
        have nz : (zFr Qr (k + 1)).1 ≠ -9 := by
          rw [S]
          show 1 + (k : Int) ≠ -9
          omega
        have st := zFr_st nz (200 - (k + 1))
        rw [show k + 1 + (200 - (k + 1)) = 200 by omega] at st
        refine Or.inl ⟨_, _, rfl, rfl, Or.inl ⟨rfl, by rw [st]; exact nz, ?_⟩⟩
        rw [st, S]
      · rw [if_neg (by simpa using p1)] at S
        exact Or.inr ⟨0, [37, w, q, 1 + (k : Int), 0], x, rfl, Or.inl rfl, rfl, rfl, rfl, by rw [S]⟩)
    (fun x hx => ⟨hx.1, Or.inr ⟨rfl, hx.2, rfl⟩⟩)
  obtain ⟨t, e, x, hl, rfl, hq⟩ := hl
  have hl2 : sW lc_X9_settles_2 lf_X9_settles_2 ls_X9_settles_2 [37, w, q, 1, 0] x = some (t, e, x) := hl
  have fi := zFr_i qi 200
  have g1' : ¬ τ2 37 14 = 0 := by rw [(t2.tr s2.same) 37 14 rfl, hN.1]; exact g1
  generalize zFr Qr 200 = fr at *
  refine zq k_X8_settles k_X9_settles hI ha (r := if q = 0 then fr.1 else fr.2) (σ1 := τ2) (σ2 := x) ?_ ?_ (t2.tr s2.same) u2
  · rcases (show q = 0 ∨ q = 1 by omega) with rfl | rfl <;> simp [e_X8_settles, d_X8_settles, xC_e, xL_e, xU_e, xB_e, xD_e, xF_e, xG_e, xA_e, xE_e, xH_e, xI_e, xZ_e, xK_e, aN_e, aC_e, cR_e, cV_e, cA_e, cO_e, cN_e, bs_e, bn_e, zg_0, zg_S, sS_e, sX_e, sF_e, sG_e, sA_e, sE_e, sEo_e, sK_e, sQ_e, sI_e, sR_e, sV_e, sB_e, sC_e, sD_e, sN_e, sP_e, sY_e, st_0, st_S, zc_0, zc_S, r_eq, r_ne, r_lt, r_le, r_gt, r_ge, rb_ite, rb_0, rb_1, w_isWind_t g2, w_isOneOfTwo_t g3, g1, t1, s1, s3, s4]
  · have u1b : m_X9_layRounds [37, w, 200] τ2 = some (0, x) := u1
    rcases hq with ⟨rfl, p1, rfl⟩ | ⟨rfl, p1, rfl⟩
    · rcases (show q = 0 ∨ q = 1 by omega) with rfl | rfl <;> simp [e_X9_settles, d_X9_settles, xC_e, xL_e, xU_e, xB_e, xD_e, xF_e, xG_e, xA_e, xE_e, xH_e, xI_e, xZ_e, xK_e, aN_e, aC_e, cR_e, cV_e, cA_e, cO_e, cN_e, bs_e, bn_e, zg_0, zg_S, sS_e, sX_e, sF_e, sG_e, sA_e, sE_e, sEo_e, sK_e, sQ_e, sI_e, sR_e, sV_e, sB_e, sC_e, sD_e, sN_e, sP_e, sY_e, st_0, st_S, zc_0, zc_S, r_eq, r_ne, r_lt, r_le, r_gt, r_ge, rb_ite, rb_0, rb_1, v_isWind_t g2, v_within_t g3, g1', u1b, hl2]
    · have p2 : fr.2 = -9 := by omega
      rcases (show q = 0 ∨ q = 1 by omega) with rfl | rfl <;> simp [e_X9_settles, d_X9_settles, xC_e, xL_e, xU_e, xB_e, xD_e, xF_e, xG_e, xA_e, xE_e, xH_e, xI_e, xZ_e, xK_e, aN_e, aC_e, cR_e, cV_e, cA_e, cO_e, cN_e, bs_e, bn_e, zg_0, zg_S, sS_e, sX_e, sF_e, sG_e, sA_e, sE_e, sEo_e, sK_e, sQ_e, sI_e, sR_e, sV_e, sB_e, sC_e, sD_e, sN_e, sP_e, sY_e, st_0, st_S, zc_0, zc_S, r_eq, r_ne, r_lt, r_le, r_gt, r_ge, rb_ite, rb_0, rb_1, v_isWind_t g2, v_within_t g3, g1', u1b, hl2, p1, p2]
