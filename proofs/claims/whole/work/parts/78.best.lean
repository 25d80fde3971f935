/-! recasting: the best of the weights near by -/
def zCt (F : Int) (V : Int → Int) (G : Int → Int → Int) (n C : Nat) (b w : Int) : Nat := zcn (fun c : Nat => decide (zBr F (zLd V G c) b b n < w * G b c)) C
def zGa (F : Int) (V : Int → Int) (G : Int → Int → Int) (n C : Nat) (b w : Int) : Int := 10 * (zCt F V G n C b w : Int) - w
def zBw (g : Int → Int) (lo : Int) : Nat → Int × Int
  | 0 => (0, 0)
  | k + 1 => if (zBw g lo k).1 = 0 ∨ (zBw g lo k).2 < g (lo + (k : Int)) then (lo + (k : Int), g (lo + (k : Int))) else zBw g lo k
theorem zBw_S (g : Int → Int) (lo : Int) (k : Nat) : zBw g lo (k + 1) = if (zBw g lo k).1 = 0 ∨ (zBw g lo k).2 < g (lo + (k : Int)) then (lo + (k : Int), g (lo + (k : Int))) else zBw g lo k := rfl
theorem zBw_i {g : Int → Int} {lo : Int} (h : 1 ≤ lo) : ∀ k : Nat, 1 ≤ k → lo ≤ (zBw g lo k).1 ∧ (zBw g lo k).1 < lo + k ∧ (zBw g lo k).2 = g (zBw g lo k).1
  | 0, hk => by omega
  | k + 1, _ => by
    rw [zBw_S]
    by_cases q : k = 0
    · subst q
      have e0 : (zBw g lo 0).1 = 0 := rfl
      rw [if_pos (Or.inl e0)]
      exact ⟨by show lo ≤ lo + 0; omega, by show lo + 0 < _; omega, rfl⟩
    · have ih := zBw_i (g := g) h k (by omega)
      split
      · exact ⟨by show lo ≤ lo + (k : Int); omega, by show lo + (k : Int) < _; omega, rfl⟩
      · exact ⟨ih.1, by omega, ih.2.2⟩
def zLo (w : Int) : Int := max 1 (w - 1)
def zMs (w : Int) : Nat := (min 99 (w + 1) - max 1 (w - 1) + 1).toNat
/-- what bell b takes -/
def zTb (F : Int) (V : Int → Int) (G : Int → Int → Int) (n C : Nat) (b : Int) : Int := (zBw (zGa F V G n C b) (zLo (V b)) (zMs (V b))).1
theorem zTb_i {F : Int} {V : Int → Int} {G : Int → Int → Int} {n C : Nat} {b : Int} (h : 1 ≤ V b ∧ V b ≤ 99) : 1 ≤ zTb F V G n C b ∧ zTb F V G n C b ≤ 99 := by
  have i := zBw_i (g := zGa F V G n C b) (lo := zLo (V b)) (by unfold zLo; omega) (zMs (V b)) (by unfold zMs; omega)
  unfold zTb
  have e1 : zLo (V b) = max 1 (V b - 1) := rfl
  have e2 : zMs (V b) = (min 99 (V b + 1) - max 1 (V b - 1) + 1).toNat := rfl
  omega
theorem w_haBody {υ : zHp} {b w s k g x br : Int} (b6 : 0 ≤ b ∧ b < 6) (k30 : 0 ≤ k ∧ k < 30) (h1 : υ 12 (30 * b + k) = g) (o1 : o_lmul w g = x) (h2 : υ 13 k = br) (hs : 0 ≤ s ∧ s ≤ 300) : lf_X0_howManyAboveBars_1 [10, b, w, s, k] υ = some (0, [10, b, w, s + (if br < x then 1 else 0), k], υ) := by
  have z1 := (z30 (b := b) (c := k) (by omega) k30).1
  have i1 : 0 ≤ 30 * b + k ∧ 30 * b + k < 180 := by omega
  have e : o_iadd s 1 = s + 1 := w32_id ⟨by omega, by omega⟩
  by_cases p : br < x <;> simp [lf_X0_howManyAboveBars_1, xC_e, xL_e, xU_e, xB_e, xD_e, xF_e, xG_e, xA_e, xE_e, xH_e, xI_e, xZ_e, xK_e, aN_e, aC_e, cR_e, cV_e, cA_e, cO_e, cN_e, bs_e, bn_e, zg_0, zg_S, sS_e, sX_e, sF_e, sG_e, sA_e, sE_e, sEo_e, sK_e, sQ_e, sI_e, sR_e, sV_e, sB_e, sC_e, sD_e, sN_e, sP_e, sY_e, st_0, st_S, zc_0, zc_S, r_eq, r_ne, r_lt, r_le, r_gt, r_ge, rb_ite, rb_0, rb_1, z1, i1, h1, o1, k30, h2, p, e]
theorem w_haEval {υ : zHp} {b w s k : Int} (hl : sW lc_X0_howManyAboveBars_1 lf_X0_howManyAboveBars_1 ls_X0_howManyAboveBars_1 [10, b, w, 0, 0] υ = some (0, [10, b, w, s, k], υ)) : m_X0_howManyAboveBars [10, b, w] υ = some (s, υ) := by
  simp [e_X0_howManyAboveBars, d_X0_howManyAboveBars, xC_e, xL_e, xU_e, xB_e, xD_e, xF_e, xG_e, xA_e, xE_e, xH_e, xI_e, xZ_e, xK_e, aN_e, aC_e, cR_e, cV_e, cA_e, cO_e, cN_e, bs_e, bn_e, zg_0, zg_S, sS_e, sX_e, sF_e, sG_e, sA_e, sE_e, sEo_e, sK_e, sQ_e, sI_e, sR_e, sV_e, sB_e, sC_e, sD_e, sN_e, sP_e, sY_e, st_0, st_S, zc_0, zc_S, hl]
theorem w_ha {σ : zHp} {n C : Nat} {F : Int} {W V : Int → Int} {G : Int → Int → Int} (hC : zCp σ n C F W G) (hQ : zCq n C F G) {b : Int} (hB : ∀ c : Int, 0 ≤ c → c < C → σ 13 c = zBr F (zLd V G c) b b n) (hb : 0 ≤ b ∧ b < n) {w : Int} (hw : 1 ≤ w ∧ w ≤ 99) : m_X0_howManyAboveBars [10, b, w] σ = some ((zCt F V G n C b w : Int), σ) := by
  have c30 := hQ.2.1
  have n6 := hQ.1
  refine w_haEval (k := 0 + (C : Int)) (zforP (c := lc_X0_howManyAboveBars_1) (f := lf_X0_howManyAboveBars_1) (i := 4) (lo := 0) C (fun k => [10, b, w, (zCt F V G n k b w : Int), 0 + (k : Int)]) (fun k => rfl) (by decide) (by omega)
    (fun k hk => zc_lt (i := 4) (x := 0 + (k : Int)) rfl (zx_G (N := C) hC.2.1) (by omega)) (fun k hk => ?_))
  have le : zCt F V G n k b w ≤ k := zcn_le _ k
  have g := hQ.2.2.2 b k hb.1 hb.2 (by omega) (by omega)
  have m := zmul_i (x := w) (y := G b k) 99 21508378785653760 (by omega) (by omega)
  have body := w_haBody (w := w) (s := (zCt F V G n k b w : Int)) (by omega) (by omega) (hC.2.2.2.2 b k hb.1 hb.2 (by omega) (by omega)) (w64_id (x := w * G b k) ⟨by omega, by omega⟩) (hB k (by omega) (by omega)) (by omega)
  rw [z0k, z0k]
  refine ⟨_, _, body, Or.inl rfl, rfl, ?_⟩
  have e : zCt F V G n (k + 1) b w = zCt F V G n k b w + if decide (zBr F (zLd V G k) b b n < w * G b k) = true then 1 else 0 := rfl
  rw [e]
  by_cases p : zBr F (zLd V G k) b b n < w * G b k
  · rw [if_pos p, if_pos (decide_eq_true p)]
    rfl
  · rw [if_neg p, if_neg (by rw [decide_eq_false p]; decide)]
    rw [Int.add_zero]
    rfl
theorem w_bwBody {υ : zHp} {b be mo la k cn : Int} (hk : 0 ≤ k ∧ k ≤ 200) (hc : 0 ≤ cn ∧ cn ≤ 300) (h : m_X0_howManyAboveBars [10, b, k] υ = some (cn, υ)) : lf_X2_bestWeight_1 [25, b, be, mo, la, k, 0] υ = some (0, if mo < 10 * cn - k then [25, b, k, 10 * cn - k, la, k, 0] else [25, b, be, mo, la, k, 0], υ) := by
  have e1 : o_imul 10 cn = 10 * cn := w32_id ⟨by omega, by omega⟩
  have e2 : o_isub (10 * cn) k = 10 * cn - k := w32_id ⟨by omega, by omega⟩
  by_cases p : mo < 10 * cn - k <;> simp [lf_X2_bestWeight_1, xC_e, xL_e, xU_e, xB_e, xD_e, xF_e, xG_e, xA_e, xE_e, xH_e, xI_e, xZ_e, xK_e, aN_e, aC_e, cR_e, cV_e, cA_e, cO_e, cN_e, bs_e, bn_e, zg_0, zg_S, sS_e, sX_e, sF_e, sG_e, sA_e, sE_e, sEo_e, sK_e, sQ_e, sI_e, sR_e, sV_e, sB_e, sC_e, sD_e, sN_e, sP_e, sY_e, st_0, st_S, zc_0, zc_S, r_eq, r_ne, r_lt, r_le, r_gt, r_ge, rb_ite, rb_0, rb_1, h, e1, e2, p]
theorem o_min_e (x y : Int) : o_min x y = min x y := by
  unfold o_min
  split <;> omega
theorem w_bwEval {υ : zHp} {b w0 be mo k : Int} (b6 : 0 ≤ b ∧ b < 6) (h : υ 26 b = w0) (hw : 1 ≤ w0 ∧ w0 ≤ 99) (hl : sW lc_X2_bestWeight_1 lf_X2_bestWeight_1 ls_X2_bestWeight_1 [25, b, w0, -100, min 99 (w0 + 1), zLo w0, 0] υ = some (0, [25, b, be, mo, min 99 (w0 + 1), k, 0], υ)) : m_X2_bestWeight [25, b] υ = some (be, υ) := by
  have e1 : o_iadd w0 1 = w0 + 1 := w32_id ⟨by omega, by omega⟩
  have e2 : o_isub w0 1 = w0 - 1 := w32_id ⟨by omega, by omega⟩
  unfold zLo at hl
  simp [e_X2_bestWeight, d_X2_bestWeight, xC_e, xL_e, xU_e, xB_e, xD_e, xF_e, xG_e, xA_e, xE_e, xH_e, xI_e, xZ_e, xK_e, aN_e, aC_e, cR_e, cV_e, cA_e, cO_e, cN_e, bs_e, bn_e, zg_0, zg_S, sS_e, sX_e, sF_e, sG_e, sA_e, sE_e, sEo_e, sK_e, sQ_e, sI_e, sR_e, sV_e, sB_e, sC_e, sD_e, sN_e, sP_e, sY_e, st_0, st_S, zc_0, zc_S, r_eq, r_ne, r_lt, r_le, r_gt, r_ge, rb_ite, rb_0, rb_1, b6, h, e1, e2, o_min_e, o_max_e, hl]
theorem w_bw {σ : zHp} {n C : Nat} {F : Int} {W V : Int → Int} {G : Int → Int → Int} (hC : zCp σ n C F W G) (hQ : zCq n C F G) {b : Int} (hB : ∀ c : Int, 0 ≤ c → c < C → σ 13 c = zBr F (zLd V G c) b b n) (hb : 0 ≤ b ∧ b < n) (hV : σ 26 b = V b) (hW : 1 ≤ V b ∧ V b ≤ 99) : m_X2_bestWeight [25, b] σ = some (zTb F V G n C b, σ) := by
  have c30 := hQ.2.1
  have n6 := hQ.1
  have eLo : zLo (V b) = max 1 (V b - 1) := rfl
  have eMs : zMs (V b) = (min 99 (V b + 1) - max 1 (V b - 1) + 1).toNat := rfl
  refine w_bwEval (mo := if zMs (V b) = 0 then -100 else (zBw (zGa F V G n C b) (zLo (V b)) (zMs (V b))).2) (k := zLo (V b) + (zMs (V b) : Int)) (by omega) hV hW ?_
  have l := zforP (c := lc_X2_bestWeight_1) (f := lf_X2_bestWeight_1) (i := 5) (lo := zLo (V b)) (σ := σ) (zMs (V b)) (fun k => [25, b, if k = 0 then V b else (zBw (zGa F V G n C b) (zLo (V b)) k).1, if k = 0 then -100 else (zBw (zGa F V G n C b) (zLo (V b)) k).2, min 99 (V b + 1), zLo (V b) + (k : Int), 0]) (fun k => rfl) (by omega) (by omega)
    (fun k hk => zc_le (i := 5) (x := zLo (V b) + (k : Int)) (N := min 99 (V b + 1)) rfl (xL_e _ _ _) (by omega))
    (fun k hk => by
      have ct : zCt F V G n C b (zLo (V b) + (k : Int)) ≤ C := zcn_le _ C
      have body := w_bwBody (be := if k = 0 then V b else (zBw (zGa F V G n C b) (zLo (V b)) k).1) (mo := if k = 0 then -100 else (zBw (zGa F V G n C b) (zLo (V b)) k).2) (la := min 99 (V b + 1)) (by omega) (by omega) (w_ha hC hQ hB hb (w := zLo (V b) + (k : Int)) (by omega))
      have eg : zGa F V G n C b (zLo (V b) + (k : Int)) = 10 * (zCt F V G n C b (zLo (V b) + (k : Int)) : Int) - (zLo (V b) + (k : Int)) := rfl
      have S := zBw_S (zGa F V G n C b) (zLo (V b)) k
      rw [← eg] at body
      refine ⟨_, _, body, Or.inl rfl, ?_, ?_⟩
      · split <;> split <;> rfl
      · have kn : ¬ k + 1 = 0 := by omega
        simp only [kn, if_false]
        by_cases q : k = 0
        · subst q
          have e0 : (zBw (zGa F V G n C b) (zLo (V b)) 0).1 = 0 := rfl
          rw [if_pos (Or.inl e0)] at S
          rw [S, if_pos (by simp only [if_true]; omega)]
          rfl
        · have i := zBw_i (g := zGa F V G n C b) (lo := zLo (V b)) (by omega) k (by omega)
          simp only [q, if_false]
          by_cases p : (zBw (zGa F V G n C b) (zLo (V b)) k).2 < zGa F V G n C b (zLo (V b) + (k : Int))
          · rw [if_pos (Or.inr p)] at S
            rw [S, if_pos p]
            rfl
          · rw [if_neg (by omega)] at S
            rw [S, if_neg p]
            rfl)
  have m1 : 1 ≤ zMs (V b) := by omega
  have m0 : ¬ zMs (V b) = 0 := by omega
  have e0 : zLo (V b) + ((0 : Nat) : Int) = zLo (V b) := by omega
  have l2 : sW lc_X2_bestWeight_1 lf_X2_bestWeight_1 ls_X2_bestWeight_1 [25, b, V b, -100, min 99 (V b + 1), zLo (V b) + ((0 : Nat) : Int), 0] σ = some (0, [25, b, if zMs (V b) = 0 then V b else (zBw (zGa F V G n C b) (zLo (V b)) (zMs (V b))).1, if zMs (V b) = 0 then -100 else (zBw (zGa F V G n C b) (zLo (V b)) (zMs (V b))).2, min 99 (V b + 1), zLo (V b) + (zMs (V b) : Int), 0], σ) := l
  rw [e0, if_neg m0] at l2
  exact l2
/-! the reference's -/
theorem zCt_w {n C : Nat} {K F ea : Int} {V : Int → Int} {P Q G : Int → Int → Int} (hP : zPc n C K F ea P Q G) {b w : Int} (hb : 0 ≤ b ∧ b < n) (hw : 1 ≤ w) : zcn (fun i : Nat => decide (zWh F (zLd (zWs V b w) G i) n = b)) C = zCt F V G n C b w := by
  refine zcn_c C (fun c hc => ?_)
  have g := (hP.2.2.2.2.2 b c hb.1 hb.2 (by omega) (by omega)).2.2.1
  have o := (zWh_own (F := F) (L := zLd (zWs V b w) G c) hb).trans (zOwn_br (F := F) (W := V) (n := n) hw g.1)
  simp only [o]
theorem v_tbBody {υ τ : zHp} {b was be mo k cn : Int} (b7 : 0 ≤ b ∧ b < 7) (hk : 1 ≤ k ∧ k ≤ 99) (hc : 0 ≤ cn ∧ cn ≤ 300) (h : m_X9_ownCells [37, b] (zput υ 46 b k) = some (cn, τ)) : lf_X9_takesBest_1 [37, b, was, be, mo, k, 0] υ = some (0, if be = 0 ∨ mo < 10 * cn - k then [37, b, was, k, 10 * cn - k, k, 0] else [37, b, was, be, mo, k, 0], τ) := by
  have e1 : o_imul 10 cn = 10 * cn := w32_id ⟨by omega, by omega⟩
  have e2 : o_isub (10 * cn) k = 10 * cn - k := w32_id ⟨by omega, by omega⟩
  by_cases q : be = 0
  · simp [lf_X9_takesBest_1, xC_e, xL_e, xU_e, xB_e, xD_e, xF_e, xG_e, xA_e, xE_e, xH_e, xI_e, xZ_e, xK_e, aN_e, aC_e, cR_e, cV_e, cA_e, cO_e, cN_e, bs_e, bn_e, zg_0, zg_S, sS_e, sX_e, sF_e, sG_e, sA_e, sE_e, sEo_e, sK_e, sQ_e, sI_e, sR_e, sV_e, sB_e, sC_e, sD_e, sN_e, sP_e, sY_e, st_0, st_S, zc_0, zc_S, r_eq, r_ne, r_lt, r_le, r_gt, r_ge, rb_ite, rb_0, rb_1, v_isWeight_t hk, rb_1, b7, h, e1, e2, q]
  · by_cases p : mo < 10 * cn - k <;> simp [lf_X9_takesBest_1, xC_e, xL_e, xU_e, xB_e, xD_e, xF_e, xG_e, xA_e, xE_e, xH_e, xI_e, xZ_e, xK_e, aN_e, aC_e, cR_e, cV_e, cA_e, cO_e, cN_e, bs_e, bn_e, zg_0, zg_S, sS_e, sX_e, sF_e, sG_e, sA_e, sE_e, sEo_e, sK_e, sQ_e, sI_e, sR_e, sV_e, sB_e, sC_e, sD_e, sN_e, sP_e, sY_e, st_0, st_S, zc_0, zc_S, r_eq, r_ne, r_lt, r_le, r_gt, r_ge, rb_ite, rb_0, rb_1, v_isWeight_t hk, rb_1, b7, h, e1, e2, q, p]
theorem v_tbBody0 {υ : zHp} {b was be mo k : Int} (hk : ¬ (1 ≤ k ∧ k ≤ 99)) : lf_X9_takesBest_1 [37, b, was, be, mo, k, 0] υ = some (0, [37, b, was, be, mo, k, 0], υ) := by
  simp [lf_X9_takesBest_1, xC_e, xL_e, xU_e, xB_e, xD_e, xF_e, xG_e, xA_e, xE_e, xH_e, xI_e, xZ_e, xK_e, aN_e, aC_e, cR_e, cV_e, cA_e, cO_e, cN_e, bs_e, bn_e, zg_0, zg_S, sS_e, sX_e, sF_e, sG_e, sA_e, sE_e, sEo_e, sK_e, sQ_e, sI_e, sR_e, sV_e, sB_e, sC_e, sD_e, sN_e, sP_e, sY_e, st_0, st_S, zc_0, zc_S, r_eq, r_ne, r_lt, r_le, r_gt, r_ge, rb_ite, rb_0, rb_1, v_isWeight_f hk, rb_0]
theorem v_tbEval {υ τ : zHp} {b was be mo k : Int} (b7 : 0 ≤ b ∧ b < 7) (hw : υ 46 b = was) (ww : 1 ≤ was ∧ was ≤ 99) (hl : sW lc_X9_takesBest_1 lf_X9_takesBest_1 ls_X9_takesBest_1 [37, b, was, 0, 0, was - 1, 0] υ = some (0, [37, b, was, be, mo, k, 0], τ)) : m_X9_takesBest [37, b] υ = some (0, zput τ 46 b be) := by
  have e2 : o_isub was 1 = was - 1 := w32_id ⟨by omega, by omega⟩
  simp [e_X9_takesBest, d_X9_takesBest, xC_e, xL_e, xU_e, xB_e, xD_e, xF_e, xG_e, xA_e, xE_e, xH_e, xI_e, xZ_e, xK_e, aN_e, aC_e, cR_e, cV_e, cA_e, cO_e, cN_e, bs_e, bn_e, zg_0, zg_S, sS_e, sX_e, sF_e, sG_e, sA_e, sE_e, sEo_e, sK_e, sQ_e, sI_e, sR_e, sV_e, sB_e, sC_e, sD_e, sN_e, sP_e, sY_e, st_0, st_S, zc_0, zc_S, r_eq, r_ne, r_lt, r_le, r_gt, r_ge, rb_ite, rb_0, rb_1, b7, hw, e2, hl]
theorem v_tbC {υ : zHp} {b was be mo k : Int} (ww : 1 ≤ was ∧ was ≤ 99) : lc_X9_takesBest_1 [37, b, was, be, mo, k, 0] υ = some (decide (k ≤ was + 1), υ) := by
  have e2 : o_iadd was 1 = was + 1 := w32_id ⟨by omega, by omega⟩
  simp [lc_X9_takesBest_1, xC_e, xL_e, xU_e, xB_e, xD_e, xF_e, xG_e, xA_e, xE_e, xH_e, xI_e, xZ_e, xK_e, aN_e, aC_e, cR_e, cV_e, cA_e, cO_e, cN_e, bs_e, bn_e, zg_0, zg_S, sS_e, sX_e, sF_e, sG_e, sA_e, sE_e, sEo_e, sK_e, sQ_e, sI_e, sR_e, sV_e, sB_e, sC_e, sD_e, sN_e, sP_e, sY_e, st_0, st_S, zc_0, zc_S, r_eq, r_ne, r_lt, r_le, r_gt, r_ge, rb_ite, rb_0, rb_1, e2]
theorem v_tb {σ : zHp} {n C : Nat} {K F ea : Int} {V : Int → Int} {P Q G : Int → Int → Int} (hR : zRp σ n C ea V P Q) (hP : zPc n C K F ea P Q G) (hW : zWt n V) {b : Int} (hb : 0 ≤ b ∧ b < n) : ∃ τ, m_X9_takesBest [37, b] σ = some (0, τ) ∧ zw22 b σ τ ∧ τ 46 b = zTb F V G n C b := by
  have c30 := hP.2.1
  have n7 := hP.1
  have ww := hW b hb.1 hb.2
  have eLo : zLo (V b) = max 1 (V b - 1) := rfl
  have eMs : zMs (V b) = (min 99 (V b + 1) - max 1 (V b - 1) + 1).toNat := rfl
  have hv := hR.2.2.2.1 b hb.1 hb.2
  generalize hkf : (fun j : Nat => (min (V b - 1 + (j : Int)) 100 - max 1 (V b - 1)).toNat) = kf
  have kfe : ∀ j : Nat, kf j = (min (V b - 1 + (j : Int)) 100 - max 1 (V b - 1)).toNat := fun j => by rw [← hkf]
  obtain ⟨τ, l, z⟩ := zfor0 (c := lc_X9_takesBest_1) (f := lf_X9_takesBest_1) (i := 5) (lo := V b - 1) (σ := σ) 3 (fun j => [37, b, V b, (zBw (zGa F V G n C b) (zLo (V b)) (kf j)).1, (zBw (zGa F V G n C b) (zLo (V b)) (kf j)).2, V b - 1 + (j : Int), 0]) (fun k x => zw22 b σ x) (fun _ _ _ _ => rfl) (fun k => rfl) (by omega) (by decide)
    (fun j x hj hx => by
      rw [v_tbC ww]
      have : (V b - 1 + (j : Int) ≤ V b + 1) ↔ j < 3 := by omega
      simp only [this])
    (fun j x hj hx => by
      have k1 := kfe j
      have k2 := kfe (j + 1)
      by_cases p : 1 ≤ V b - 1 + (j : Int) ∧ V b - 1 + (j : Int) ≤ 99
      · have hx2 := hx.w (V b - 1 + (j : Int))
        obtain ⟨τ', o1, o2⟩ := v_oc (zRp_w hR hx2 (zput_self _ _ _ _)) hP (zWs_W hW p) b
        rw [zCt_w hP hb p.1] at o1
        have ct : zCt F V G n C b (V b - 1 + (j : Int)) ≤ C := zcn_le _ C
        have body := v_tbBody (was := V b) (be := (zBw (zGa F V G n C b) (zLo (V b)) (kf j)).1) (mo := (zBw (zGa F V G n C b) (zLo (V b)) (kf j)).2) (by omega) p (by omega) o1
        have e1 : zLo (V b) + (kf j : Int) = V b - 1 + (j : Int) := by omega
        have e2 : kf (j + 1) = kf j + 1 := by omega
        have eg : zGa F V G n C b (V b - 1 + (j : Int)) = 10 * (zCt F V G n C b (V b - 1 + (j : Int)) : Int) - (V b - 1 + (j : Int)) := rfl
        have S := zBw_S (zGa F V G n C b) (zLo (V b)) (kf j)
        rw [e1, ← e2] at S
        rw [← eg] at body
        refine ⟨_, _, _, body, Or.inl rfl, ?_, ?_, fun a i q1 q2 => by rw [o2 a i (by omega), hx2 a i q1 q2]⟩
        · split <;> rfl
        · rw [S]
          split <;> rfl
      · have e2 : kf (j + 1) = kf j := by omega
        rw [e2]
        exact ⟨_, _, _, v_tbBody0 p, Or.inl rfl, rfl, rfl, hx⟩)
  have e0 : V b - 1 + ((0 : Nat) : Int) = V b - 1 := by omega
  have k0 : kf 0 = 0 := by rw [kfe]; omega
  have k3 : kf 3 = zMs (V b) := by rw [kfe]; omega
  have l2 : sW lc_X9_takesBest_1 lf_X9_takesBest_1 ls_X9_takesBest_1 [37, b, V b, (zBw (zGa F V G n C b) (zLo (V b)) (kf 0)).1, (zBw (zGa F V G n C b) (zLo (V b)) (kf 0)).2, V b - 1 + ((0 : Nat) : Int), 0] σ = some (0, [37, b, V b, (zBw (zGa F V G n C b) (zLo (V b)) (kf 3)).1, (zBw (zGa F V G n C b) (zLo (V b)) (kf 3)).2, V b - 1 + ((3 : Nat) : Int), 0], τ) := l
  rw [e0, k0, k3] at l2
  have ev := v_tbEval (by omega) hv ww l2
  exact ⟨_, ev, z.w _, zput_self _ _ _ _⟩
