/-! reports -/
def zSo (σ : zHp) (W : Int → Int) (k : Nat) : Bool := decide (W (σ 18 k) * zGG σ (σ 16 k) (σ 18 k) (σ 15 k) < W (σ 17 k) * zGG σ (σ 16 k) (σ 17 k) (σ 15 k))
theorem zGG_b {σ : zHp} (hI : zInv σ) {w b c : Int} (hw : 0 ≤ w ∧ w ≤ 39) (hb : 0 ≤ b ∧ b < σ 6 0) (hc : 0 ≤ c ∧ c < σ 1 2) : 1 ≤ zGG σ w b c ∧ zGG σ w b c ≤ 21508378785653760 := zGr_b (zIC_b hI hb hc) hw
theorem w_ub {σ : zHp} (hI : zInv σ) {w b c : Int} (hw : 0 ≤ w ∧ w ≤ 39) (hb : 0 ≤ b ∧ b < σ 6 0) (hc : 0 ≤ c ∧ c < σ 1 2) : m_X0_unitBy [10, b, c, w] σ = some (zGG σ w b c, σ) := by
  have h := zI3 hI
  have h6 := h.2.2.1
  have hcb := zIC_b hI hb hc
  exact w_unitBy hI.2.2.1 hI.2.2.2.1 (by omega) (by omega) (h.2.2.2 b hb.1 hb.2).2.1.2 hc hw
theorem w_wsEval {σ : zHp} {k x y l t c w gl gt u v : Int} (k10 : 0 ≤ k ∧ k < 10) (h1 : σ 17 k = l) (h2 : σ 18 k = t) (h3 : σ 15 k = c) (h4 : σ 16 k = w) (u1 : m_X0_unitBy [10, l, c, w] σ = some (gl, σ)) (u2 : m_X0_unitBy [10, t, c, w] σ = some (gt, σ)) (o1 : o_lmul x gl = u) (o2 : o_lmul y gt = v) : m_X4_wouldBeSo [14, k, x, y] σ = some (if v < u then 1 else 0, σ) := by
  by_cases p : v < u <;> simp [e_X4_wouldBeSo, d_X4_wouldBeSo, xC_e, xL_e, xU_e, xB_e, xD_e, xF_e, xG_e, xA_e, xE_e, xH_e, xI_e, xZ_e, xK_e, aN_e, aC_e, cR_e, cV_e, cA_e, cO_e, cN_e, bs_e, bn_e, zg_0, zg_S, sS_e, sX_e, sF_e, sG_e, sA_e, sE_e, sEo_e, sK_e, sQ_e, sI_e, sR_e, sV_e, sB_e, sC_e, sD_e, sN_e, sP_e, sY_e, st_0, st_S, zc_0, zc_S, r_eq, r_ne, r_lt, r_le, r_gt, r_ge, rb_ite, rb_0, rb_1, k10, h1, h2, h3, h4, u1, u2, o1, o2, p]
theorem w_ws {σ : zHp} (hI : zInv σ) {k : Nat} (hk : (k : Int) < σ 14 2) {x y : Int} (hx : 1 ≤ x ∧ x ≤ 99) (hy : 1 ≤ y ∧ y ≤ 99) : m_X4_wouldBeSo [14, (k : Int), x, y] σ = some (if y * zGG σ (σ 16 k) (σ 18 k) (σ 15 k) < x * zGG σ (σ 16 k) (σ 17 k) (σ 15 k) then 1 else 0, σ) := by
  have hR := zI9 hI
  obtain ⟨r1, r2, r3, r4, r5⟩ := hR.2.2.2 k (by omega) hk
  have k10 := hR.2.2.1
  have b1 := zGG_b hI r2.2 r3.2 r1.2
  have b2 := zGG_b hI r2.2 r4.2 r1.2
  have m1 := zmul_i (x := x) (y := zGG σ (σ 16 k) (σ 17 k) (σ 15 k)) 99 21508378785653760 (by omega) (by omega)
  have m2 := zmul_i (x := y) (y := zGG σ (σ 16 k) (σ 18 k) (σ 15 k)) 99 21508378785653760 (by omega) (by omega)
  exact w_wsEval (by omega) rfl rfl rfl rfl (w_ub hI r2.2 r3.2 r1.2) (w_ub hI r2.2 r4.2 r1.2) (w64_id ⟨by omega, by omega⟩) (w64_id ⟨by omega, by omega⟩)
theorem w_soEval {σ : zHp} {k l t x y r : Int} (k10 : 0 ≤ k ∧ k < 10) (h1 : σ 17 k = l) (h2 : σ 18 k = t) (l6 : 0 ≤ l ∧ l < 6) (t6 : 0 ≤ t ∧ t < 6) (h3 : σ 9 l = x) (h4 : σ 9 t = y) (h : m_X4_wouldBeSo [14, k, x, y] σ = some (r, σ)) : m_X4_isSo [14, k] σ = some (r, σ) := by
  simp [e_X4_isSo, d_X4_isSo, xC_e, xL_e, xU_e, xB_e, xD_e, xF_e, xG_e, xA_e, xE_e, xH_e, xI_e, xZ_e, xK_e, aN_e, aC_e, cR_e, cV_e, cA_e, cO_e, cN_e, bs_e, bn_e, zg_0, zg_S, sS_e, sX_e, sF_e, sG_e, sA_e, sE_e, sEo_e, sK_e, sQ_e, sI_e, sR_e, sV_e, sB_e, sC_e, sD_e, sN_e, sP_e, sY_e, st_0, st_S, zc_0, zc_S, r_eq, r_ne, r_lt, r_le, r_gt, r_ge, rb_ite, rb_0, rb_1, k10, h1, h2, l6, t6, h3, h4, h]
theorem w_so {σ : zHp} (hI : zInv σ) {k : Nat} (hk : (k : Int) < σ 14 2) : m_X4_isSo [14, (k : Int)] σ = some (if zSo σ (σ 9) k = true then 1 else 0, σ) := by
  have hR := zI9 hI
  have hN := zI3 hI
  obtain ⟨r1, r2, r3, r4, r5⟩ := hR.2.2.2 k (by omega) hk
  have k10 := hR.2.2.1
  have n6 := hN.2.2.1
  have h := w_ws hI hk (hN.2.2.2 _ r3.2.1 r3.2.2).2.2.2 (hN.2.2.2 _ r4.2.1 r4.2.2).2.2.2
  have ev := w_soEval (by omega) rfl rfl (by omega) (by omega) rfl rfl h
  rw [ev]
  unfold zSo
  simp only [decide_eq_true_eq]
/-! the reference's -/
def z189 (σ τ : zHp) : Prop := ∀ x y : Int, ¬ (x = 37 ∧ (y = 18 ∨ y = 19)) → τ x y = σ x y
theorem z189.same {σ τ : zHp} (h : z189 σ τ) : zSame σ τ := fun a b hab => h a b (by rintro ⟨rfl, rfl | rfl⟩ <;> simp [zfree] at hab)
theorem z189.tr {σ τ υ : zHp} (h : z189 σ τ) (h2 : z189 τ υ) : z189 σ υ := fun a b hab => by rw [h2 a b hab, h a b hab]
theorem v_soEval {τ : zHp} {k l t c w x y pl ql pt qt u1 u2 u3 u4 : Int} (k10 : 0 ≤ k ∧ k < 10) (h1 : τ 51 k = l) (h2 : τ 52 k = t) (h3 : τ 49 k = c) (h4 : τ 50 k = w) (l7 : 0 ≤ l ∧ l < 7) (t7 : 0 ≤ t ∧ t < 7) (w1 : τ 46 l = x) (w2 : τ 46 t = y)
    (f1 : m_X9_findLoud [37, l, c, w] τ = some (0, zput (zput τ 37 18 pl) 37 19 ql)) (f2 : m_X9_findLoud [37, t, c, w] (zput (zput τ 37 18 pl) 37 19 ql) = some (0, zput (zput (zput (zput τ 37 18 pl) 37 19 ql) 37 18 pt) 37 19 qt)) (o1 : o_lmul x pl = u1) (o2 : o_lmul u1 qt = u2) (o3 : o_lmul y pt = u3) (o4 : o_lmul u3 ql = u4) :
    m_X9_isSo [37, k] τ = some (if u4 < u2 then 1 else 0, zput (zput (zput (zput τ 37 18 pl) 37 19 ql) 37 18 pt) 37 19 qt) := by
  have a18 : zput (zput τ 37 18 pl) 37 19 ql 37 18 = pl := by rw [zput_i (by decide), zput_self]
  have a19 : zput (zput τ 37 18 pl) 37 19 ql 37 19 = ql := zput_self _ _ _ _
  have b18 : zput (zput (zput (zput τ 37 18 pl) 37 19 ql) 37 18 pt) 37 19 qt 37 18 = pt := by rw [zput_i (by decide), zput_self]
  have b19 : zput (zput (zput (zput τ 37 18 pl) 37 19 ql) 37 18 pt) 37 19 qt 37 19 = qt := zput_self _ _ _ _
  have e : ∀ a i, a ≠ 37 → zput (zput τ 37 18 pl) 37 19 ql a i = τ a i := fun a i h => by rw [zput_o h, zput_o h]
  have e2 : ∀ a i, a ≠ 37 → zput (zput (zput (zput τ 37 18 pl) 37 19 ql) 37 18 pt) 37 19 qt a i = τ a i := fun a i h => by rw [zput_o h, zput_o h, e a i h]
  generalize hA : zput (zput τ 37 18 pl) 37 19 ql = A at *
  generalize hB : zput (zput A 37 18 pt) 37 19 qt = B at *
  have q1 := e 51 k (by decide)
  have q2 := e 52 k (by decide)
  have q3 := e 49 k (by decide)
  have q4 := e 50 k (by decide)
  have q5 := e 46 l (by decide)
  have q6 := e2 52 k (by decide)
  have q7 := e2 46 t (by decide)
  by_cases p : u4 < u2 <;> simp [e_X9_isSo, d_X9_isSo, xC_e, xL_e, xU_e, xB_e, xD_e, xF_e, xG_e, xA_e, xE_e, xH_e, xI_e, xZ_e, xK_e, aN_e, aC_e, cR_e, cV_e, cA_e, cO_e, cN_e, bs_e, bn_e, zg_0, zg_S, sS_e, sX_e, sF_e, sG_e, sA_e, sE_e, sEo_e, sK_e, sQ_e, sI_e, sR_e, sV_e, sB_e, sC_e, sD_e, sN_e, sP_e, sY_e, st_0, st_S, zc_0, zc_S, r_eq, r_ne, r_lt, r_le, r_gt, r_ge, rb_ite, rb_0, rb_1, k10, h1, h2, h3, h4, l7, t7, f1, a18, a19, q1, q2, q3, q4, q5, w1, w2, o1, f2, b18, b19, q6, q7, o2, o3, o4, p]
theorem v_so {σ τ : zHp} (hI : zInv σ) (hs : ∀ x y : Int, ¬ (x = 37 ∧ (y = 18 ∨ y = 19)) → x ≠ 46 → τ x y = σ x y) {W : Int → Int} (hw : ∀ b : Int, 0 ≤ b → b < σ 6 0 → τ 46 b = W b) (hW : zWt (zNb σ) W) {k : Nat} (hk : (k : Int) < σ 14 2) : ∃ υ, m_X9_isSo [37, (k : Int)] τ = some (if zSo σ W k = true then 1 else 0, υ) ∧ z189 τ υ := by
  have hR := zI9 hI
  have hN := zI3 hI
  obtain ⟨nb1, nb2⟩ := zNb_e hI
  obtain ⟨r1, r2, r3, r4, r5⟩ := hR.2.2.2 k (by omega) hk
  have k10 := hR.2.2.1
  have n6 := hN.2.2.1
  have key : ∀ (υ : zHp), (∀ x y : Int, ¬ (x = 37 ∧ (y = 18 ∨ y = 19)) → x ≠ 46 → υ x y = σ x y) → ∀ b c w : Int, 0 ≤ b ∧ b < σ 6 0 → 0 ≤ c ∧ c < σ 1 2 → 0 ≤ w ∧ w ≤ 39 → m_X9_findLoud [37, b, c, w] υ = some (0, zput (zput υ 37 18 (zPP σ w b c)) 37 19 (zQQ σ w b c)) := by
    intro υ hs b c w hb hc hw
    have L' : zIL υ := zIL_c hI.2.2.1 (hs 1 0 (by omega) (by omega)) (hs 1 1 (by omega) (by omega)) (hs 1 2 (by omega) (by omega)) (hs 37 5 (by omega) (by omega)) (hs 37 6 (by omega) (by omega))
    have H' : zIH υ := zIH_c hI.2.2.2.1 (hs 1 1 (by omega) (by omega)) (hs 1 2 (by omega) (by omega)) (fun k => hs 2 k (by omega) (by omega)) (fun k => hs 3 k (by omega) (by omega)) (fun k => hs 4 k (by omega) (by omega)) (fun k => hs 41 k (by omega) (by omega))
    have hbb := hN.2.2.2 b hb.1 hb.2
    have fl := v_findLoud L' H' (fun k hk => by rw [hs 42 k (by omega) (by omega)]; exact zPl hI.1 k hk) (b := b) (c := c) (w := w) (by omega) (by rw [hs 45 b (by omega) (by omega), hs 1 2 (by omega) (by omega), hbb.2.1.1]; exact hbb.2.1.2) (by rw [hs 1 2 (by omega) (by omega)]; exact hc) hw
    rw [zPu_eq (hs 1 1 (by omega) (by omega)), zQd_eq (hs 1 1 (by omega) (by omega)) (fun k => hs 2 k (by omega) (by omega)) (fun k => hs 42 k (by omega) (by omega)), hs 44 b (by omega) (by omega), hs 45 b (by omega) (by omega), hbb.1.1, hbb.2.1.1] at fl
    exact fl
  have f1 := key τ hs (σ 17 k) (σ 15 k) (σ 16 k) r3.2 r1.2 r2.2
  have f2 := key (zput (zput τ 37 18 (zPP σ (σ 16 k) (σ 17 k) (σ 15 k))) 37 19 (zQQ σ (σ 16 k) (σ 17 k) (σ 15 k))) (fun x y h1 h2 => by rw [zput_n (by omega), zput_n (by omega)]; exact hs x y h1 h2) (σ 18 k) (σ 15 k) (σ 16 k) r4.2 r1.2 r2.2
  have hP := zPc_I hI r2.2
  obtain ⟨nc1, nc2⟩ := zNc_e hI
  obtain ⟨p1, q1, -, l1⟩ := hP.2.2.2.2.2 (σ 17 k) (σ 15 k) r3.2.1 (by omega) r1.2.1 (by omega)
  obtain ⟨p2, q2, -, l2⟩ := hP.2.2.2.2.2 (σ 18 k) (σ 15 k) r4.2.1 (by omega) r1.2.1 (by omega)
  have w1 := hW (σ 17 k) r3.2.1 (by omega)
  have w2 := hW (σ 18 k) r4.2.1 (by omega)
  have z := zcmp (wa := W (σ 17 k)) (wb := W (σ 18 k)) hP.2.2.2.1 (show 0 < zQQ σ (σ 16 k) (σ 17 k) (σ 15 k) by omega) (show 0 < zQQ σ (σ 16 k) (σ 18 k) (σ 15 k) by omega) l1 l2
  have hz : zSo σ W k = decide (W (σ 18 k) * zGG σ (σ 16 k) (σ 18 k) (σ 15 k) < W (σ 17 k) * zGG σ (σ 16 k) (σ 17 k) (σ 15 k)) := rfl
  generalize zPP σ (σ 16 k) (σ 17 k) (σ 15 k) = pl at *
  generalize zQQ σ (σ 16 k) (σ 17 k) (σ 15 k) = ql at *
  generalize zPP σ (σ 16 k) (σ 18 k) (σ 15 k) = pt at *
  generalize zQQ σ (σ 16 k) (σ 18 k) (σ 15 k) = qt at *
  have m1 := zmul_i (x := W (σ 17 k)) (y := pl) 99 38 (by omega) (by omega)
  have m2 := zmul_i (x := W (σ 17 k) * pl) (y := qt) 3762 209152 (by omega) (by omega)
  have m3 := zmul_i (x := W (σ 18 k)) (y := pt) 99 38 (by omega) (by omega)
  have m4 := zmul_i (x := W (σ 18 k) * pt) (y := ql) 3762 209152 (by omega) (by omega)
  have ev := v_soEval (k := (k : Int)) (by omega) ((hs 51 k (by omega) (by omega)).trans r3.1) ((hs 52 k (by omega) (by omega)).trans r4.1) ((hs 49 k (by omega) (by omega)).trans r1.1) ((hs 50 k (by omega) (by omega)).trans r2.1) (by omega) (by omega) (hw _ r3.2.1 r3.2.2) (hw _ r4.2.1 r4.2.2) f1 f2 (o1 := w64_id ⟨by omega, by omega⟩) (o2 := w64_id ⟨by omega, by omega⟩) (o3 := w64_id ⟨by omega, by omega⟩) (o4 := w64_id ⟨by omega, by omega⟩)
  refine ⟨zput (zput (zput (zput τ 37 18 pl) 37 19 ql) 37 18 pt) 37 19 qt, ?_, ?_⟩
  · rw [ev, hz]
    have e : (W (σ 18 k) * pt * ql < W (σ 17 k) * pl * qt) ↔ (W (σ 18 k) * zGG σ (σ 16 k) (σ 18 k) (σ 15 k) < W (σ 17 k) * zGG σ (σ 16 k) (σ 17 k) (σ 15 k)) := by omega
    simp only [e, decide_eq_true_eq]
  · intro x y h
    rw [zput_n (by omega), zput_n (by omega), zput_n (by omega), zput_n (by omega)]
theorem w_utBody {υ : zHp} {s k : Int} {x : Bool} (h : m_X4_isSo [14, k] υ = some (if x = true then 1 else 0, υ)) : lf_X8_untrue_1 [0, s, k] υ = some (0, [0, if x = true then s else zOr s (zShl 1 k), k], υ) := by
  cases x <;> simp at h <;> simp [lf_X8_untrue_1, xC_e, xL_e, xU_e, xB_e, xD_e, xF_e, xG_e, xA_e, xE_e, xH_e, xI_e, xZ_e, xK_e, aN_e, aC_e, cR_e, cV_e, cA_e, cO_e, cN_e, bs_e, bn_e, zg_0, zg_S, sS_e, sX_e, sF_e, sG_e, sA_e, sE_e, sEo_e, sK_e, sQ_e, sI_e, sR_e, sV_e, sB_e, sC_e, sD_e, sN_e, sP_e, sY_e, st_0, st_S, zc_0, zc_S, h, rb_0, rb_1]
theorem v_utBody {υ τ : zHp} {s k : Int} {x : Bool} (h : m_X9_isSo [37, k] υ = some (if x = true then 1 else 0, τ)) : lf_X9_untrue_1 [37, s, k] υ = some (0, [37, zOr s (if x = true then 0 else zShl 1 k), k], τ) := by
  cases x <;> simp at h <;> simp [lf_X9_untrue_1, xC_e, xL_e, xU_e, xB_e, xD_e, xF_e, xG_e, xA_e, xE_e, xH_e, xI_e, xZ_e, xK_e, aN_e, aC_e, cR_e, cV_e, cA_e, cO_e, cN_e, bs_e, bn_e, zg_0, zg_S, sS_e, sX_e, sF_e, sG_e, sA_e, sE_e, sEo_e, sK_e, sQ_e, sI_e, sR_e, sV_e, sB_e, sC_e, sD_e, sN_e, sP_e, sY_e, st_0, st_S, zc_0, zc_S, h, rb_0, rb_1]
theorem zp18 : zp_18 zInv := by
  intro σ hI
  have hR := zI9 hI
  have hN := zI3 hI
  have r1 := hR.1
  have r2 := hR.2.1
  have r3 := hR.2.2.1
  have nr : (((σ 14 2).toNat : Nat) : Int) = σ 14 2 := by omega
  generalize hn : (σ 14 2).toNat = n at nr
  have l1 := zforP (c := lc_X8_untrue_1) (f := lf_X8_untrue_1) (i := 2) (lo := 0) (σ := σ) n (fun k => [0, zSt2 (fun i => !zSo σ (σ 9) i) k, 0 + (k : Int)]) (fun k => rfl) (by decide) (by omega)
    (fun k hk => zc_lt (i := 2) (x := 0 + (k : Int)) rfl (zx_G (N := (n : Int)) nr.symm) (by omega))
    (fun k hk => by
      have body := w_utBody (s := zSt2 (fun i => !zSo σ (σ 9) i) k) (w_so hI (k := k) (by omega))
      rw [z0k, z0k]
      refine ⟨_, _, body, Or.inl rfl, rfl, ?_⟩
      show [0, _, _] = [0, zOr _ (if (!zSo σ (σ 9) k) = true then _ else _), _]
      cases zSo σ (σ 9) k
      · rfl
      · show [0, zSt2 (fun i => !zSo σ (σ 9) i) k, _] = [0, zOr (zSt2 (fun i => !zSo σ (σ 9) i) k) 0, _]
        rw [zOr_0 (r32_St2 _ _)])
  have l1b : sW lc_X8_untrue_1 lf_X8_untrue_1 ls_X8_untrue_1 [0, 0, 0] σ = some (0, [0, zSt2 (fun i => !zSo σ (σ 9) i) n, 0 + (n : Int)], σ) := l1
  obtain ⟨υ, l2, z2⟩ := zfor0 (c := lc_X9_untrue_1) (f := lf_X9_untrue_1) (i := 2) (lo := 0) (σ := σ) n (fun k => [37, zSt2 (fun i => !zSo σ (σ 9) i) k, 0 + (k : Int)]) (fun k x => z189 σ x) (fun _ _ _ => rfl) (fun k => rfl) (by decide) (by omega)
    (fun k x hk hx => zc_lt (i := 2) (x := 0 + (k : Int)) rfl (zx_G (N := (n : Int)) (by rw [hx 37 23 (by omega), r1, nr])) (by omega))
    (fun k x hk hx => by
      obtain ⟨x', h, z⟩ := v_so hI (τ := x) (W := σ 9) (fun a i h _ => hx a i h) (fun b b0 b1 => by rw [hx 46 b (by omega), (hN.2.2.2 b b0 b1).2.2.1]) (zWt_I hI) (k := k) (by omega)
      have body := v_utBody (s := zSt2 (fun i => !zSo σ (σ 9) i) k) h
      rw [z0k, z0k]
      refine ⟨_, _, _, body, Or.inl rfl, rfl, ?_, hx.tr z⟩
      show [37, _, _] = [37, zOr _ (if (!zSo σ (σ 9) k) = true then _ else _), _]
      cases zSo σ (σ 9) k <;> rfl)
  have l2b : sW lc_X9_untrue_1 lf_X9_untrue_1 ls_X9_untrue_1 [37, 0, 0] σ = some (0, [37, zSt2 (fun i => !zSo σ (σ 9) i) n, 0 + (n : Int)], υ) := l2
  refine zq (as := []) (ts := []) k_X8_untrue k_X9_untrue hI trivial (r := zSt2 (fun i => !zSo σ (σ 9) i) n) (σ1 := σ) (σ2 := υ) ?_ ?_ (zSame.rf σ) z2.same
  · simp [e_X8_untrue, d_X8_untrue, xC_e, xL_e, xU_e, xB_e, xD_e, xF_e, xG_e, xA_e, xE_e, xH_e, xI_e, xZ_e, xK_e, aN_e, aC_e, cR_e, cV_e, cA_e, cO_e, cN_e, bs_e, bn_e, zg_0, zg_S, sS_e, sX_e, sF_e, sG_e, sA_e, sE_e, sEo_e, sK_e, sQ_e, sI_e, sR_e, sV_e, sB_e, sC_e, sD_e, sN_e, sP_e, sY_e, st_0, st_S, zc_0, zc_S, r_eq, r_ne, r_lt, r_le, r_gt, r_ge, rb_ite, rb_0, rb_1, l1b]
  · simp [e_X9_untrue, d_X9_untrue, xC_e, xL_e, xU_e, xB_e, xD_e, xF_e, xG_e, xA_e, xE_e, xH_e, xI_e, xZ_e, xK_e, aN_e, aC_e, cR_e, cV_e, cA_e, cO_e, cN_e, bs_e, bn_e, zg_0, zg_S, sS_e, sX_e, sF_e, sG_e, sA_e, sE_e, sEo_e, sK_e, sQ_e, sI_e, sR_e, sV_e, sB_e, sC_e, sD_e, sN_e, sP_e, sY_e, st_0, st_S, zc_0, zc_S, r_eq, r_ne, r_lt, r_le, r_gt, r_ge, rb_ite, rb_0, rb_1, l2b]
/-! leaves -/
def zAll (p : Nat → Bool) : Nat → Bool
  | 0 => true
  | n + 1 => zAll p n && p n
theorem zAll_f {p : Nat → Bool} {k : Nat} (h : p k = false) : ∀ n, k < n → zAll p n = false
  | 0, hk => by omega
  | n + 1, hk => by
    show (zAll p n && p n) = false
    by_cases q : k = n
    · subst q
      rw [h, Bool.and_false]
    · rw [zAll_f h n (by omega), Bool.false_and]
theorem zAll_t {p : Nat → Bool} : ∀ n, (∀ k, k < n → p k = true) → zAll p n = true
  | 0, _ => rfl
  | n + 1, h => by
    show (zAll p n && p n) = true
    rw [zAll_t n (fun k hk => h k (by omega)), h n (by omega)]
    rfl
def zNm (σ : zHp) (W : Int → Int) (b : Int) (k : Nat) : Bool := !(decide (σ 17 k = b) || decide (σ 18 k = b)) || zSo σ W k
theorem w_awBody {υ : zHp} {b w k l t wl wt : Int} {x y : Bool} (k10 : 0 ≤ k ∧ k < 10) (h1 : υ 17 k = l) (h2 : υ 18 k = t) (hlt : l ≠ t) (l6 : 0 ≤ l ∧ l < 6) (t6 : 0 ≤ t ∧ t < 6) (w1 : υ 9 l = wl) (w2 : υ 9 t = wt) (s1 : m_X4_wouldBeSo [14, k, w, wt] υ = some (if x = true then 1 else 0, υ)) (s2 : m_X4_wouldBeSo [14, k, wl, w] υ = some (if y = true then 1 else 0, υ)) : lf_X4_allowWeight_1 [14, b, w, k] υ = if (l = b ∧ x = false) ∨ (t = b ∧ y = false) then some (1, [0], υ) else some (0, [14, b, w, k], υ) := by
  by_cases p : l = b
  · subst p
    have q : ¬ t = l := fun z => hlt z.symm
    cases x <;> simp at s1 <;> simp [lf_X4_allowWeight_1, xC_e, xL_e, xU_e, xB_e, xD_e, xF_e, xG_e, xA_e, xE_e, xH_e, xI_e, xZ_e, xK_e, aN_e, aC_e, cR_e, cV_e, cA_e, cO_e, cN_e, bs_e, bn_e, zg_0, zg_S, sS_e, sX_e, sF_e, sG_e, sA_e, sE_e, sEo_e, sK_e, sQ_e, sI_e, sR_e, sV_e, sB_e, sC_e, sD_e, sN_e, sP_e, sY_e, st_0, st_S, zc_0, zc_S, r_eq, r_ne, r_lt, r_le, r_gt, r_ge, rb_ite, rb_0, rb_1, k10, h1, h2, l6, t6, w1, w2, s1, q, rb_0, rb_1]
  · by_cases q : t = b
    · subst q
      cases y <;> simp at s2 <;> simp [lf_X4_allowWeight_1, xC_e, xL_e, xU_e, xB_e, xD_e, xF_e, xG_e, xA_e, xE_e, xH_e, xI_e, xZ_e, xK_e, aN_e, aC_e, cR_e, cV_e, cA_e, cO_e, cN_e, bs_e, bn_e, zg_0, zg_S, sS_e, sX_e, sF_e, sG_e, sA_e, sE_e, sEo_e, sK_e, sQ_e, sI_e, sR_e, sV_e, sB_e, sC_e, sD_e, sN_e, sP_e, sY_e, st_0, st_S, zc_0, zc_S, r_eq, r_ne, r_lt, r_le, r_gt, r_ge, rb_ite, rb_0, rb_1, k10, h1, h2, l6, t6, w1, w2, s2, p, rb_0, rb_1]
    · simp [lf_X4_allowWeight_1, xC_e, xL_e, xU_e, xB_e, xD_e, xF_e, xG_e, xA_e, xE_e, xH_e, xI_e, xZ_e, xK_e, aN_e, aC_e, cR_e, cV_e, cA_e, cO_e, cN_e, bs_e, bn_e, zg_0, zg_S, sS_e, sX_e, sF_e, sG_e, sA_e, sE_e, sEo_e, sK_e, sQ_e, sI_e, sR_e, sV_e, sB_e, sC_e, sD_e, sN_e, sP_e, sY_e, st_0, st_S, zc_0, zc_S, r_eq, r_ne, r_lt, r_le, r_gt, r_ge, rb_ite, rb_0, rb_1, k10, h1, h2, p, q]
theorem w_awEval {υ : zHp} {b w r : Int} {t : Nat} {e : List Int} (hl : sW lc_X4_allowWeight_1 lf_X4_allowWeight_1 ls_X4_allowWeight_1 [14, b, w, 0] υ = some (t, e, υ)) (hq : (t = 1 ∧ e = [0] ∧ r = 0) ∨ (t = 0 ∧ r = 1)) : m_X4_allowWeight [14, b, w] υ = some (r, υ) := by
  rcases hq with ⟨rfl, rfl, rfl⟩ | ⟨rfl, rfl⟩
  · simp [e_X4_allowWeight, d_X4_allowWeight, xC_e, xL_e, xU_e, xB_e, xD_e, xF_e, xG_e, xA_e, xE_e, xH_e, xI_e, xZ_e, xK_e, aN_e, aC_e, cR_e, cV_e, cA_e, cO_e, cN_e, bs_e, bn_e, zg_0, zg_S, sS_e, sX_e, sF_e, sG_e, sA_e, sE_e, sEo_e, sK_e, sQ_e, sI_e, sR_e, sV_e, sB_e, sC_e, sD_e, sN_e, sP_e, sY_e, st_0, st_S, zc_0, zc_S, r_eq, r_ne, r_lt, r_le, r_gt, r_ge, rb_ite, rb_0, rb_1, hl]
  · simp [e_X4_allowWeight, d_X4_allowWeight, xC_e, xL_e, xU_e, xB_e, xD_e, xF_e, xG_e, xA_e, xE_e, xH_e, xI_e, xZ_e, xK_e, aN_e, aC_e, cR_e, cV_e, cA_e, cO_e, cN_e, bs_e, bn_e, zg_0, zg_S, sS_e, sX_e, sF_e, sG_e, sA_e, sE_e, sEo_e, sK_e, sQ_e, sI_e, sR_e, sV_e, sB_e, sC_e, sD_e, sN_e, sP_e, sY_e, st_0, st_S, zc_0, zc_S, r_eq, r_ne, r_lt, r_le, r_gt, r_ge, rb_ite, rb_0, rb_1, hl]
theorem zWould {σ : zHp} {W : Int → Int} {b w : Int} {k : Nat} (hne : σ 17 k ≠ σ 18 k) : ((σ 17 k = b ∧ decide (W (σ 18 k) * zGG σ (σ 16 k) (σ 18 k) (σ 15 k) < w * zGG σ (σ 16 k) (σ 17 k) (σ 15 k)) = false) ∨ (σ 18 k = b ∧ decide (w * zGG σ (σ 16 k) (σ 18 k) (σ 15 k) < W (σ 17 k) * zGG σ (σ 16 k) (σ 17 k) (σ 15 k)) = false)) ↔ zNm σ (zWs W b w) b k = false := by
  unfold zNm zSo
  by_cases p : σ 17 k = b
  · have q : σ 18 k ≠ b := fun z => hne (by rw [p, z])
    rw [zWs_n q, p, zWs_b, decide_eq_true rfl, decide_eq_false q]
    simp [q]
  · by_cases q : σ 18 k = b
    · rw [zWs_n p, q, zWs_b, decide_eq_true rfl, decide_eq_false p]
      simp [p]
    · rw [decide_eq_false p, decide_eq_false q]
      simp [p, q]
theorem w_aw {σ : zHp} (hI : zInv σ) {n : Nat} (nr : (n : Int) = σ 14 2) {b w : Int} (hw : 1 ≤ w ∧ w ≤ 99) : m_X4_allowWeight [14, b, w] σ = some (if zAll (zNm σ (zWs (σ 9) b w) b) n = true then 1 else 0, σ) := by
  have hR := zI9 hI
  have hN := zI3 hI
  have r3 := hR.2.2.1
  have n6 := hN.2.2.1
  have hl := zfor (c := lc_X4_allowWeight_1) (f := lf_X4_allowWeight_1) (i := 3) (lo := 0) n (fun k => [14, b, w, 0 + (k : Int)]) (fun k τ => τ = σ ∧ ∀ j, j < k → zNm σ (zWs (σ 9) b w) b j = true)
    (fun t e τ => τ = σ ∧ ((t = 1 ∧ e = [0] ∧ zAll (zNm σ (zWs (σ 9) b w) b) n = false) ∨ (t = 0 ∧ zAll (zNm σ (zWs (σ 9) b w) b) n = true))) (σ := σ) ⟨rfl, fun j hj => by omega⟩ (fun k => rfl) (by decide) (by omega)
    (fun k τ hk h => zc_lt (i := 3) (x := 0 + (k : Int)) rfl (zx_G (N := (n : Int)) (by rw [h.1, nr])) (by omega))
    (fun k τ hk h => by
      obtain ⟨rfl, h2⟩ := h
      obtain ⟨r1, r2, r4, r5, r6⟩ := hR.2.2.2 k (by omega) (by omega)
      have w1 := hN.2.2.2 _ r4.2.1 r4.2.2
      have w2 := hN.2.2.2 _ r5.2.1 r5.2.2
      have body := w_awBody (υ := τ) (b := b) (w := w) (k := (k : Int)) (by omega) rfl rfl r6 (by omega) (by omega) rfl rfl (x := decide (τ 9 (τ 18 k) * zGG τ (τ 16 k) (τ 18 k) (τ 15 k) < w * zGG τ (τ 16 k) (τ 17 k) (τ 15 k))) (y := decide (w * zGG τ (τ 16 k) (τ 18 k) (τ 15 k) < τ 9 (τ 17 k) * zGG τ (τ 16 k) (τ 17 k) (τ 15 k)))
        (by rw [w_ws hI (by omega) hw w2.2.2.2]; simp only [decide_eq_true_eq]) (by rw [w_ws hI (by omega) w1.2.2.2 hw]; simp only [decide_eq_true_eq])
      have e := zWould (W := τ 9) (b := b) (w := w) r6
      rw [z0k, z0k, body]
      by_cases p : zNm τ (zWs (τ 9) b w) b k = false
      · rw [if_pos (e.mpr p)]
        exact Or.inl ⟨_, _, rfl, rfl, Or.inl ⟨rfl, rfl, zAll_f p n hk⟩⟩
      · rw [if_neg (fun z => p (e.mp z))]
        refine Or.inr ⟨_, _, _, rfl, Or.inl rfl, rfl, rfl, rfl, fun j hj => ?_⟩
        by_cases z : j = k
        · rw [z]
          cases hz : zNm τ (zWs (τ 9) b w) b k
          · exact absurd hz p
          · rfl
        · exact h2 j (by omega))
    (fun τ h => ⟨h.1, Or.inr ⟨rfl, zAll_t n h.2⟩⟩)
  obtain ⟨t, e, τ, hl, rfl, hq⟩ := hl
  refine w_awEval hl ?_
  rcases hq with ⟨q1, q2, q3⟩ | ⟨q1, q2⟩
  · exact Or.inl ⟨q1, q2, by rw [q3]; rfl⟩
  · exact Or.inr ⟨q1, by rw [q2]; rfl⟩
theorem v_asBody {υ τ : zHp} {b k l t : Int} {x : Bool} (k10 : 0 ≤ k ∧ k < 10) (h1 : υ 51 k = l) (h2 : υ 52 k = t) (s : m_X9_isSo [37, k] υ = some (if x = true then 1 else 0, τ)) : lf_X9_areSoOf_1 [37, b, k] υ = if l = b ∨ t = b then (if x = true then some (0, [37, b, k], τ) else some (1, [0], τ)) else some (0, [37, b, k], υ) := by
  cases x <;> simp at s <;> by_cases p : l = b <;> by_cases q : t = b <;> simp [lf_X9_areSoOf_1, xC_e, xL_e, xU_e, xB_e, xD_e, xF_e, xG_e, xA_e, xE_e, xH_e, xI_e, xZ_e, xK_e, aN_e, aC_e, cR_e, cV_e, cA_e, cO_e, cN_e, bs_e, bn_e, zg_0, zg_S, sS_e, sX_e, sF_e, sG_e, sA_e, sE_e, sEo_e, sK_e, sQ_e, sI_e, sR_e, sV_e, sB_e, sC_e, sD_e, sN_e, sP_e, sY_e, st_0, st_S, zc_0, zc_S, r_eq, r_ne, r_lt, r_le, r_gt, r_ge, rb_ite, rb_0, rb_1, k10, h1, h2, s, p, q, rb_0, rb_1]
theorem v_asEval {υ τ : zHp} {b r : Int} {t : Nat} {e : List Int} (hl : sW lc_X9_areSoOf_1 lf_X9_areSoOf_1 ls_X9_areSoOf_1 [37, b, 0] υ = some (t, e, τ)) (hq : (t = 1 ∧ e = [0] ∧ r = 0) ∨ (t = 0 ∧ r = 1)) : m_X9_areSoOf [37, b] υ = some (r, τ) := by
  rcases hq with ⟨rfl, rfl, rfl⟩ | ⟨rfl, rfl⟩
  · simp [e_X9_areSoOf, d_X9_areSoOf, xC_e, xL_e, xU_e, xB_e, xD_e, xF_e, xG_e, xA_e, xE_e, xH_e, xI_e, xZ_e, xK_e, aN_e, aC_e, cR_e, cV_e, cA_e, cO_e, cN_e, bs_e, bn_e, zg_0, zg_S, sS_e, sX_e, sF_e, sG_e, sA_e, sE_e, sEo_e, sK_e, sQ_e, sI_e, sR_e, sV_e, sB_e, sC_e, sD_e, sN_e, sP_e, sY_e, st_0, st_S, zc_0, zc_S, r_eq, r_ne, r_lt, r_le, r_gt, r_ge, rb_ite, rb_0, rb_1, hl]
  · simp [e_X9_areSoOf, d_X9_areSoOf, xC_e, xL_e, xU_e, xB_e, xD_e, xF_e, xG_e, xA_e, xE_e, xH_e, xI_e, xZ_e, xK_e, aN_e, aC_e, cR_e, cV_e, cA_e, cO_e, cN_e, bs_e, bn_e, zg_0, zg_S, sS_e, sX_e, sF_e, sG_e, sA_e, sE_e, sEo_e, sK_e, sQ_e, sI_e, sR_e, sV_e, sB_e, sC_e, sD_e, sN_e, sP_e, sY_e, st_0, st_S, zc_0, zc_S, r_eq, r_ne, r_lt, r_le, r_gt, r_ge, rb_ite, rb_0, rb_1, hl]
theorem v_as {σ υ : zHp} (hI : zInv σ) {n : Nat} (nr : (n : Int) = σ 14 2) (hs : ∀ x y : Int, ¬ (x = 37 ∧ (y = 18 ∨ y = 19)) → x ≠ 46 → υ x y = σ x y) {W : Int → Int} (hw : ∀ b : Int, 0 ≤ b → b < σ 6 0 → υ 46 b = W b) (hW : zWt (zNb σ) W) (b : Int) : ∃ τ, m_X9_areSoOf [37, b] υ = some (if zAll (zNm σ W b) n = true then 1 else 0, τ) ∧ z189 υ τ := by
  have hR := zI9 hI
  have hN := zI3 hI
  have r3 := hR.2.2.1
  have hl := zfor (c := lc_X9_areSoOf_1) (f := lf_X9_areSoOf_1) (i := 2) (lo := 0) n (fun k => [37, b, 0 + (k : Int)]) (fun k τ => z189 υ τ ∧ ∀ j, j < k → zNm σ W b j = true)
    (fun t e τ => z189 υ τ ∧ ((t = 1 ∧ e = [0] ∧ zAll (zNm σ W b) n = false) ∨ (t = 0 ∧ zAll (zNm σ W b) n = true))) (σ := υ) ⟨fun _ _ _ => rfl, fun j hj => by omega⟩ (fun k => rfl) (by decide) (by omega)
    (fun k τ hk h => zc_lt (i := 2) (x := 0 + (k : Int)) rfl (zx_G (N := (n : Int)) (by rw [h.1 37 23 (by omega), hs 37 23 (by omega) (by omega), hR.1, nr])) (by omega))
    (fun k τ hk h => by
      obtain ⟨h1, h2⟩ := h
      obtain ⟨r1, r2, r4, r5, r6⟩ := hR.2.2.2 k (by omega) (by omega)
      have hs2 : ∀ x y : Int, ¬ (x = 37 ∧ (y = 18 ∨ y = 19)) → x ≠ 46 → τ x y = σ x y := fun x y q1 q2 => by rw [h1 x y q1, hs x y q1 q2]
      obtain ⟨τ', s, z⟩ := v_so hI hs2 (W := W) (fun b b0 b1 => by rw [h1 46 b (by omega), hw b b0 b1]) hW (k := k) (by omega)
      have body := v_asBody (b := b) (k := (k : Int)) (by omega) ((hs2 51 k (by omega) (by omega)).trans r4.1) ((hs2 52 k (by omega) (by omega)).trans r5.1) s
      rw [z0k, z0k, body]
      have key : ∀ x : zHp, z189 υ x → zNm σ W b k = true → (∃ (e : List Int) (υ1 : zHp), some ((0 : Nat), [37, b, (k : Int)], x) = some (1, e, υ1) ∧ (fun t e τ => z189 υ τ ∧ ((t = 1 ∧ e = [0] ∧ zAll (zNm σ W b) n = false) ∨ (t = 0 ∧ zAll (zNm σ W b) n = true))) 1 e υ1) ∨ ∃ t e υ1, some ((0 : Nat), [37, b, (k : Int)], x) = some (t, e, υ1) ∧ (t = 0 ∨ t = 3) ∧ zg e 2 = (k : Int) ∧ e.set 2 ((k + 1 : Nat) : Int) = [37, b, ((k + 1 : Nat) : Int)] ∧ z189 υ υ1 ∧ ∀ j, j < k + 1 → zNm σ W b j = true := by
        intro x hx hn
        refine Or.inr ⟨_, _, _, rfl, Or.inl rfl, rfl, rfl, hx, fun j hj => ?_⟩
        by_cases z : j = k
        · rw [z]; exact hn
        · exact h2 j (by omega)
      by_cases p : σ 17 k = b ∨ σ 18 k = b
      · rw [if_pos p]
        have ep : (decide (σ 17 k = b) || decide (σ 18 k = b)) = true := by
          rcases p with p | p <;> rw [decide_eq_true p] <;> simp
        have en : zNm σ W b k = zSo σ W k := by
          unfold zNm
          rw [ep]
          rfl
        by_cases q : zSo σ W k = true
        · rw [if_pos q]
          exact key τ' (h1.tr z) (by rw [en, q])
        · rw [if_neg q]
          exact Or.inl ⟨_, _, rfl, h1.tr z, Or.inl ⟨rfl, rfl, zAll_f (by rw [en]; exact Bool.eq_false_iff.mpr q) n hk⟩⟩
      · rw [if_neg p]
        refine key τ h1 ?_
        unfold zNm
        rw [decide_eq_false (fun z => p (Or.inl z)), decide_eq_false (fun z => p (Or.inr z))]
        rfl)
    (fun τ h => ⟨h.1, Or.inr ⟨rfl, zAll_t n h.2⟩⟩)
  obtain ⟨t, e, τ, hl, h1, hq⟩ := hl
  refine ⟨τ, v_asEval hl ?_, h1⟩
  rcases hq with ⟨q1, q2, q3⟩ | ⟨q1, q2⟩
  · exact Or.inl ⟨q1, q2, by rw [q3]; rfl⟩
  · exact Or.inr ⟨q1, by rw [q2]; rfl⟩
def zLv (p : Nat → Bool) : Nat → Int × Int × Int
  | 0 => (0, -9, -9)
  | k + 1 => if p k = true then ((zLv p k).1 + 1, if (zLv p k).2.1 = -9 then 1 + (k : Int) else (zLv p k).2.1, 1 + (k : Int)) else zLv p k
theorem zLv_b (p : Nat → Bool) : ∀ k : Nat, 0 ≤ (zLv p k).1 ∧ (zLv p k).1 ≤ k
  | 0 => by show (0 : Int) ≤ 0 ∧ (0 : Int) ≤ _; omega
  | k + 1 => by
    have := zLv_b p k
    unfold zLv
    split
    · show 0 ≤ (zLv p k).1 + 1 ∧ (zLv p k).1 + 1 ≤ _
      omega
    · omega
theorem w_lvBody {υ : zHp} {b q n l g k : Int} {x : Bool} (hn : 0 ≤ n ∧ n ≤ 1000) (h : m_X4_allowWeight [14, b, k] υ = some (if x = true then 1 else 0, υ)) : lf_X8_leaves_1 [0, b, q, n, l, g, k] υ = some (0, if x = true then [0, b, q, n + 1, if l = -9 then k else l, k, k] else [0, b, q, n, l, g, k], υ) := by
  have e : o_iadd n 1 = n + 1 := w32_id ⟨by omega, by omega⟩
  cases x
  · simp at h
    simp [lf_X8_leaves_1, xC_e, xL_e, xU_e, xB_e, xD_e, xF_e, xG_e, xA_e, xE_e, xH_e, xI_e, xZ_e, xK_e, aN_e, aC_e, cR_e, cV_e, cA_e, cO_e, cN_e, bs_e, bn_e, zg_0, zg_S, sS_e, sX_e, sF_e, sG_e, sA_e, sE_e, sEo_e, sK_e, sQ_e, sI_e, sR_e, sV_e, sB_e, sC_e, sD_e, sN_e, sP_e, sY_e, st_0, st_S, zc_0, zc_S, r_eq, r_ne, r_lt, r_le, r_gt, r_ge, rb_ite, rb_0, rb_1, h, rb_0]
  · simp at h
    by_cases p : l = -9 <;> simp [lf_X8_leaves_1, xC_e, xL_e, xU_e, xB_e, xD_e, xF_e, xG_e, xA_e, xE_e, xH_e, xI_e, xZ_e, xK_e, aN_e, aC_e, cR_e, cV_e, cA_e, cO_e, cN_e, bs_e, bn_e, zg_0, zg_S, sS_e, sX_e, sF_e, sG_e, sA_e, sE_e, sEo_e, sK_e, sQ_e, sI_e, sR_e, sV_e, sB_e, sC_e, sD_e, sN_e, sP_e, sY_e, st_0, st_S, zc_0, zc_S, r_eq, r_ne, r_lt, r_le, r_gt, r_ge, rb_ite, rb_0, rb_1, h, rb_1, p, e]
theorem v_lvBody {υ τ : zHp} {b q was n l g k : Int} {x : Bool} (b7 : 0 ≤ b ∧ b < 7) (hn : 0 ≤ n ∧ n ≤ 1000) (h : m_X9_areSoOf [37, b] (zput υ 46 b k) = some (if x = true then 1 else 0, τ)) : lf_X9_leaves_1 [37, b, q, was, n, l, g, k] υ = some (0, if x = true then [37, b, q, was, n + 1, if l = -9 then k else l, k, k] else [37, b, q, was, n, l, g, k], τ) := by
  have e : o_iadd n 1 = n + 1 := w32_id ⟨by omega, by omega⟩
  cases x
  · simp at h
    simp [lf_X9_leaves_1, xC_e, xL_e, xU_e, xB_e, xD_e, xF_e, xG_e, xA_e, xE_e, xH_e, xI_e, xZ_e, xK_e, aN_e, aC_e, cR_e, cV_e, cA_e, cO_e, cN_e, bs_e, bn_e, zg_0, zg_S, sS_e, sX_e, sF_e, sG_e, sA_e, sE_e, sEo_e, sK_e, sQ_e, sI_e, sR_e, sV_e, sB_e, sC_e, sD_e, sN_e, sP_e, sY_e, st_0, st_S, zc_0, zc_S, r_eq, r_ne, r_lt, r_le, r_gt, r_ge, rb_ite, rb_0, rb_1, b7, h, rb_0]
  · simp at h
    by_cases p : l = -9 <;> simp [lf_X9_leaves_1, xC_e, xL_e, xU_e, xB_e, xD_e, xF_e, xG_e, xA_e, xE_e, xH_e, xI_e, xZ_e, xK_e, aN_e, aC_e, cR_e, cV_e, cA_e, cO_e, cN_e, bs_e, bn_e, zg_0, zg_S, sS_e, sX_e, sF_e, sG_e, sA_e, sE_e, sEo_e, sK_e, sQ_e, sI_e, sR_e, sV_e, sB_e, sC_e, sD_e, sN_e, sP_e, sY_e, st_0, st_S, zc_0, zc_S, r_eq, r_ne, r_lt, r_le, r_gt, r_ge, rb_ite, rb_0, rb_1, b7, h, rb_1, p, e]
theorem v_lvEval {σ τ : zHp} {b q was n l g k : Int} (b7 : 0 ≤ b ∧ b < 7) (g1 : 0 ≤ b ∧ b < σ 37 14) (g2 : 0 ≤ q ∧ q ≤ 2) (hw : σ 46 b = was) (hl : sW lc_X9_leaves_1 lf_X9_leaves_1 ls_X9_leaves_1 [37, b, q, was, 0, -9, -9, 1] σ = some (0, [37, b, q, was, n, l, g, k], τ)) : m_X9_leaves [37, b, q] σ = some (if q = 0 then n else if q = 1 then l else g, zput τ 46 b was) := by
  rcases (show q = 0 ∨ q = 1 ∨ q = 2 by omega) with rfl | rfl | rfl <;> simp [e_X9_leaves, d_X9_leaves, xC_e, xL_e, xU_e, xB_e, xD_e, xF_e, xG_e, xA_e, xE_e, xH_e, xI_e, xZ_e, xK_e, aN_e, aC_e, cR_e, cV_e, cA_e, cO_e, cN_e, bs_e, bn_e, zg_0, zg_S, sS_e, sX_e, sF_e, sG_e, sA_e, sE_e, sEo_e, sK_e, sQ_e, sI_e, sR_e, sV_e, sB_e, sC_e, sD_e, sN_e, sP_e, sY_e, st_0, st_S, zc_0, zc_S, r_eq, r_ne, r_lt, r_le, r_gt, r_ge, rb_ite, rb_0, rb_1, b7, v_isBell_t g1, v_within_t g2, hw, hl]
theorem w_lvEval {σ : zHp} {b q n l g k : Int} (g1 : 0 ≤ b ∧ b < σ 6 0) (g2 : 0 ≤ q ∧ q ≤ 2) (hl : sW lc_X8_leaves_1 lf_X8_leaves_1 ls_X8_leaves_1 [0, b, q, 0, -9, -9, 1] σ = some (0, [0, b, q, n, l, g, k], σ)) : m_X8_leaves [0, b, q] σ = some (if q = 0 then n else if q = 1 then l else g, σ) := by
  rcases (show q = 0 ∨ q = 1 ∨ q = 2 by omega) with rfl | rfl | rfl <;> simp [e_X8_leaves, d_X8_leaves, xC_e, xL_e, xU_e, xB_e, xD_e, xF_e, xG_e, xA_e, xE_e, xH_e, xI_e, xZ_e, xK_e, aN_e, aC_e, cR_e, cV_e, cA_e, cO_e, cN_e, bs_e, bn_e, zg_0, zg_S, sS_e, sX_e, sF_e, sG_e, sA_e, sE_e, sEo_e, sK_e, sQ_e, sI_e, sR_e, sV_e, sB_e, sC_e, sD_e, sN_e, sP_e, sY_e, st_0, st_S, zc_0, zc_S, r_eq, r_ne, r_lt, r_le, r_gt, r_ge, rb_ite, rb_0, rb_1, w_isBell_t g1, hl]
theorem zp19 : zp_19 zInv := by
  intro b q hbr hqr σ hI
  have hR := zI9 hI
  have hN := zI3 hI
  have r1 := hR.1
  have r2 := hR.2.1
  have r3 := hR.2.2.1
  have n6 := hN.2.2.1
  obtain ⟨nb1, nb2⟩ := zNb_e hI
  have ha : zOkA [0, 0] [b, q] := ⟨hbr, hqr, trivial⟩
  by_cases g1 : 0 ≤ b ∧ b < σ 6 0
  case neg =>
    have g1' : ¬ (0 ≤ b ∧ b < σ 37 14) := by rw [hN.1]; exact g1
    refine zq k_X8_leaves k_X9_leaves hI ha (r := -1) (σ1 := σ) (σ2 := σ) ?_ ?_ (zSame.rf σ) (zSame.rf σ)
    · simp [e_X8_leaves, d_X8_leaves, xC_e, xL_e, xU_e, xB_e, xD_e, xF_e, xG_e, xA_e, xE_e, xH_e, xI_e, xZ_e, xK_e, aN_e, aC_e, cR_e, cV_e, cA_e, cO_e, cN_e, bs_e, bn_e, zg_0, zg_S, sS_e, sX_e, sF_e, sG_e, sA_e, sE_e, sEo_e, sK_e, sQ_e, sI_e, sR_e, sV_e, sB_e, sC_e, sD_e, sN_e, sP_e, sY_e, st_0, st_S, zc_0, zc_S, r_eq, r_ne, r_lt, r_le, r_gt, r_ge, rb_ite, rb_0, rb_1, w_isBell_f g1]
    · simp [e_X9_leaves, d_X9_leaves, xC_e, xL_e, xU_e, xB_e, xD_e, xF_e, xG_e, xA_e, xE_e, xH_e, xI_e, xZ_e, xK_e, aN_e, aC_e, cR_e, cV_e, cA_e, cO_e, cN_e, bs_e, bn_e, zg_0, zg_S, sS_e, sX_e, sF_e, sG_e, sA_e, sE_e, sEo_e, sK_e, sQ_e, sI_e, sR_e, sV_e, sB_e, sC_e, sD_e, sN_e, sP_e, sY_e, st_0, st_S, zc_0, zc_S, r_eq, r_ne, r_lt, r_le, r_gt, r_ge, rb_ite, rb_0, rb_1, v_isBell_f g1']
  have g1' : 0 ≤ b ∧ b < σ 37 14 := by rw [hN.1]; exact g1
  by_cases g2 : 0 ≤ q ∧ q ≤ 2
  case neg =>
    refine zq k_X8_leaves k_X9_leaves hI ha (r := -2) (σ1 := σ) (σ2 := σ) ?_ ?_ (zSame.rf σ) (zSame.rf σ)
    · by_cases z : q < 0
      · simp [e_X8_leaves, d_X8_leaves, xC_e, xL_e, xU_e, xB_e, xD_e, xF_e, xG_e, xA_e, xE_e, xH_e, xI_e, xZ_e, xK_e, aN_e, aC_e, cR_e, cV_e, cA_e, cO_e, cN_e, bs_e, bn_e, zg_0, zg_S, sS_e, sX_e, sF_e, sG_e, sA_e, sE_e, sEo_e, sK_e, sQ_e, sI_e, sR_e, sV_e, sB_e, sC_e, sD_e, sN_e, sP_e, sY_e, st_0, st_S, zc_0, zc_S, r_eq, r_ne, r_lt, r_le, r_gt, r_ge, rb_ite, rb_0, rb_1, w_isBell_t g1, z]
      · have z2 : 2 < q := by omega
        simp [e_X8_leaves, d_X8_leaves, xC_e, xL_e, xU_e, xB_e, xD_e, xF_e, xG_e, xA_e, xE_e, xH_e, xI_e, xZ_e, xK_e, aN_e, aC_e, cR_e, cV_e, cA_e, cO_e, cN_e, bs_e, bn_e, zg_0, zg_S, sS_e, sX_e, sF_e, sG_e, sA_e, sE_e, sEo_e, sK_e, sQ_e, sI_e, sR_e, sV_e, sB_e, sC_e, sD_e, sN_e, sP_e, sY_e, st_0, st_S, zc_0, zc_S, r_eq, r_ne, r_lt, r_le, r_gt, r_ge, rb_ite, rb_0, rb_1, w_isBell_t g1, z2]
    · simp [e_X9_leaves, d_X9_leaves, xC_e, xL_e, xU_e, xB_e, xD_e, xF_e, xG_e, xA_e, xE_e, xH_e, xI_e, xZ_e, xK_e, aN_e, aC_e, cR_e, cV_e, cA_e, cO_e, cN_e, bs_e, bn_e, zg_0, zg_S, sS_e, sX_e, sF_e, sG_e, sA_e, sE_e, sEo_e, sK_e, sQ_e, sI_e, sR_e, sV_e, sB_e, sC_e, sD_e, sN_e, sP_e, sY_e, st_0, st_S, zc_0, zc_S, r_eq, r_ne, r_lt, r_le, r_gt, r_ge, rb_ite, rb_0, rb_1, v_isBell_t g1', v_within_f g2]
  have nr : (((σ 14 2).toNat : Nat) : Int) = σ 14 2 := by omega
  generalize hn : (σ 14 2).toNat = n at nr
  generalize hp : (fun k : Nat => zAll (zNm σ (zWs (σ 9) b (1 + (k : Int))) b) n) = p
  have hpe : ∀ k : Nat, zAll (zNm σ (zWs (σ 9) b (1 + (k : Int))) b) n = p k := fun k => congrFun hp k
  have l1 := zforP (c := lc_X8_leaves_1) (f := lf_X8_leaves_1) (i := 6) (lo := 1) (σ := σ) 99 (fun k => [0, b, q, (zLv p k).1, (zLv p k).2.1, (zLv p k).2.2, 1 + (k : Int)]) (fun k => rfl) (by decide) (by decide)
    (fun k hk => zc_le (i := 6) (x := 1 + (k : Int)) rfl (xC_e _ _ _) (by omega))
    (fun k hk => by
      have aw := w_aw hI nr (b := b) (w := 1 + (k : Int)) (by omega)
      rw [hpe] at aw
      have lb := zLv_b p k
      have body := w_lvBody (q := q) (l := (zLv p k).2.1) (g := (zLv p k).2.2) (n := (zLv p k).1) (by omega) aw
      refine ⟨_, _, body, Or.inl rfl, ?_, ?_⟩
      · split <;> rfl
      · show _ = [0, b, q, (if _ then _ else _ : Int × Int × Int).1, (if _ then _ else _ : Int × Int × Int).2.1, (if _ then _ else _ : Int × Int × Int).2.2, _]
        split <;> rfl)
  have l1b : sW lc_X8_leaves_1 lf_X8_leaves_1 ls_X8_leaves_1 [0, b, q, 0, -9, -9, 1] σ = some (0, [0, b, q, (zLv p 99).1, (zLv p 99).2.1, (zLv p 99).2.2, 1 + ((99 : Nat) : Int)], σ) := l1
  obtain ⟨υ, l2, z2⟩ := zfor0 (c := lc_X9_leaves_1) (f := lf_X9_leaves_1) (i := 7) (lo := 1) (σ := σ) 99 (fun k => [37, b, q, σ 46 b, (zLv p k).1, (zLv p k).2.1, (zLv p k).2.2, 1 + (k : Int)]) (fun k x => ∀ a i : Int, ¬ (a = 37 ∧ (i = 18 ∨ i = 19)) → ¬ (a = 46 ∧ i = b) → x a i = σ a i) (fun _ _ _ _ => rfl) (fun k => rfl) (by decide) (by decide)
    (fun k x hk hx => zc_le (i := 7) (x := 1 + (k : Int)) rfl (xC_e _ _ _) (by omega))
    (fun k x hk hx => by
      obtain ⟨x', h, z⟩ := v_as hI nr (υ := zput x 46 b (1 + (k : Int))) (fun a i q1 q2 => by rw [zput_o q2]; exact hx a i q1 (by omega)) (W := zWs (σ 9) b (1 + (k : Int))) (fun i i0 i1 => by
        by_cases z : i = b
        · rw [z, zput_self, zWs_b]
        · rw [zput_i z, zWs_n z, hx 46 i (by omega) (by omega), (hN.2.2.2 i i0 i1).2.2.1]) (zWs_W (zWt_I hI) (by omega)) b
      rw [hpe] at h
      have lb := zLv_b p k
      have body := v_lvBody (q := q) (was := σ 46 b) (l := (zLv p k).2.1) (g := (zLv p k).2.2) (n := (zLv p k).1) (by omega) (by omega) h
      refine ⟨_, _, _, body, Or.inl rfl, ?_, ?_, fun a i q1 q2 => by rw [z a i q1, zput_n q2]; exact hx a i q1 q2⟩
      · split <;> rfl
      · show _ = [37, b, q, _, (if _ then _ else _ : Int × Int × Int).1, (if _ then _ else _ : Int × Int × Int).2.1, (if _ then _ else _ : Int × Int × Int).2.2, _]
        split <;> rfl)
  have l2b : sW lc_X9_leaves_1 lf_X9_leaves_1 ls_X9_leaves_1 [37, b, q, σ 46 b, 0, -9, -9, 1] σ = some (0, [37, b, q, σ 46 b, (zLv p 99).1, (zLv p 99).2.1, (zLv p 99).2.2, 1 + ((99 : Nat) : Int)], υ) := l2
  have h1 := w_lvEval g1 g2 l1b
  have h2 := v_lvEval (by omega) g1' g2 rfl l2b
  refine zq k_X8_leaves k_X9_leaves hI ha h1 h2 (zSame.rf σ) (fun a i hab => ?_)
  by_cases z : a = 46 ∧ i = b
  · rw [z.1, z.2, zput_self]
  · rw [zput_n z]
    refine z2 a i ?_ z
    rintro ⟨rfl, rfl | rfl⟩ <;> simp [zfree] at hab
