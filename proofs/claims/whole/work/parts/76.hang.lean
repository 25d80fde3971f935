/-! bars, own cells -/
theorem zCp_k {τ υ : zHp} {n C : Nat} {F : Int} {W : Int → Int} {G : Int → Int → Int} (h : zCp τ n C F W G) (e1 : υ 6 0 = τ 6 0) (e2 : υ 1 2 = τ 1 2) (e3 : υ 10 5 = τ 10 5) (e4 : ∀ k, υ 9 k = τ 9 k) (e5 : ∀ k, υ 12 k = τ 12 k) : zCp υ n C F W G := by
  obtain ⟨h1, h2, h3, h4, h5⟩ := h
  exact ⟨by rw [e1, h1], by rw [e2, h2], by rw [e3, h3], fun b b0 b1 => by rw [e4, h4 b b0 b1], fun b c b0 b1 c0 c1 => by rw [e5, h5 b c b0 b1 c0 c1]⟩
theorem w_sbBody {υ : zHp} {o b k v : Int} (k30 : 0 ≤ k ∧ k < 30) (h : m_X0_bar [10, o, k, b, b] υ = some (v, υ)) : lf_X0_setBars_1 [10, o, b, k] υ = some (0, [10, o, b, k], zput υ 13 k v) := by
  simp [lf_X0_setBars_1, xC_e, xL_e, xU_e, xB_e, xD_e, xF_e, xG_e, xA_e, xE_e, xH_e, xI_e, xZ_e, xK_e, aN_e, aC_e, cR_e, cV_e, cA_e, cO_e, cN_e, bs_e, bn_e, zg_0, zg_S, sS_e, sX_e, sF_e, sG_e, sA_e, sE_e, sEo_e, sK_e, sQ_e, sI_e, sR_e, sV_e, sB_e, sC_e, sD_e, sN_e, sP_e, sY_e, st_0, st_S, zc_0, zc_S, k30, h]
theorem w_sbEval {υ τ : zHp} {o b k : Int} (hl : sW lc_X0_setBars_1 lf_X0_setBars_1 ls_X0_setBars_1 [10, o, b, 0] υ = some (0, [10, o, b, k], τ)) : m_X0_setBars [10, o, b] υ = some (0, τ) := by
  simp [e_X0_setBars, d_X0_setBars, xC_e, xL_e, xU_e, xB_e, xD_e, xF_e, xG_e, xA_e, xE_e, xH_e, xI_e, xZ_e, xK_e, aN_e, aC_e, cR_e, cV_e, cA_e, cO_e, cN_e, bs_e, bn_e, zg_0, zg_S, sS_e, sX_e, sF_e, sG_e, sA_e, sE_e, sEo_e, sK_e, sQ_e, sI_e, sR_e, sV_e, sB_e, sC_e, sD_e, sN_e, sP_e, sY_e, st_0, st_S, zc_0, zc_S, hl]
theorem w_sb {σ : zHp} {n C : Nat} {F o : Int} {W V : Int → Int} {G : Int → Int → Int} (hC : zCp σ n C F W G) (hQ : zCq n C F G) (ho : o ≠ 13) (hV : ∀ b : Int, 0 ≤ b → b < n → σ o b = V b) (hW : zWt n V) (b : Int) : ∃ τ, m_X0_setBars [10, o, b] σ = some (0, τ) ∧ (∀ x y, x ≠ 13 → τ x y = σ x y) ∧ ∀ c : Int, 0 ≤ c → c < C → τ 13 c = zBr F (zLd V G c) b b n := by
  have c30 := hQ.2.1
  obtain ⟨τ, l, z1, z2⟩ := zfor0 (c := lc_X0_setBars_1) (f := lf_X0_setBars_1) (i := 3) (lo := 0) (σ := σ) C (fun k => [10, o, b, 0 + (k : Int)]) (fun k x => (∀ a y, a ≠ 13 → x a y = σ a y) ∧ ∀ c : Int, 0 ≤ c → c < k → x 13 c = zBr F (zLd V G c) b b n) ⟨fun _ _ _ => rfl, fun c c0 c1 => by omega⟩ (fun k => rfl) (by decide) (by omega)
    (fun k x hk hx => zc_lt (i := 3) (x := 0 + (k : Int)) rfl (zx_G (N := C) (by rw [hx.1 1 2 (by decide)]; exact hC.2.1)) (by omega))
    (fun k x hk hx => by
      have hCx := zCp_k (υ := x) hC (hx.1 6 0 (by decide)) (hx.1 1 2 (by decide)) (hx.1 10 5 (by decide)) (fun k => hx.1 9 k (by decide)) (fun k => hx.1 12 k (by decide))
      have br := w_bar hCx hQ (o := o) (V := V) (fun b b0 b1 => by rw [hx.1 o b ho]; exact hV b b0 b1) hW (c := (k : Int)) (by omega) b b
      have body := w_sbBody (by omega) br
      rw [z0k, z0k]
      refine ⟨_, _, _, body, Or.inl rfl, rfl, rfl, fun a y h => by rw [zput_o h]; exact hx.1 a y h, fun c c0 c1 => ?_⟩
      by_cases z : c = (k : Int)
      · rw [z, zput_self]
      · rw [zput_i z]
        exact hx.2 c c0 (by omega))
  exact ⟨τ, w_sbEval l, z1, z2⟩
theorem v_ocBody {υ τ : zHp} {b s k x : Int} (h1 : m_X9_whoseBy [37, k] υ = some (x, τ)) (hs : 0 ≤ s ∧ s ≤ 300) : lf_X9_ownCells_1 [37, b, s, k] υ = some (0, [37, b, s + (if x = b then 1 else 0), k], τ) := by
  have e : o_iadd s 1 = s + 1 := w32_id ⟨by omega, by omega⟩
  have e0 : o_iadd s 0 = s := by
    have : o_iadd s 0 = s + 0 := w32_id ⟨by omega, by omega⟩
    omega
  by_cases p : x = b <;> simp [lf_X9_ownCells_1, xC_e, xL_e, xU_e, xB_e, xD_e, xF_e, xG_e, xA_e, xE_e, xH_e, xI_e, xZ_e, xK_e, aN_e, aC_e, cR_e, cV_e, cA_e, cO_e, cN_e, bs_e, bn_e, zg_0, zg_S, sS_e, sX_e, sF_e, sG_e, sA_e, sE_e, sEo_e, sK_e, sQ_e, sI_e, sR_e, sV_e, sB_e, sC_e, sD_e, sN_e, sP_e, sY_e, st_0, st_S, zc_0, zc_S, r_eq, r_ne, r_lt, r_le, r_gt, r_ge, rb_ite, rb_0, rb_1, h1, p, e, e0]
theorem v_ocEval {υ τ : zHp} {b s k : Int} (hl : sW lc_X9_ownCells_1 lf_X9_ownCells_1 ls_X9_ownCells_1 [37, b, 0, 0] υ = some (0, [37, b, s, k], τ)) : m_X9_ownCells [37, b] υ = some (s, τ) := by
  simp [e_X9_ownCells, d_X9_ownCells, xC_e, xL_e, xU_e, xB_e, xD_e, xF_e, xG_e, xA_e, xE_e, xH_e, xI_e, xZ_e, xK_e, aN_e, aC_e, cR_e, cV_e, cA_e, cO_e, cN_e, bs_e, bn_e, zg_0, zg_S, sS_e, sX_e, sF_e, sG_e, sA_e, sE_e, sEo_e, sK_e, sQ_e, sI_e, sR_e, sV_e, sB_e, sC_e, sD_e, sN_e, sP_e, sY_e, st_0, st_S, zc_0, zc_S, hl]
theorem v_oc {σ : zHp} {n C : Nat} {K F ea : Int} {W : Int → Int} {P Q G : Int → Int → Int} (hR : zRp σ n C ea W P Q) (hP : zPc n C K F ea P Q G) (hW : zWt n W) (b : Int) : ∃ τ, m_X9_ownCells [37, b] σ = some (((zcn (fun i => decide (zWh F (zLd W G i) n = b)) C : Nat) : Int), τ) ∧ z22 σ τ := by
  have c30 := hP.2.1
  obtain ⟨τ, l, z⟩ := zfor0 (c := lc_X9_ownCells_1) (f := lf_X9_ownCells_1) (i := 3) (lo := 0) (σ := σ) C (fun k => [37, b, ((zcn (fun i => decide (zWh F (zLd W G i) n = b)) k : Nat) : Int), 0 + (k : Int)]) (fun k x => z22 σ x) (z22.rf σ) (fun k => rfl) (by decide) (by omega)
    (fun k x hk hx => zc_lt (i := 3) (x := 0 + (k : Int)) rfl (zx_all (zRp_z hR hx).2.1) (by omega))
    (fun k x hk hx => by
      have le := zcn_le (fun i => decide (zWh F (zLd W G i) n = b)) k
      have body := v_ocBody (b := b) (s := ((zcn (fun i => decide (zWh F (zLd W G i) n = b)) k : Nat) : Int)) (v_wb (zRp_z hR hx) hP hW (c := (k : Int)) (by omega)) (by omega)
      rw [z0k, z0k]
      refine ⟨_, _, _, body, Or.inl rfl, rfl, ?_, hx.put _⟩
      have e : zcn (fun i => decide (zWh F (zLd W G i) n = b)) (k + 1) = zcn (fun i => decide (zWh F (zLd W G i) n = b)) k + if decide (zWh F (zLd W G k) n = b) = true then 1 else 0 := rfl
      rw [e]
      by_cases p : zWh F (zLd W G k) n = b
      · rw [if_pos p, if_pos (decide_eq_true p)]
        rfl
      · rw [if_neg p, if_neg (by rw [decide_eq_false p]; decide)]
        rw [Int.add_zero]
        rfl)
  exact ⟨τ, v_ocEval l, z⟩
/-! one more -/
def zGn (σ : zHp) (kd f c w : Int) : Int := zGr σ (zONE * zU kd / zDn σ kd f c) f c w
theorem zGn_v {σ : zHp} {v kd f c w : Int} (hd : 1 ≤ zDn σ kd f c) (hv : v * zDn σ kd f c = zONE * zU kd) : zGn σ kd f c w = zGr σ v f c w := by
  unfold zGn
  rw [← hv, Int.mul_ediv_cancel v (by omega)]
theorem zDn_1 {σ : zHp} (hL : zIL σ) {kd f c : Int} (hf : 0 ≤ f ∧ f < σ 1 2) (hc : 0 ≤ c ∧ c < σ 1 2) : 1 ≤ zDn σ kd f c := (zDn_b hL (kind := kd) hf hc).1
theorem w_onBody {υ : zHp} {f kd he w s k v g x br : Int} (k30 : 0 ≤ k ∧ k < 30) (h1 : m_X0_calmUnit [10, kd, f, k] υ = some (v, υ)) (h2 : m_X0_blown [10, v, f, k, w] υ = some (g, υ)) (o1 : o_lmul he g = x) (h3 : υ 13 k = br) (hs : 0 ≤ s ∧ s ≤ 300) : lf_X0_ownOfNewIn_1 [10, f, kd, he, w, s, k] υ = some (0, [10, f, kd, he, w, s + (if br < x then 1 else 0), k], υ) := by
  have e : o_iadd s 1 = s + 1 := w32_id ⟨by omega, by omega⟩
  by_cases p : br < x <;> simp [lf_X0_ownOfNewIn_1, xC_e, xL_e, xU_e, xB_e, xD_e, xF_e, xG_e, xA_e, xE_e, xH_e, xI_e, xZ_e, xK_e, aN_e, aC_e, cR_e, cV_e, cA_e, cO_e, cN_e, bs_e, bn_e, zg_0, zg_S, sS_e, sX_e, sF_e, sG_e, sA_e, sE_e, sEo_e, sK_e, sQ_e, sI_e, sR_e, sV_e, sB_e, sC_e, sD_e, sN_e, sP_e, sY_e, st_0, st_S, zc_0, zc_S, r_eq, r_ne, r_lt, r_le, r_gt, r_ge, rb_ite, rb_0, rb_1, k30, h1, h2, o1, h3, p, e]
theorem w_onEval {υ : zHp} {f kd he w s k : Int} (hl : sW lc_X0_ownOfNewIn_1 lf_X0_ownOfNewIn_1 ls_X0_ownOfNewIn_1 [10, f, kd, he, w, 0, 0] υ = some (0, [10, f, kd, he, w, s, k], υ)) : m_X0_ownOfNewIn [10, f, kd, he, w] υ = some (s, υ) := by
  simp [e_X0_ownOfNewIn, d_X0_ownOfNewIn, xC_e, xL_e, xU_e, xB_e, xD_e, xF_e, xG_e, xA_e, xE_e, xH_e, xI_e, xZ_e, xK_e, aN_e, aC_e, cR_e, cV_e, cA_e, cO_e, cN_e, bs_e, bn_e, zg_0, zg_S, sS_e, sX_e, sF_e, sG_e, sA_e, sE_e, sEo_e, sK_e, sQ_e, sI_e, sR_e, sV_e, sB_e, sC_e, sD_e, sN_e, sP_e, sY_e, st_0, st_S, zc_0, zc_S, hl]
theorem w_on {σ τ : zHp} (hI : zInv σ) (hs : zSame σ τ) {B : Int → Int} (hB : ∀ c : Int, 0 ≤ c → c < zNc σ → τ 13 c = B c) {f kd he w : Int} (hf : 0 ≤ f ∧ f < σ 1 2) (hk : 0 ≤ kd ∧ kd ≤ 2) (hh : 1 ≤ he ∧ he ≤ 99) (hw : 0 ≤ w ∧ w ≤ 39) : m_X0_ownOfNewIn [10, f, kd, he, w] τ = some (((zcn (fun c => decide (B c < he * zGn σ kd f c w)) (zNc σ) : Nat) : Int), τ) := by
  obtain ⟨nc1, nc2⟩ := zNc_e hI
  have e12 : τ 1 2 = (zNc σ : Int) := by rw [hs 1 2 rfl, nc1]
  refine w_onEval (k := 0 + (zNc σ : Int)) (zforP (c := lc_X0_ownOfNewIn_1) (f := lf_X0_ownOfNewIn_1) (i := 6) (lo := 0) (zNc σ) (fun k => [10, f, kd, he, w, ((zcn (fun c => decide (B c < he * zGn σ kd f c w)) k : Nat) : Int), 0 + (k : Int)]) (fun k => rfl) (by decide) (by omega)
    (fun k hk => zc_lt (i := 6) (x := 0 + (k : Int)) rfl (zx_G (N := (zNc σ : Nat)) e12) (by omega)) (fun k hk2 => ?_))
  have le := zcn_le (fun c : Nat => decide (B c < he * zGn σ kd f c w)) k
  have L' := zIL_s hI.2.2.1 hs
  have H' := zIH_s hI.2.2.2.1 hs
  have hft : 0 ≤ f ∧ f < τ 1 2 := by rw [hs 1 2 rfl]; exact hf
  have hct : 0 ≤ (k : Int) ∧ (k : Int) < τ 1 2 := by omega
  have hct2 : 0 ≤ (k : Int) ∧ (k : Int) < σ 1 2 := by omega
  obtain ⟨v, v1, v2⟩ := w_calmUnit_r (σ := τ) (ρ := σ) L' H' (zIB_s hI.2.2.2.2.1 hs) (hs 1 1 rfl).symm (fun k => (hs 2 k rfl).symm) (fun c hc => by rw [hs 1 3 rfl, hs 1 2 rfl]; exact hI.2.2.2.2.2.1 c hc) hk hft hct
  have vb := zCalm_b hI.2.2.1 hf hct2 v2
  have bl := w_blown L' H' (v := v) (f := f) (c := (k : Int)) (w := w) (by omega) hft hct hw
  rw [zGr_eq (hs 1 1 rfl), ← zGn_v (zDn_1 hI.2.2.1 hf hct2) v2] at bl
  have gb : 1 ≤ zGn σ kd f k w ∧ zGn σ kd f k w ≤ 21508378785653760 := by
    rw [zGn_v (zDn_1 hI.2.2.1 hf hct2) v2]
    exact zGr_b vb hw
  have m := zmul_i (x := he) (y := zGn σ kd f k w) 99 21508378785653760 (by omega) (by omega)
  have body := w_onBody (s := ((zcn (fun c => decide (B c < he * zGn σ kd f c w)) k : Nat) : Int)) (by omega) v1 bl (o1 := w64_id (x := he * zGn σ kd f k w) ⟨by omega, by omega⟩) (hB k (by omega) (by omega)) (by omega)
  rw [z0k, z0k]
  refine ⟨_, _, body, Or.inl rfl, rfl, ?_⟩
  have e : zcn (fun c : Nat => decide (B c < he * zGn σ kd f c w)) (k + 1) = zcn (fun c : Nat => decide (B c < he * zGn σ kd f c w)) k + if decide (B k < he * zGn σ kd f k w) = true then 1 else 0 := rfl
  rw [e]
  by_cases p : B k < he * zGn σ kd f k w
  · rw [if_pos p, if_pos (decide_eq_true p)]
    rfl
  · rw [if_neg p, if_neg (by rw [decide_eq_false p]; decide)]
    rw [Int.add_zero]
    rfl
def zHg (f : Nat → Int) : Nat → Int × Int
  | 0 => (0, -1)
  | k + 1 => if (zHg f k).2 < f k then ((k : Int), f k) else zHg f k
theorem w_hgBody {υ : zHp} {kd he w q be mo k s : Int} (h : m_X0_ownOfNewIn [10, k, kd, he, w] υ = some (s, υ)) : lf_X8_hang_1 [0, kd, he, w, q, be, mo, k, 0] υ = some (0, if mo < s then [0, kd, he, w, q, k, s, k, 0] else [0, kd, he, w, q, be, mo, k, 0], υ) := by
  by_cases p : mo < s <;> simp [lf_X8_hang_1, xC_e, xL_e, xU_e, xB_e, xD_e, xF_e, xG_e, xA_e, xE_e, xH_e, xI_e, xZ_e, xK_e, aN_e, aC_e, cR_e, cV_e, cA_e, cO_e, cN_e, bs_e, bn_e, zg_0, zg_S, sS_e, sX_e, sF_e, sG_e, sA_e, sE_e, sEo_e, sK_e, sQ_e, sI_e, sR_e, sV_e, sB_e, sC_e, sD_e, sN_e, sP_e, sY_e, st_0, st_S, zc_0, zc_S, r_eq, r_ne, r_lt, r_le, r_gt, r_ge, rb_ite, rb_0, rb_1, h, p]
theorem v_hgBody {υ τ τ2 : zHp} {kd he w q one be mo k s : Int} (o7 : 0 ≤ one ∧ one < 7) (h1 : m_X9_layOne [37, one, w] (zput υ 45 one k) = some (0, τ)) (h2 : m_X9_ownCells [37, one] τ = some (s, τ2)) : lf_X9_hang_1 [37, kd, he, w, q, one, be, mo, k, 0] υ = some (0, if mo < s then [37, kd, he, w, q, one, k, s, k, 0] else [37, kd, he, w, q, one, be, mo, k, 0], τ2) := by
  by_cases p : mo < s <;> simp [lf_X9_hang_1, xC_e, xL_e, xU_e, xB_e, xD_e, xF_e, xG_e, xA_e, xE_e, xH_e, xI_e, xZ_e, xK_e, aN_e, aC_e, cR_e, cV_e, cA_e, cO_e, cN_e, bs_e, bn_e, zg_0, zg_S, sS_e, sX_e, sF_e, sG_e, sA_e, sE_e, sEo_e, sK_e, sQ_e, sI_e, sR_e, sV_e, sB_e, sC_e, sD_e, sN_e, sP_e, sY_e, st_0, st_S, zc_0, zc_S, r_eq, r_ne, r_lt, r_le, r_gt, r_ge, rb_ite, rb_0, rb_1, o7, h1, h2, p]
theorem zInv_hg {σ τ : zHp} (ho : zOk τ) (h : zInv σ) (hs : ∀ a b : Int, zfree a b = false → ¬ ((a = 44 ∨ a = 45 ∨ a = 46) ∧ b = σ 6 0) → τ a b = σ a b) : zInv τ := by
  obtain ⟨-, hF, hL, hH, hB, hP, hE, hN, hC, hR, hS⟩ := h
  have e : ∀ a b : Int, zfree a b = false → a ≠ 44 → a ≠ 45 → a ≠ 46 → τ a b = σ a b := fun a b h1 h2 h3 h4 => hs a b h1 (by omega)
  have N' : zIN τ := by
    obtain ⟨n1, n2, n3, n4⟩ := hN
    have e6 := e 6 0 rfl (by decide) (by decide) (by decide)
    refine ⟨by rw [e 37 14 rfl (by decide) (by decide) (by decide), e6, n1], by rw [e6]; exact n2, by rw [e6]; exact n3, fun b b0 b1 => ?_⟩
    rw [e6] at b1
    rw [hs 44 b rfl (by omega), hs 45 b rfl (by omega), hs 46 b rfl (by omega), e 7 b rfl (by decide) (by decide) (by decide), e 8 b rfl (by decide) (by decide) (by decide), e 9 b rfl (by decide) (by decide) (by decide), e 1 2 rfl (by decide) (by decide) (by decide)]
    exact n4 b b0 b1
  have S' : zIS τ := zIS_c hS (fun o k h1 h2 => by rcases (show o = 29 ∨ o = 30 ∨ o = 31 ∨ o = 32 ∨ o = 33 ∨ o = 34 ∨ o = 35 ∨ o = 36 by omega) with rfl | rfl | rfl | rfl | rfl | rfl | rfl | rfl <;> exact e _ k rfl (by decide) (by decide) (by decide)) (fun k => e 38 k rfl (by decide) (by decide) (by decide)) (fun k => e 39 k rfl (by decide) (by decide) (by decide)) (fun k => e 40 k rfl (by decide) (by decide) (by decide))
  refine ⟨ho, zIF_c hF ?_ ?_ ?_ ?_, zIL_c hL ?_ ?_ ?_ ?_ ?_, zIH_c hH ?_ ?_ ?_ ?_ ?_ ?_, zIB_c hB ?_ ?_ ?_, zIP_c hP ?_ ?_ ?_, zIE_c hE ?_ ?_, N', zIC_c hC ?_ ?_ ?_ ?_ ?_ ?_ ?_ ?_, zIR_c hR ?_ ?_ ?_ ?_ ?_ ?_ ?_ ?_ ?_ ?_ ?_ ?_, S'⟩ <;> (intros; apply e <;> first | rfl | decide)
