/-! pacts -/
def zTi (h : Nat → Int) (f : Nat → Bool) (i : Nat) : Int := if f i = true then 10 - h i else 0
theorem w_tiOf {υ : zHp} {k x : Int} (hk : 0 ≤ k ∧ k < 30) (h : υ 2 k = x) (hx : 0 ≤ x ∧ x ≤ 9) : m_X3_titheOf [1, k] υ = some (10 - x, υ) := by
  have e : o_isub 10 x = 10 - x := w32_id ⟨by omega, by omega⟩
  simp [e_X3_titheOf, d_X3_titheOf, xC_e, xL_e, xU_e, xB_e, xD_e, xF_e, xG_e, xA_e, xE_e, xH_e, xI_e, xZ_e, xK_e, aN_e, aC_e, cR_e, cV_e, cA_e, cO_e, cN_e, bs_e, bn_e, zg_0, zg_S, sS_e, sX_e, sF_e, sG_e, sA_e, sE_e, sEo_e, sK_e, sQ_e, sI_e, sR_e, sV_e, sB_e, sC_e, sD_e, sN_e, sP_e, sY_e, st_0, st_S, zc_0, zc_S, hk, h, e]
theorem v_tiOf {υ : zHp} {k x : Int} (hk : 0 ≤ k ∧ k < 30) (h : υ 41 k = x) (hx : 0 ≤ x ∧ x ≤ 9) : m_X9_tithe [37, k] υ = some (10 - x, υ) := by
  have e : o_isub 10 x = 10 - x := w32_id ⟨by omega, by omega⟩
  simp [e_X9_tithe, d_X9_tithe, xC_e, xL_e, xU_e, xB_e, xD_e, xF_e, xG_e, xA_e, xE_e, xH_e, xI_e, xZ_e, xK_e, aN_e, aC_e, cR_e, cV_e, cA_e, cO_e, cN_e, bs_e, bn_e, zg_0, zg_S, sS_e, sX_e, sF_e, sG_e, sA_e, sE_e, sEo_e, sK_e, sQ_e, sI_e, sR_e, sV_e, sB_e, sC_e, sD_e, sN_e, sP_e, sY_e, st_0, st_S, zc_0, zc_S, hk, h, e]
theorem zTi_b {h : Nat → Int} (f : Nat → Bool) {n : Nat} (hh : ∀ i, i < n → 0 ≤ h i ∧ h i ≤ 9) : ∀ k, k ≤ n → n ≤ 30 → 0 ≤ zSm (zTi h f) k ∧ zSm (zTi h f) k ≤ 300 := by
  intro k hk hn
  have b := zSm_b (f := zTi h f) (lo := 0) (hi := 10) k (fun i hi => by
    have := hh i (by omega)
    unfold zTi
    split <;> omega)
  omega
theorem w_tsBody {υ : zHp} {s sum k x : Int} {bit : Bool} (hb : zAnd (zShr s k) 1 = if bit = true then 1 else 0) (h : m_X3_titheOf [1, k] υ = some (x, υ)) (hs : 0 ≤ sum ∧ sum ≤ 300) (hx : 0 ≤ x ∧ x ≤ 10) : lf_X3_titheOfSet_1 [1, s, sum, k] υ = some (0, [1, s, sum + (if bit = true then x else 0), k], υ) := by
  have e : o_iadd sum x = sum + x := w32_id ⟨by omega, by omega⟩
  cases bit
  · simp at hb
    simp [lf_X3_titheOfSet_1, xC_e, xL_e, xU_e, xB_e, xD_e, xF_e, xG_e, xA_e, xE_e, xH_e, xI_e, xZ_e, xK_e, aN_e, aC_e, cR_e, cV_e, cA_e, cO_e, cN_e, bs_e, bn_e, zg_0, zg_S, sS_e, sX_e, sF_e, sG_e, sA_e, sE_e, sEo_e, sK_e, sQ_e, sI_e, sR_e, sV_e, sB_e, sC_e, sD_e, sN_e, sP_e, sY_e, st_0, st_S, zc_0, zc_S, r_eq, r_ne, r_lt, r_le, r_gt, r_ge, rb_ite, rb_0, rb_1, hb]
  · simp at hb
    simp [lf_X3_titheOfSet_1, xC_e, xL_e, xU_e, xB_e, xD_e, xF_e, xG_e, xA_e, xE_e, xH_e, xI_e, xZ_e, xK_e, aN_e, aC_e, cR_e, cV_e, cA_e, cO_e, cN_e, bs_e, bn_e, zg_0, zg_S, sS_e, sX_e, sF_e, sG_e, sA_e, sE_e, sEo_e, sK_e, sQ_e, sI_e, sR_e, sV_e, sB_e, sC_e, sD_e, sN_e, sP_e, sY_e, st_0, st_S, zc_0, zc_S, r_eq, r_ne, r_lt, r_le, r_gt, r_ge, rb_ite, rb_0, rb_1, hb, h, e]
theorem w_tsEval {υ : zHp} {s sum k : Int} (hl : sW lc_X3_titheOfSet_1 lf_X3_titheOfSet_1 ls_X3_titheOfSet_1 [1, s, 0, 0] υ = some (0, [1, s, sum, k], υ)) : m_X3_titheOfSet [1, s] υ = some (sum, υ) := by
  simp [e_X3_titheOfSet, d_X3_titheOfSet, xC_e, xL_e, xU_e, xB_e, xD_e, xF_e, xG_e, xA_e, xE_e, xH_e, xI_e, xZ_e, xK_e, aN_e, aC_e, cR_e, cV_e, cA_e, cO_e, cN_e, bs_e, bn_e, zg_0, zg_S, sS_e, sX_e, sF_e, sG_e, sA_e, sE_e, sEo_e, sK_e, sQ_e, sI_e, sR_e, sV_e, sB_e, sC_e, sD_e, sN_e, sP_e, sY_e, st_0, st_S, zc_0, zc_S, hl]
theorem w_ts {υ : zHp} {C : Nat} {f : Nat → Bool} (hC : υ 1 2 = C) (c30 : C ≤ 30) (hh : ∀ i : Nat, i < C → 0 ≤ υ 2 i ∧ υ 2 i ≤ 9) : m_X3_titheOfSet [1, zSt2 f C] υ = some (zSm (zTi (fun i => υ 2 i) f) C, υ) := by
  refine w_tsEval (k := 0 + (C : Int)) (zforP (c := lc_X3_titheOfSet_1) (f := lf_X3_titheOfSet_1) (i := 3) (lo := 0) C (fun k => [1, zSt2 f C, zSm (zTi (fun i => υ 2 i) f) k, 0 + (k : Int)]) (fun k => rfl) (by decide) (by omega)
    (fun k hk => zc_lt (i := 3) (x := 0 + (k : Int)) rfl (zx_G (N := C) hC) (by omega)) (fun k hk => ?_))
  have hk9 := hh k hk
  have body := w_tsBody (υ := υ) (s := zSt2 f C) (sum := zSm (zTi (fun i => υ 2 i) f) k) (k := (k : Int)) (bit := f k) (by
    rw [zbit (by omega), zt_St2 f C (by omega), decide_eq_true hk, Bool.true_and]) (w_tiOf (by omega) rfl hk9) (zTi_b f hh k (by omega) c30) (by omega)
  rw [z0k, z0k]
  exact ⟨_, _, body, Or.inl rfl, rfl, rfl⟩
/-- whether two have a pact -/
def zPt (F : Int) (W : Int → Int) (G : Int → Int → Int) (h : Nat → Int) (n C : Nat) (a b : Int) : Bool := decide (2 * zSm (zTi h (zOw F W G n a)) C < zSm (zTi h (zBo F W G n a b)) C ∧ 2 * zSm (zTi h (zOw F W G n b)) C < zSm (zTi h (zBo F W G n a b)) C)
theorem w_ptEval {υ : zHp} {a b s0 s1 s2 x y z : Int} (h0 : m_X0_ownOfBoth [10, a, b] υ = some (s0, υ)) (h1 : m_X0_ownOf [10, a] υ = some (s1, υ)) (h2 : m_X0_ownOf [10, b] υ = some (s2, υ)) (t0 : m_X3_titheOfSet [1, s0] υ = some (x, υ)) (t1 : m_X3_titheOfSet [1, s1] υ = some (y, υ)) (t2 : m_X3_titheOfSet [1, s2] υ = some (z, υ)) (hy : 0 ≤ y ∧ y ≤ 300) (hz : 0 ≤ z ∧ z ≤ 300) : m_X8_isPact [0, a, b] υ = some (if 2 * y < x ∧ 2 * z < x then 1 else 0, υ) := by
  have e1 : o_imul 2 y = 2 * y := w32_id ⟨by omega, by omega⟩
  have e2 : o_imul 2 z = 2 * z := w32_id ⟨by omega, by omega⟩
  by_cases p : 2 * y < x
  · by_cases p2 : 2 * z < x <;> simp [e_X8_isPact, d_X8_isPact, xC_e, xL_e, xU_e, xB_e, xD_e, xF_e, xG_e, xA_e, xE_e, xH_e, xI_e, xZ_e, xK_e, aN_e, aC_e, cR_e, cV_e, cA_e, cO_e, cN_e, bs_e, bn_e, zg_0, zg_S, sS_e, sX_e, sF_e, sG_e, sA_e, sE_e, sEo_e, sK_e, sQ_e, sI_e, sR_e, sV_e, sB_e, sC_e, sD_e, sN_e, sP_e, sY_e, st_0, st_S, zc_0, zc_S, r_eq, r_ne, r_lt, r_le, r_gt, r_ge, rb_ite, rb_0, rb_1, h0, h1, h2, t0, t1, t2, e1, e2, p, p2]
  · simp [e_X8_isPact, d_X8_isPact, xC_e, xL_e, xU_e, xB_e, xD_e, xF_e, xG_e, xA_e, xE_e, xH_e, xI_e, xZ_e, xK_e, aN_e, aC_e, cR_e, cV_e, cA_e, cO_e, cN_e, bs_e, bn_e, zg_0, zg_S, sS_e, sX_e, sF_e, sG_e, sA_e, sE_e, sEo_e, sK_e, sQ_e, sI_e, sR_e, sV_e, sB_e, sC_e, sD_e, sN_e, sP_e, sY_e, st_0, st_S, zc_0, zc_S, r_eq, r_ne, r_lt, r_le, r_gt, r_ge, rb_ite, rb_0, rb_1, h0, h1, h2, t0, t1, t2, e1, e2, p]
theorem w_pt {σ : zHp} {n C : Nat} {F : Int} {W : Int → Int} {G : Int → Int → Int} (hC : zCp σ n C F W G) (hQ : zCq n C F G) (hW : zWt n W) (hh : ∀ i : Nat, i < C → 0 ≤ σ 2 i ∧ σ 2 i ≤ 9) {a b : Int} (ha : 0 ≤ a ∧ a < n) (hb : 0 ≤ b ∧ b < n) : m_X8_isPact [0, a, b] σ = some (if zPt F W G (fun i => σ 2 i) n C a b = true then 1 else 0, σ) := by
  have ev := w_ptEval (w_ob hC hQ hW ha hb) (w_ow hC hQ hW ha) (w_ow hC hQ hW hb) (w_ts (f := zBo F W G n a b) hC.2.1 hQ.2.1 hh) (w_ts (f := zOw F W G n a) hC.2.1 hQ.2.1 hh) (w_ts (f := zOw F W G n b) hC.2.1 hQ.2.1 hh) (zTi_b _ hh C (Nat.le_refl _) hQ.2.1) (zTi_b _ hh C (Nat.le_refl _) hQ.2.1)
  rw [ev]
  unfold zPt
  simp only [decide_eq_true_eq]
/-! the reference's pact -/
theorem zOw_w {n C : Nat} {K F ea : Int} {W : Int → Int} {P Q G : Int → Int → Int} (hP : zPc n C K F ea P Q G) (hW : zWt n W) {b : Int} (hb : 0 ≤ b ∧ b < n) {c : Nat} (hc : c < C) : zWh F (zLd W G c) n = b ↔ zOw F W G n b c = true := by
  rw [zWh_own hb]
  have w := hW b hb.1 hb.2
  have g := (hP.2.2.2.2.2 b c hb.1 hb.2 (by omega) (by omega)).2.2.1
  have o := zOwn_br (F := F) (W := W) (n := n) (b := b) (c := (c : Int)) w.1 g.1
  rw [zWs_id] at o
  rw [o]
  unfold zOw zLd
  simp only [decide_eq_true_eq]
theorem v_otBody {υ τ : zHp} {b s k x t : Int} (h1 : m_X9_whoseBy [37, k] υ = some (x, τ)) (h2 : m_X9_tithe [37, k] τ = some (t, τ)) (hs : 0 ≤ s ∧ s ≤ 300) (ht : 0 ≤ t ∧ t ≤ 10) : lf_X9_ownTithes_1 [37, b, s, k] υ = some (0, [37, b, s + (if x = b then t else 0), k], τ) := by
  have e : o_iadd s t = s + t := w32_id ⟨by omega, by omega⟩
  have e0 : o_iadd s 0 = s := by
    have : o_iadd s 0 = s + 0 := w32_id ⟨by omega, by omega⟩
    omega
  by_cases p : x = b <;> simp [lf_X9_ownTithes_1, xC_e, xL_e, xU_e, xB_e, xD_e, xF_e, xG_e, xA_e, xE_e, xH_e, xI_e, xZ_e, xK_e, aN_e, aC_e, cR_e, cV_e, cA_e, cO_e, cN_e, bs_e, bn_e, zg_0, zg_S, sS_e, sX_e, sF_e, sG_e, sA_e, sE_e, sEo_e, sK_e, sQ_e, sI_e, sR_e, sV_e, sB_e, sC_e, sD_e, sN_e, sP_e, sY_e, st_0, st_S, zc_0, zc_S, r_eq, r_ne, r_lt, r_le, r_gt, r_ge, rb_ite, rb_0, rb_1, h1, h2, p, e, e0]
theorem v_otEval {υ τ : zHp} {b s k : Int} (hl : sW lc_X9_ownTithes_1 lf_X9_ownTithes_1 ls_X9_ownTithes_1 [37, b, 0, 0] υ = some (0, [37, b, s, k], τ)) : m_X9_ownTithes [37, b] υ = some (s, τ) := by
  simp [e_X9_ownTithes, d_X9_ownTithes, xC_e, xL_e, xU_e, xB_e, xD_e, xF_e, xG_e, xA_e, xE_e, xH_e, xI_e, xZ_e, xK_e, aN_e, aC_e, cR_e, cV_e, cA_e, cO_e, cN_e, bs_e, bn_e, zg_0, zg_S, sS_e, sX_e, sF_e, sG_e, sA_e, sE_e, sEo_e, sK_e, sQ_e, sI_e, sR_e, sV_e, sB_e, sC_e, sD_e, sN_e, sP_e, sY_e, st_0, st_S, zc_0, zc_S, hl]
theorem v_ot {σ : zHp} {n C : Nat} {K F ea : Int} {W : Int → Int} {P Q G : Int → Int → Int} (hR : zRp σ n C ea W P Q) (hP : zPc n C K F ea P Q G) (hW : zWt n W) {h : Nat → Int} (h41 : ∀ i : Nat, i < C → σ 41 i = h i) (hh : ∀ i, i < C → 0 ≤ h i ∧ h i ≤ 9) {b : Int} (hb : 0 ≤ b ∧ b < n) : ∃ τ, m_X9_ownTithes [37, b] σ = some (zSm (zTi h (zOw F W G n b)) C, τ) ∧ z22 σ τ := by
  have c30 := hP.2.1
  obtain ⟨τ, l, z⟩ := zfor0 (c := lc_X9_ownTithes_1) (f := lf_X9_ownTithes_1) (i := 3) (lo := 0) (σ := σ) C (fun k => [37, b, zSm (zTi h (zOw F W G n b)) k, 0 + (k : Int)]) (fun k x => z22 σ x) (z22.rf σ) (fun k => rfl) (by decide) (by omega)
    (fun k x hk hx => zc_lt (i := 3) (x := 0 + (k : Int)) rfl (zx_all (zRp_z hR hx).2.1) (by omega))
    (fun k x hk hx => by
      have hk9 := hh k hk
      have body := v_otBody (b := b) (s := zSm (zTi h (zOw F W G n b)) k) (v_wb (zRp_z hR hx) hP hW (c := (k : Int)) (by omega)) (v_tiOf (k := (k : Int)) (x := h k) (by omega) (by rw [zput_o (by decide), hx 41 k (by omega), h41 k hk]) hk9) (zTi_b _ hh k (by omega) c30) (by omega)
      rw [z0k, z0k]
      refine ⟨_, _, _, body, Or.inl rfl, rfl, ?_, hx.put _⟩
      have e := zOw_w (b := b) hP hW hb hk
      show [37, b, _, _] = [37, b, zSm (zTi h (zOw F W G n b)) k + zTi h (zOw F W G n b) k, _]
      unfold zTi
      by_cases p : zWh F (zLd W G k) n = b
      · rw [if_pos p, if_pos (e.mp p)]
      · rw [if_neg p, if_neg (fun z => p (e.mpr z))])
  exact ⟨τ, v_otEval l, z⟩
theorem v_ptBody {υ : zHp} {a b s k t : Int} {x : Bool} (h1 : m_X9_isTheirs [37, a, b, k] υ = some (if x = true then 1 else 0, υ)) (h2 : m_X9_tithe [37, k] υ = some (t, υ)) (hs : 0 ≤ s ∧ s ≤ 300) (ht : 0 ≤ t ∧ t ≤ 10) : lf_X9_isPact_1 [37, a, b, s, k] υ = some (0, [37, a, b, s + (if x = true then t else 0), k], υ) := by
  have e : o_iadd s t = s + t := w32_id ⟨by omega, by omega⟩
  have e0 : o_iadd s 0 = s := by
    have : o_iadd s 0 = s + 0 := w32_id ⟨by omega, by omega⟩
    omega
  cases x <;> simp at h1 <;> simp [lf_X9_isPact_1, xC_e, xL_e, xU_e, xB_e, xD_e, xF_e, xG_e, xA_e, xE_e, xH_e, xI_e, xZ_e, xK_e, aN_e, aC_e, cR_e, cV_e, cA_e, cO_e, cN_e, bs_e, bn_e, zg_0, zg_S, sS_e, sX_e, sF_e, sG_e, sA_e, sE_e, sEo_e, sK_e, sQ_e, sI_e, sR_e, sV_e, sB_e, sC_e, sD_e, sN_e, sP_e, sY_e, st_0, st_S, zc_0, zc_S, r_eq, r_ne, r_lt, r_le, r_gt, r_ge, rb_ite, rb_0, rb_1, h1, h2, e, e0, rb_0, rb_1]
theorem v_ptEval {υ τ1 τ2 : zHp} {a b x y z k : Int} (hl : sW lc_X9_isPact_1 lf_X9_isPact_1 ls_X9_isPact_1 [37, a, b, 0, 0] υ = some (0, [37, a, b, x, k], υ)) (h1 : m_X9_ownTithes [37, a] υ = some (y, τ1)) (h2 : m_X9_ownTithes [37, b] τ1 = some (z, τ2)) (hy : 0 ≤ y ∧ y ≤ 300) (hz : 0 ≤ z ∧ z ≤ 300) : m_X9_isPact [37, a, b] υ = some (if 2 * y < x ∧ 2 * z < x then 1 else 0, if 2 * y < x then τ2 else τ1) := by
  have e1 : o_imul 2 y = 2 * y := w32_id ⟨by omega, by omega⟩
  have e2 : o_imul 2 z = 2 * z := w32_id ⟨by omega, by omega⟩
  by_cases p : 2 * y < x
  · by_cases p2 : 2 * z < x <;> simp [e_X9_isPact, d_X9_isPact, xC_e, xL_e, xU_e, xB_e, xD_e, xF_e, xG_e, xA_e, xE_e, xH_e, xI_e, xZ_e, xK_e, aN_e, aC_e, cR_e, cV_e, cA_e, cO_e, cN_e, bs_e, bn_e, zg_0, zg_S, sS_e, sX_e, sF_e, sG_e, sA_e, sE_e, sEo_e, sK_e, sQ_e, sI_e, sR_e, sV_e, sB_e, sC_e, sD_e, sN_e, sP_e, sY_e, st_0, st_S, zc_0, zc_S, r_eq, r_ne, r_lt, r_le, r_gt, r_ge, rb_ite, rb_0, rb_1, hl, h1, h2, e1, e2, p, p2]
  · simp [e_X9_isPact, d_X9_isPact, xC_e, xL_e, xU_e, xB_e, xD_e, xF_e, xG_e, xA_e, xE_e, xH_e, xI_e, xZ_e, xK_e, aN_e, aC_e, cR_e, cV_e, cA_e, cO_e, cN_e, bs_e, bn_e, zg_0, zg_S, sS_e, sX_e, sF_e, sG_e, sA_e, sE_e, sEo_e, sK_e, sQ_e, sI_e, sR_e, sV_e, sB_e, sC_e, sD_e, sN_e, sP_e, sY_e, st_0, st_S, zc_0, zc_S, r_eq, r_ne, r_lt, r_le, r_gt, r_ge, rb_ite, rb_0, rb_1, hl, h1, e1, p]
theorem v_pt {σ : zHp} {n C : Nat} {K F ea : Int} {W : Int → Int} {P Q G : Int → Int → Int} (hR : zRp σ n C ea W P Q) (hP : zPc n C K F ea P Q G) (hW : zWt n W) {h : Nat → Int} (h41 : ∀ i : Nat, i < C → σ 41 i = h i) (hh : ∀ i, i < C → 0 ≤ h i ∧ h i ≤ 9) {a b : Int} (ha : 0 ≤ a ∧ a < n) (hb : 0 ≤ b ∧ b < n) : ∃ τ, m_X9_isPact [37, a, b] σ = some (if zPt F W G h n C a b = true then 1 else 0, τ) ∧ z22 σ τ := by
  have c30 := hP.2.1
  have l := zforP (c := lc_X9_isPact_1) (f := lf_X9_isPact_1) (i := 4) (lo := 0) (σ := σ) C (fun k => [37, a, b, zSm (zTi h (zBo F W G n a b)) k, 0 + (k : Int)]) (fun k => rfl) (by decide) (by omega)
    (fun k hk => zc_lt (i := 4) (x := 0 + (k : Int)) rfl (zx_all hR.2.1) (by omega))
    (fun k hk => by
      have hk9 := hh k hk
      have body := v_ptBody (s := zSm (zTi h (zBo F W G n a b)) k) (v_th hR hP hW ha hb hk) (v_tiOf (k := (k : Int)) (x := h k) (by omega) (h41 k hk) hk9) (zTi_b _ hh k (by omega) c30) (by omega)
      rw [z0k, z0k]
      exact ⟨_, _, body, Or.inl rfl, rfl, rfl⟩)
  obtain ⟨τ1, x1, z1⟩ := v_ot hR hP hW h41 hh ha
  obtain ⟨τ2, x2, z2⟩ := v_ot (zRp_z hR z1) hP hW (fun i hi => by rw [z1 41 i (by omega), h41 i hi]) hh hb
  have ev := v_ptEval l x1 x2 (zTi_b _ hh C (Nat.le_refl _) c30) (zTi_b _ hh C (Nat.le_refl _) c30)
  refine ⟨_, by
    rw [ev]
    unfold zPt
    simp only [decide_eq_true_eq]
    rfl, ?_⟩
  split
  · exact fun x y hxy => by rw [z2 x y hxy, z1 x y hxy]
  · exact z1
/-! the walk over the pairs -/
def zPin (p : Nat → Bool) (q a : Int) (r0 : Int × Int) : Nat → Int × Int
  | 0 => r0
  | j + 1 => if (zPin p q a r0 j).1 ≠ 0 then zPin p q a r0 j else if p j = true then (if (zPin p q a r0 j).2 = q then (10 * a + (a + 1 + (j : Int)), (zPin p q a r0 j).2) else (0, (zPin p q a r0 j).2 + 1)) else zPin p q a r0 j
theorem zPin_S (p : Nat → Bool) (q a : Int) (r0 : Int × Int) (j : Nat) : zPin p q a r0 (j + 1) = if (zPin p q a r0 j).1 ≠ 0 then zPin p q a r0 j else if p j = true then (if (zPin p q a r0 j).2 = q then (10 * a + (a + 1 + (j : Int)), (zPin p q a r0 j).2) else (0, (zPin p q a r0 j).2 + 1)) else zPin p q a r0 j := rfl
theorem zPin_st {p : Nat → Bool} {q a : Int} {r0 : Int × Int} {j : Nat} (h : (zPin p q a r0 j).1 ≠ 0) : ∀ d, zPin p q a r0 (j + d) = zPin p q a r0 j
  | 0 => rfl
  | d + 1 => by
    show zPin p q a r0 (j + d + 1) = _
    rw [zPin_S, zPin_st h d, if_pos h]
def zPou (p : Nat → Nat → Bool) (q : Int) (n : Nat) : Nat → Int × Int
  | 0 => (0, 0)
  | a + 1 => if (zPou p q n a).1 ≠ 0 then zPou p q n a else zPin (p a) q a (zPou p q n a) (n - (a + 1))
theorem zPou_S (p : Nat → Nat → Bool) (q : Int) (n a : Nat) : zPou p q n (a + 1) = if (zPou p q n a).1 ≠ 0 then zPou p q n a else zPin (p a) q a (zPou p q n a) (n - (a + 1)) := rfl
theorem zPou_st {p : Nat → Nat → Bool} {q : Int} {n a : Nat} (h : (zPou p q n a).1 ≠ 0) : ∀ d, zPou p q n (a + d) = zPou p q n a
  | 0 => rfl
  | d + 1 => by
    show zPou p q n (a + d + 1) = _
    rw [zPou_S, zPou_st h d, if_pos h]
theorem zPin_b {p : Nat → Bool} {q a : Int} {r0 : Int × Int} {m : Nat} (h : 0 ≤ r0.2 ∧ r0.2 ≤ m) : ∀ j : Nat, 0 ≤ (zPin p q a r0 j).2 ∧ (zPin p q a r0 j).2 ≤ m + j
  | 0 => by show 0 ≤ r0.2 ∧ r0.2 ≤ _; omega
  | j + 1 => by
    have := zPin_b (p := p) (q := q) (a := a) h j
    rw [zPin_S]
    split
    · omega
    · split
      · split
        · show 0 ≤ (zPin p q a r0 j).2 ∧ (zPin p q a r0 j).2 ≤ _; omega
        · show 0 ≤ (zPin p q a r0 j).2 + 1 ∧ (zPin p q a r0 j).2 + 1 ≤ _; omega
      · omega
theorem zPou_b {p : Nat → Nat → Bool} {q : Int} {n : Nat} : ∀ a : Nat, 0 ≤ (zPou p q n a).2 ∧ (zPou p q n a).2 ≤ ((n * a : Nat) : Int)
  | 0 => by show (0 : Int) ≤ 0 ∧ (0 : Int) ≤ _; simp
  | a + 1 => by
    have ih := zPou_b (p := p) (q := q) (n := n) a
    rw [zPou_S]
    have e : n * (a + 1) = n * a + n := Nat.mul_succ n a
    split
    · omega
    · have := zPin_b (p := p a) (q := q) (a := (a : Int)) ih (n - (a + 1))
      omega
/-- an inner row: both sides -/
theorem zpact_in {f : zS} {g : Int} {o w q : Int} {a n : Nat} (hn : n ≤ 10) (ha : a < n) {p : Nat → Bool} {r0 : Int × Int} (hr0 : r0.1 = 0) (hr1 : 0 ≤ r0.2 ∧ r0.2 ≤ 100) (I : zHp → Prop) {σ : zHp} (hI : I σ) (hN : ∀ τ, I τ → τ g 14 = n ∨ True)
    {c : zC} (hc : ∀ (k : Nat) (fd : Int) (τ : zHp), k ≤ n - (a + 1) → I τ → c [o, w, q, fd, (a : Int), (a : Int) + 1 + (k : Int)] τ = some (decide (k < n - (a + 1)), τ))
    (hb : ∀ (k : Nat) (fd : Int) (τ : zHp), k < n - (a + 1) → I τ → 0 ≤ fd → fd ≤ 1000 → ∃ τ' t, I τ' ∧ (t = 0 ∨ t = 3) ∧ f [o, w, q, fd, (a : Int), (a : Int) + 1 + (k : Int)] τ = if p k = true then (if fd = q then some (1, [10 * (a : Int) + ((a : Int) + 1 + (k : Int))], τ') else some (0, [o, w, q, fd + 1, (a : Int), (a : Int) + 1 + (k : Int)], τ')) else some (t, [o, w, q, fd, (a : Int), (a : Int) + 1 + (k : Int)], τ')) :
    ∃ t e τ, sW c f (sS 5 (xB o_iadd (xL 5) (xC 1))) [o, w, q, r0.2, (a : Int), (a : Int) + 1] σ = some (t, e, τ) ∧ I τ ∧ ((t = 1 ∧ (zPin p q a r0 (n - (a + 1))).1 ≠ 0 ∧ e = [(zPin p q a r0 (n - (a + 1))).1]) ∨ (t = 0 ∧ (zPin p q a r0 (n - (a + 1))).1 = 0 ∧ e = [o, w, q, (zPin p q a r0 (n - (a + 1))).2, (a : Int), (a : Int) + 1 + ((n - (a + 1) : Nat) : Int)])) := by
  have hl := zfor (c := c) (f := f) (i := 5) (lo := (a : Int) + 1) (σ := σ) (n - (a + 1)) (fun k => [o, w, q, (zPin p q a r0 k).2, (a : Int), (a : Int) + 1 + (k : Int)]) (fun k τ => I τ ∧ (zPin p q a r0 k).1 = 0)
    (fun t e τ => I τ ∧ ((t = 1 ∧ (zPin p q a r0 (n - (a + 1))).1 ≠ 0 ∧ e = [(zPin p q a r0 (n - (a + 1))).1]) ∨ (t = 0 ∧ (zPin p q a r0 (n - (a + 1))).1 = 0 ∧ e = [o, w, q, (zPin p q a r0 (n - (a + 1))).2, (a : Int), (a : Int) + 1 + ((n - (a + 1) : Nat) : Int)])))
    ⟨hI, hr0⟩ (fun k => rfl) (by omega) (by omega)
    (fun k τ hk h => hc k _ τ hk h.1)
    (fun k τ hk h => by
      have fb := zPin_b (p := p) (q := q) (a := (a : Int)) (r0 := r0) (m := 100) hr1 k
      obtain ⟨τ', t, i1, t1, h1⟩ := hb k (zPin p q a r0 k).2 τ hk h.1 fb.1 (by omega)
      have e := zPin_S p q a r0 k
      rw [if_neg (by simpa using h.2)] at e
      rw [h1]
      by_cases p1 : p k = true
      · rw [if_pos p1] at e ⊢
        by_cases p2 : (zPin p q a r0 k).2 = q
        · rw [if_pos p2] at e ⊢
          have nz : (zPin p q a r0 (k + 1)).1 ≠ 0 := by
            rw [e]
            show 10 * (a : Int) + ((a : Int) + 1 + (k : Int)) ≠ 0
            omega
          have st := zPin_st nz (n - (a + 1) - (k + 1))
          rw [show k + 1 + (n - (a + 1) - (k + 1)) = n - (a + 1) by omega] at st
          refine Or.inl ⟨_, _, rfl, i1, Or.inl ⟨rfl, by rw [st]; exact nz, by rw [st, e]⟩⟩
        · rw [if_neg p2] at e ⊢
          exact Or.inr ⟨_, _, _, rfl, Or.inl rfl, rfl, by rw [e]; rfl, i1, by rw [e]⟩
      · rw [if_neg p1] at e ⊢
        exact Or.inr ⟨_, _, _, rfl, t1, rfl, by rw [e]; rfl, i1, by rw [e]; exact h.2⟩)
    (fun τ h => ⟨h.1, Or.inr ⟨rfl, h.2, rfl⟩⟩)
  obtain ⟨t, e, τ, h1, h2, h3⟩ := hl
  refine ⟨t, e, τ, ?_, h2, h3⟩
  have e0 : (a : Int) + 1 + ((0 : Nat) : Int) = (a : Int) + 1 := by omega
  have h4 : sW c f (sS 5 (xB o_iadd (xL 5) (xC 1))) [o, w, q, r0.2, (a : Int), (a : Int) + 1 + ((0 : Nat) : Int)] σ = some (t, e, τ) := h1
  rw [e0] at h4
  exact h4
/-- all rows: both sides -/
theorem zpact_out {f : zS} {o w q : Int} {n : Nat} (hn : n ≤ 10) {p : Nat → Nat → Bool} (I : zHp → Prop) {σ : zHp} (hI : I σ) {c c2 : zC}
    (hc2 : ∀ (a : Nat) (fd : Int) (τ : zHp), a ≤ n → I τ → c2 [o, w, q, fd, 0 + (a : Int), 0] τ = some (decide (a < n), τ))
    (hc : ∀ (a k : Nat) (fd : Int) (τ : zHp), a < n → k ≤ n - (a + 1) → I τ → c [o, w, q, fd, (a : Int), (a : Int) + 1 + (k : Int)] τ = some (decide (k < n - (a + 1)), τ))
    (hb : ∀ (a k : Nat) (fd : Int) (τ : zHp), a < n → k < n - (a + 1) → I τ → 0 ≤ fd → fd ≤ 1000 → ∃ τ' t, I τ' ∧ (t = 0 ∨ t = 3) ∧ f [o, w, q, fd, (a : Int), (a : Int) + 1 + (k : Int)] τ = if p a k = true then (if fd = q then some (1, [10 * (a : Int) + ((a : Int) + 1 + (k : Int))], τ') else some (0, [o, w, q, fd + 1, (a : Int), (a : Int) + 1 + (k : Int)], τ')) else some (t, [o, w, q, fd, (a : Int), (a : Int) + 1 + (k : Int)], τ')) :
    ∃ t e τ, sW c2 (sD [5] (sQ (sS 5 (xB o_iadd (xL 4) (xC 1))) (sW c f (sS 5 (xB o_iadd (xL 5) (xC 1)))))) (sS 4 (xB o_iadd (xL 4) (xC 1))) [o, w, q, 0, 0, 0] σ = some (t, e, τ) ∧ I τ ∧ ((t = 1 ∧ (zPou p q n n).1 ≠ 0 ∧ e = [(zPou p q n n).1]) ∨ (t = 0 ∧ (zPou p q n n).1 = 0 ∧ e = [o, w, q, (zPou p q n n).2, 0 + (n : Int), 0])) := by
  refine zfor (c := c2) (f := (sD [5] (sQ (sS 5 (xB o_iadd (xL 4) (xC 1))) (sW c f (sS 5 (xB o_iadd (xL 5) (xC 1))))))) (i := 4) (lo := 0) (σ := σ) n (fun k => [o, w, q, (zPou p q n k).2, 0 + (k : Int), 0]) (fun k τ => I τ ∧ (zPou p q n k).1 = 0)
    (fun t e τ => I τ ∧ ((t = 1 ∧ (zPou p q n n).1 ≠ 0 ∧ e = [(zPou p q n n).1]) ∨ (t = 0 ∧ (zPou p q n n).1 = 0 ∧ e = [o, w, q, (zPou p q n n).2, 0 + (n : Int), 0])))
    ⟨hI, rfl⟩ (fun k => rfl) (by decide) (by omega) (fun k τ hk h => hc2 k _ τ hk h.1) ?_ (fun τ h => ⟨h.1, Or.inr ⟨rfl, h.2, rfl⟩⟩)
  intro a τ ha h
  have ob := zPou_b (p := p) (q := q) (n := n) a
  have nb : n * a ≤ 10 * 10 := Nat.mul_le_mul hn (by omega)
  obtain ⟨t, e, τ2, h1, h2, h3⟩ := zpact_in (g := 0) (o := o) (w := w) (q := q) hn ha (p := p a) (r0 := zPou p q n a) h.2 (by omega) I h.1 (fun _ _ => Or.inr trivial) (fun k fd τ hk hi => hc a k fd τ ha hk hi) (fun k fd τ hk hi => hb a k fd τ ha hk hi)
  have S := zPou_S p q n a
  rw [if_neg (by simpa using h.2)] at S
  have inc : o_iadd (a : Int) 1 = (a : Int) + 1 := w32_id ⟨by omega, by omega⟩
  rcases h3 with ⟨rfl, q1, rfl⟩ | ⟨rfl, q1, rfl⟩
  · have nz : (zPou p q n (a + 1)).1 ≠ 0 := by rw [S]; exact q1
    have st := zPou_st nz (n - (a + 1))
    rw [show a + 1 + (n - (a + 1)) = n by omega] at st
    refine Or.inl ⟨_, τ2, ?_, h2, Or.inl ⟨rfl, by rw [st]; exact nz, by rw [st, S]⟩⟩
    rw [z0k]
    simp only [xC_e, xL_e, xU_e, xB_e, xD_e, xF_e, xG_e, xA_e, xE_e, xH_e, xI_e, xZ_e, xK_e, aN_e, aC_e, cR_e, cV_e, cA_e, cO_e, cN_e, bs_e, bn_e, zg_0, zg_S, sS_e, sX_e, sF_e, sG_e, sA_e, sE_e, sEo_e, sK_e, sQ_e, sI_e, sR_e, sV_e, sB_e, sC_e, sD_e, sN_e, sP_e, sY_e, st_0, st_S, zc_0, zc_S, inc, h1]
    rfl
  · refine Or.inr ⟨0, [o, w, q, (zPou p q n (a + 1)).2, (a : Int), 0], τ2, ?_, Or.inl rfl, by rw [z0k]; rfl, rfl, h2, by rw [S]; exact q1⟩
    rw [z0k, S]
    simp only [xC_e, xL_e, xU_e, xB_e, xD_e, xF_e, xG_e, xA_e, xE_e, xH_e, xI_e, xZ_e, xK_e, aN_e, aC_e, cR_e, cV_e, cA_e, cO_e, cN_e, bs_e, bn_e, zg_0, zg_S, sS_e, sX_e, sF_e, sG_e, sA_e, sE_e, sEo_e, sK_e, sQ_e, sI_e, sR_e, sV_e, sB_e, sC_e, sD_e, sN_e, sP_e, sY_e, st_0, st_S, zc_0, zc_S, inc, h1]
    rfl
theorem w_pbBody {υ : zHp} {w q fd a b : Int} {x : Bool} (h : m_X8_isPact [0, a, b] υ = some (if x = true then 1 else 0, υ)) (h1 : o_iadd fd 1 = fd + 1) (h2 : o_iadd (o_imul 10 a) b = 10 * a + b) : lf_X8_pacts_1 [0, w, q, fd, a, b] υ = if x = true then (if fd = q then some (1, [10 * a + b], υ) else some (0, [0, w, q, fd + 1, a, b], υ)) else some (3, [0, w, q, fd, a, b], υ) := by
  cases x
  · simp at h
    simp [lf_X8_pacts_1, xC_e, xL_e, xU_e, xB_e, xD_e, xF_e, xG_e, xA_e, xE_e, xH_e, xI_e, xZ_e, xK_e, aN_e, aC_e, cR_e, cV_e, cA_e, cO_e, cN_e, bs_e, bn_e, zg_0, zg_S, sS_e, sX_e, sF_e, sG_e, sA_e, sE_e, sEo_e, sK_e, sQ_e, sI_e, sR_e, sV_e, sB_e, sC_e, sD_e, sN_e, sP_e, sY_e, st_0, st_S, zc_0, zc_S, r_eq, r_ne, r_lt, r_le, r_gt, r_ge, rb_ite, rb_0, rb_1, h, rb_0]
  · simp at h
    by_cases p : fd = q <;> simp [lf_X8_pacts_1, xC_e, xL_e, xU_e, xB_e, xD_e, xF_e, xG_e, xA_e, xE_e, xH_e, xI_e, xZ_e, xK_e, aN_e, aC_e, cR_e, cV_e, cA_e, cO_e, cN_e, bs_e, bn_e, zg_0, zg_S, sS_e, sX_e, sF_e, sG_e, sA_e, sE_e, sEo_e, sK_e, sQ_e, sI_e, sR_e, sV_e, sB_e, sC_e, sD_e, sN_e, sP_e, sY_e, st_0, st_S, zc_0, zc_S, r_eq, r_ne, r_lt, r_le, r_gt, r_ge, rb_ite, rb_0, rb_1, h, rb_1, p, h1, h2]
theorem v_pbBody {υ τ : zHp} {w q fd a b : Int} {x : Bool} (h : m_X9_isPact [37, a, b] υ = some (if x = true then 1 else 0, τ)) (h1 : o_iadd fd 1 = fd + 1) (h2 : o_iadd (o_imul 10 a) b = 10 * a + b) : lf_X9_pacts_1 [37, w, q, fd, a, b] υ = if x = true then (if fd = q then some (1, [10 * a + b], τ) else some (0, [37, w, q, fd + 1, a, b], τ)) else some (0, [37, w, q, fd, a, b], τ) := by
  cases x
  · simp at h
    simp [lf_X9_pacts_1, xC_e, xL_e, xU_e, xB_e, xD_e, xF_e, xG_e, xA_e, xE_e, xH_e, xI_e, xZ_e, xK_e, aN_e, aC_e, cR_e, cV_e, cA_e, cO_e, cN_e, bs_e, bn_e, zg_0, zg_S, sS_e, sX_e, sF_e, sG_e, sA_e, sE_e, sEo_e, sK_e, sQ_e, sI_e, sR_e, sV_e, sB_e, sC_e, sD_e, sN_e, sP_e, sY_e, st_0, st_S, zc_0, zc_S, r_eq, r_ne, r_lt, r_le, r_gt, r_ge, rb_ite, rb_0, rb_1, h, rb_0]
  · simp at h
    by_cases p : fd = q <;> simp [lf_X9_pacts_1, xC_e, xL_e, xU_e, xB_e, xD_e, xF_e, xG_e, xA_e, xE_e, xH_e, xI_e, xZ_e, xK_e, aN_e, aC_e, cR_e, cV_e, cA_e, cO_e, cN_e, bs_e, bn_e, zg_0, zg_S, sS_e, sX_e, sF_e, sG_e, sA_e, sE_e, sEo_e, sK_e, sQ_e, sI_e, sR_e, sV_e, sB_e, sC_e, sD_e, sN_e, sP_e, sY_e, st_0, st_S, zc_0, zc_S, r_eq, r_ne, r_lt, r_le, r_gt, r_ge, rb_ite, rb_0, rb_1, h, rb_1, p, h1, h2]
theorem zp15 : zp_15 zInv := by
  intro w q hwr hqr σ hI
  have nN := zN_eq hI.2.2.1
  have hN := zI3 hI
  obtain ⟨nb1, nb2⟩ := zNb_e hI
  obtain ⟨nc1, nc2⟩ := zNc_e hI
  have ha : zOkA [0, 0] [w, q] := ⟨hwr, hqr, trivial⟩
  by_cases g2 : 0 ≤ w ∧ w ≤ 39
  case neg =>
    refine zq k_X8_pacts k_X9_pacts hI ha (r := -2) (σ1 := σ) (σ2 := σ) ?_ ?_ (zSame.rf σ) (zSame.rf σ)
    · simp [e_X8_pacts, d_X8_pacts, xC_e, xL_e, xU_e, xB_e, xD_e, xF_e, xG_e, xA_e, xE_e, xH_e, xI_e, xZ_e, xK_e, aN_e, aC_e, cR_e, cV_e, cA_e, cO_e, cN_e, bs_e, bn_e, zg_0, zg_S, sS_e, sX_e, sF_e, sG_e, sA_e, sE_e, sEo_e, sK_e, sQ_e, sI_e, sR_e, sV_e, sB_e, sC_e, sD_e, sN_e, sP_e, sY_e, st_0, st_S, zc_0, zc_S, r_eq, r_ne, r_lt, r_le, r_gt, r_ge, rb_ite, rb_0, rb_1, w_isWind_f g2]
    · simp [e_X9_pacts, d_X9_pacts, xC_e, xL_e, xU_e, xB_e, xD_e, xF_e, xG_e, xA_e, xE_e, xH_e, xI_e, xZ_e, xK_e, aN_e, aC_e, cR_e, cV_e, cA_e, cO_e, cN_e, bs_e, bn_e, zg_0, zg_S, sS_e, sX_e, sF_e, sG_e, sA_e, sE_e, sEo_e, sK_e, sQ_e, sI_e, sR_e, sV_e, sB_e, sC_e, sD_e, sN_e, sP_e, sY_e, st_0, st_S, zc_0, zc_S, r_eq, r_ne, r_lt, r_le, r_gt, r_ge, rb_ite, rb_0, rb_1, v_isWind_f g2]
  by_cases g3 : q < -1
  case pos =>
    refine zq k_X8_pacts k_X9_pacts hI ha (r := -1) (σ1 := σ) (σ2 := σ) ?_ ?_ (zSame.rf σ) (zSame.rf σ)
    · simp [e_X8_pacts, d_X8_pacts, xC_e, xL_e, xU_e, xB_e, xD_e, xF_e, xG_e, xA_e, xE_e, xH_e, xI_e, xZ_e, xK_e, aN_e, aC_e, cR_e, cV_e, cA_e, cO_e, cN_e, bs_e, bn_e, zg_0, zg_S, sS_e, sX_e, sF_e, sG_e, sA_e, sE_e, sEo_e, sK_e, sQ_e, sI_e, sR_e, sV_e, sB_e, sC_e, sD_e, sN_e, sP_e, sY_e, st_0, st_S, zc_0, zc_S, r_eq, r_ne, r_lt, r_le, r_gt, r_ge, rb_ite, rb_0, rb_1, w_isWind_t g2, g3]
    · simp [e_X9_pacts, d_X9_pacts, xC_e, xL_e, xU_e, xB_e, xD_e, xF_e, xG_e, xA_e, xE_e, xH_e, xI_e, xZ_e, xK_e, aN_e, aC_e, cR_e, cV_e, cA_e, cO_e, cN_e, bs_e, bn_e, zg_0, zg_S, sS_e, sX_e, sF_e, sG_e, sA_e, sE_e, sEo_e, sK_e, sQ_e, sI_e, sR_e, sV_e, sB_e, sC_e, sD_e, sN_e, sP_e, sY_e, st_0, st_S, zc_0, zc_S, r_eq, r_ne, r_lt, r_le, r_gt, r_ge, rb_ite, rb_0, rb_1, v_isWind_t g2, g3]
  obtain ⟨τ, t1, t2, t3⟩ := zBlow hI g2
  obtain ⟨υ, u1, u2, u3⟩ := zLay hI t2 g2
  have hW := zWt_I hI
  have hQ := zCq_I hI g2
  have hP := zPc_I hI g2
  have hh : ∀ i : Nat, i < zNc σ → (0 ≤ σ 2 i ∧ σ 2 i ≤ 9) ∧ σ 41 i = σ 2 i := fun i hi => by
    have := hI.2.2.2.1 (i : Int) (by omega) (by omega)
    exact ⟨⟨this.1, this.2.1⟩, this.2.2.1⟩
  have t2h : ∀ i : Int, τ 2 i = σ 2 i := fun i => t2 2 i rfl
  have u41 : ∀ i : Int, υ 41 i = σ 41 i := fun i => by rw [u2 41 i rfl, t2 41 i rfl]
  have inc : ∀ fd : Int, 0 ≤ fd → fd ≤ 1000 → o_iadd fd 1 = fd + 1 := fun fd h0 h1 => w32_id ⟨by omega, by omega⟩
  have ten : ∀ a k : Nat, a < zNb σ → k < zNb σ - (a + 1) → o_iadd (o_imul 10 (a : Int)) ((a : Int) + 1 + (k : Int)) = 10 * (a : Int) + ((a : Int) + 1 + (k : Int)) := fun a k h0 h1 => by
    have : o_imul 10 (a : Int) = 10 * (a : Int) := w32_id ⟨by omega, by omega⟩
    rw [this]
    exact w32_id ⟨by omega, by omega⟩
  generalize hp : (fun a k : Nat => zPt (zFF σ w) (σ 9) (zGG σ w) (fun i => σ 2 i) (zNb σ) (zNc σ) (a : Int) ((a : Int) + 1 + (k : Int))) = p
  have hpe : ∀ a k : Nat, zPt (zFF σ w) (σ 9) (zGG σ w) (fun i => σ 2 i) (zNb σ) (zNc σ) (a : Int) ((a : Int) + 1 + (k : Int)) = p a k := fun a k => congrFun (congrFun hp a) k
  obtain ⟨x1, e1, τ1, l1, i1, r1⟩ := zpact_out (o := 0) (w := w) (q := q) (n := zNb σ) (c2 := lc_X8_pacts_2) (c := lc_X8_pacts_1) (f := lf_X8_pacts_1) (p := p) (by omega) (fun x => x = τ) (σ := τ) rfl
    (fun a fd x ha h => zc_lt (i := 4) (x := 0 + (a : Int)) rfl (zx_G (N := (zNb σ : Nat)) (by rw [h]; exact t3.1)) (by omega))
    (fun a k fd x ha hk h => zc_lt (i := 5) (x := (a : Int) + 1 + (k : Int)) rfl (zx_G (N := (zNb σ : Nat)) (by rw [h]; exact t3.1)) (by omega))
    (fun a k fd x ha hk h f0 f1 => by
      subst h
      have pt := w_pt t3 hQ hW (fun i hi => by rw [t2h]; exact (hh i hi).1) (a := (a : Int)) (b := (a : Int) + 1 + (k : Int)) (by omega) (by omega)
      rw [show (fun i : Nat => x 2 i) = (fun i : Nat => σ 2 i) from funext (fun i => t2h i), hpe] at pt
      exact ⟨x, 3, rfl, Or.inr rfl, w_pbBody pt (inc fd f0 f1) (ten a k ha hk)⟩)
  have l1b : sW lc_X8_pacts_2 lf_X8_pacts_2 ls_X8_pacts_2 [0, w, q, 0, 0, 0] τ = some (x1, e1, τ1) := l1
  obtain ⟨x2, e2, υ2, l2, i2, r2⟩ := zpact_out (o := 37) (w := w) (q := q) (n := zNb σ) (c2 := lc_X9_pacts_2) (c := lc_X9_pacts_1) (f := lf_X9_pacts_1) (p := p) (by omega) (fun x => z22 υ x) (σ := υ) (z22.rf υ)
    (fun a fd x ha h => zc_lt (i := 4) (x := 0 + (a : Int)) rfl (zx_G (N := (zNb σ : Nat)) (zRp_z u3 h).1) (by omega))
    (fun a k fd x ha hk h => zc_lt (i := 5) (x := (a : Int) + 1 + (k : Int)) rfl (zx_G (N := (zNb σ : Nat)) (zRp_z u3 h).1) (by omega))
    (fun a k fd x ha hk h f0 f1 => by
      obtain ⟨x', pt, z⟩ := v_pt (zRp_z u3 h) hP hW (h := fun i => σ 2 i) (fun i hi => by rw [h 41 i (by omega), u41]; exact (hh i hi).2) (fun i hi => (hh i hi).1) (a := (a : Int)) (b := (a : Int) + 1 + (k : Int)) (by omega) (by omega)
      rw [hpe] at pt
      exact ⟨x', 0, fun y1 y2 hy => by rw [z y1 y2 hy, h y1 y2 hy], Or.inl rfl, v_pbBody pt (inc fd f0 f1) (ten a k ha hk)⟩)
  have l2b : sW lc_X9_pacts_2 lf_X9_pacts_2 ls_X9_pacts_2 [37, w, q, 0, 0, 0] υ = some (x2, e2, υ2) := l2
  subst i1
  generalize zPou p q (zNb σ) (zNb σ) = r at *
  refine zq k_X8_pacts k_X9_pacts hI ha (r := if r.1 ≠ 0 then r.1 else if q = -1 then r.2 else -9) (σ1 := τ1) (σ2 := υ2) ?_ ?_ t2 (u2.tr i2.same)
  · rcases r1 with ⟨rfl, s1, rfl⟩ | ⟨rfl, s1, rfl⟩
    · simp [e_X8_pacts, d_X8_pacts, xC_e, xL_e, xU_e, xB_e, xD_e, xF_e, xG_e, xA_e, xE_e, xH_e, xI_e, xZ_e, xK_e, aN_e, aC_e, cR_e, cV_e, cA_e, cO_e, cN_e, bs_e, bn_e, zg_0, zg_S, sS_e, sX_e, sF_e, sG_e, sA_e, sE_e, sEo_e, sK_e, sQ_e, sI_e, sR_e, sV_e, sB_e, sC_e, sD_e, sN_e, sP_e, sY_e, st_0, st_S, zc_0, zc_S, r_eq, r_ne, r_lt, r_le, r_gt, r_ge, rb_ite, rb_0, rb_1, w_isWind_t g2, g3, t1, l1b, s1]
    · by_cases z : q = -1
      · subst z
        simp [e_X8_pacts, d_X8_pacts, xC_e, xL_e, xU_e, xB_e, xD_e, xF_e, xG_e, xA_e, xE_e, xH_e, xI_e, xZ_e, xK_e, aN_e, aC_e, cR_e, cV_e, cA_e, cO_e, cN_e, bs_e, bn_e, zg_0, zg_S, sS_e, sX_e, sF_e, sG_e, sA_e, sE_e, sEo_e, sK_e, sQ_e, sI_e, sR_e, sV_e, sB_e, sC_e, sD_e, sN_e, sP_e, sY_e, st_0, st_S, zc_0, zc_S, r_eq, r_ne, r_lt, r_le, r_gt, r_ge, rb_ite, rb_0, rb_1, w_isWind_t g2, t1, l1b, s1]
      · simp [e_X8_pacts, d_X8_pacts, xC_e, xL_e, xU_e, xB_e, xD_e, xF_e, xG_e, xA_e, xE_e, xH_e, xI_e, xZ_e, xK_e, aN_e, aC_e, cR_e, cV_e, cA_e, cO_e, cN_e, bs_e, bn_e, zg_0, zg_S, sS_e, sX_e, sF_e, sG_e, sA_e, sE_e, sEo_e, sK_e, sQ_e, sI_e, sR_e, sV_e, sB_e, sC_e, sD_e, sN_e, sP_e, sY_e, st_0, st_S, zc_0, zc_S, r_eq, r_ne, r_lt, r_le, r_gt, r_ge, rb_ite, rb_0, rb_1, w_isWind_t g2, g3, t1, l1b, s1, z]
  · rcases r2 with ⟨rfl, s1, rfl⟩ | ⟨rfl, s1, rfl⟩
    · simp [e_X9_pacts, d_X9_pacts, xC_e, xL_e, xU_e, xB_e, xD_e, xF_e, xG_e, xA_e, xE_e, xH_e, xI_e, xZ_e, xK_e, aN_e, aC_e, cR_e, cV_e, cA_e, cO_e, cN_e, bs_e, bn_e, zg_0, zg_S, sS_e, sX_e, sF_e, sG_e, sA_e, sE_e, sEo_e, sK_e, sQ_e, sI_e, sR_e, sV_e, sB_e, sC_e, sD_e, sN_e, sP_e, sY_e, st_0, st_S, zc_0, zc_S, r_eq, r_ne, r_lt, r_le, r_gt, r_ge, rb_ite, rb_0, rb_1, v_isWind_t g2, g3, u1, l2b, s1]
    · by_cases z : q = -1
      · subst z
        simp [e_X9_pacts, d_X9_pacts, xC_e, xL_e, xU_e, xB_e, xD_e, xF_e, xG_e, xA_e, xE_e, xH_e, xI_e, xZ_e, xK_e, aN_e, aC_e, cR_e, cV_e, cA_e, cO_e, cN_e, bs_e, bn_e, zg_0, zg_S, sS_e, sX_e, sF_e, sG_e, sA_e, sE_e, sEo_e, sK_e, sQ_e, sI_e, sR_e, sV_e, sB_e, sC_e, sD_e, sN_e, sP_e, sY_e, st_0, st_S, zc_0, zc_S, r_eq, r_ne, r_lt, r_le, r_gt, r_ge, rb_ite, rb_0, rb_1, v_isWind_t g2, u1, l2b, s1]
      · simp [e_X9_pacts, d_X9_pacts, xC_e, xL_e, xU_e, xB_e, xD_e, xF_e, xG_e, xA_e, xE_e, xH_e, xI_e, xZ_e, xK_e, aN_e, aC_e, cR_e, cV_e, cA_e, cO_e, cN_e, bs_e, bn_e, zg_0, zg_S, sS_e, sX_e, sF_e, sG_e, sA_e, sE_e, sEo_e, sK_e, sQ_e, sI_e, sR_e, sV_e, sB_e, sC_e, sD_e, sN_e, sP_e, sY_e, st_0, st_S, zc_0, zc_S, r_eq, r_ne, r_lt, r_le, r_gt, r_ge, rb_ite, rb_0, rb_1, v_isWind_t g2, g3, u1, l2b, s1, z]
