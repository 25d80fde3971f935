/-! rounds -/
def zRk (F : Int) (G : Int → Int → Int) (n C : Nat) (V : Int → Int) : Nat → (Int → Int)
  | 0 => V
  | k + 1 => zWs (zRk F G n C V k) k (zTb F (zRk F G n C V k) G n C k)
def zRnd (F : Int) (G : Int → Int → Int) (n C : Nat) (V : Int → Int) : Nat → (Int → Int)
  | 0 => V
  | r + 1 => zRk F G n C (zRnd F G n C V r) n
theorem zRk_W {F : Int} {G : Int → Int → Int} {n C : Nat} {V : Int → Int} (h : zWt n V) : ∀ k : Nat, k ≤ n → zWt n (zRk F G n C V k)
  | 0, _ => h
  | k + 1, hk => zWs_W (zRk_W h k (by omega)) (zTb_i (zRk_W h k (by omega) k (by omega) (by omega)))
theorem zRnd_W {F : Int} {G : Int → Int → Int} {n C : Nat} {V : Int → Int} (h : zWt n V) : ∀ r : Nat, zWt n (zRnd F G n C V r)
  | 0 => h
  | r + 1 => zRk_W (zRnd_W h r) n (Nat.le_refl _)
/-- scratch of the foundry alone -/
def zFo (σ τ : zHp) : Prop := ∀ a b : Int, a ≠ 13 → a ≠ 26 → a ≠ 27 → ¬ (a = 25 ∧ (b = 4 ∨ b = 5)) → τ a b = σ a b
theorem zFo.tr {σ τ υ : zHp} (h : zFo σ τ) (h2 : zFo τ υ) : zFo σ υ := fun a b q1 q2 q3 q4 => by rw [h2 a b q1 q2 q3 q4, h a b q1 q2 q3 q4]
theorem zFo.cp {τ υ : zHp} {n C : Nat} {F : Int} {W : Int → Int} {G : Int → Int → Int} (h : zCp τ n C F W G) (z : zFo τ υ) : zCp υ n C F W G :=
  zCp_k h (z 6 0 (by omega) (by omega) (by omega) (by omega)) (z 1 2 (by omega) (by omega) (by omega) (by omega)) (z 10 5 (by omega) (by omega) (by omega) (by omega)) (fun k => z 9 k (by omega) (by omega) (by omega) (by omega)) (fun k => z 12 k (by omega) (by omega) (by omega) (by omega))
theorem zFo.same {σ τ : zHp} (h : zFo σ τ) : zSame σ τ := fun a b hab => h a b (by rintro rfl; simp [zfree] at hab) (by rintro rfl; simp [zfree] at hab) (by rintro rfl; simp [zfree] at hab) (by rintro ⟨rfl, rfl | rfl⟩ <;> simp [zfree] at hab)
theorem w_grBody {υ τ : zHp} {b v : Int} (b6 : 0 ≤ b ∧ b < 6) (h1 : m_X0_setBars [10, 26, b] υ = some (0, τ)) (h2 : m_X2_bestWeight [25, b] τ = some (v, τ)) : lf_X2_goRound_1 [25, b] υ = some (0, [25, b], zput τ 26 b v) := by
  simp [lf_X2_goRound_1, xC_e, xL_e, xU_e, xB_e, xD_e, xF_e, xG_e, xA_e, xE_e, xH_e, xI_e, xZ_e, xK_e, aN_e, aC_e, cR_e, cV_e, cA_e, cO_e, cN_e, bs_e, bn_e, zg_0, zg_S, sS_e, sX_e, sF_e, sG_e, sA_e, sE_e, sEo_e, sK_e, sQ_e, sI_e, sR_e, sV_e, sB_e, sC_e, sD_e, sN_e, sP_e, sY_e, st_0, st_S, zc_0, zc_S, b6, h1, h2]
theorem w_grEval {υ τ : zHp} {k : Int} (hl : sW lc_X2_goRound_1 lf_X2_goRound_1 ls_X2_goRound_1 [25, 0] υ = some (0, [25, k], τ)) : m_X2_goRound [25] υ = some (0, τ) := by
  simp [e_X2_goRound, d_X2_goRound, xC_e, xL_e, xU_e, xB_e, xD_e, xF_e, xG_e, xA_e, xE_e, xH_e, xI_e, xZ_e, xK_e, aN_e, aC_e, cR_e, cV_e, cA_e, cO_e, cN_e, bs_e, bn_e, zg_0, zg_S, sS_e, sX_e, sF_e, sG_e, sA_e, sE_e, sEo_e, sK_e, sQ_e, sI_e, sR_e, sV_e, sB_e, sC_e, sD_e, sN_e, sP_e, sY_e, st_0, st_S, zc_0, zc_S, hl]
theorem w_gr {σ : zHp} {n C : Nat} {F : Int} {W V : Int → Int} {G : Int → Int → Int} (hC : zCp σ n C F W G) (hQ : zCq n C F G) (hV : ∀ b : Int, 0 ≤ b → b < n → σ 26 b = V b) (hW : zWt n V) : ∃ τ, m_X2_goRound [25] σ = some (0, τ) ∧ (∀ a b : Int, a ≠ 13 → a ≠ 26 → τ a b = σ a b) ∧ ∀ b : Int, 0 ≤ b → b < n → τ 26 b = zRk F G n C V n b := by
  have n6 := hQ.1
  obtain ⟨τ, l, z1, z2⟩ := zfor0 (c := lc_X2_goRound_1) (f := lf_X2_goRound_1) (i := 1) (lo := 0) (σ := σ) n (fun k => [25, 0 + (k : Int)]) (fun k x => (∀ a b : Int, a ≠ 13 → a ≠ 26 → x a b = σ a b) ∧ ∀ b : Int, 0 ≤ b → b < n → x 26 b = zRk F G n C V k b) ⟨fun _ _ _ _ => rfl, hV⟩ (fun k => rfl) (by decide) (by omega)
    (fun k x hk hx => zc_lt (i := 1) (x := 0 + (k : Int)) rfl (zx_G (N := n) (by rw [hx.1 6 0 (by omega) (by omega)]; exact hC.1)) (by omega))
    (fun k x hk hx => by
      have hCx := zCp_k (υ := x) hC (hx.1 6 0 (by omega) (by omega)) (hx.1 1 2 (by omega) (by omega)) (hx.1 10 5 (by omega) (by omega)) (fun k => hx.1 9 k (by omega) (by omega)) (fun k => hx.1 12 k (by omega) (by omega))
      have hWk := zRk_W (F := F) (G := G) (C := C) hW k (by omega)
      obtain ⟨y, y1, y2, y3⟩ := w_sb hCx hQ (o := 26) (by decide) hx.2 hWk (k : Int)
      have hCy := zCp_k (υ := y) hCx (y2 6 0 (by omega)) (y2 1 2 (by omega)) (y2 10 5 (by omega)) (fun k => y2 9 k (by omega)) (fun k => y2 12 k (by omega))
      have bw := w_bw hCy hQ y3 (b := (k : Int)) (by omega) (by rw [y2 26 k (by omega)]; exact hx.2 k (by omega) (by omega)) (hWk k (by omega) (by omega))
      have body := w_grBody (by omega) y1 bw
      rw [z0k, z0k]
      refine ⟨_, _, _, body, Or.inl rfl, rfl, rfl, fun a b q1 q2 => by rw [zput_o q2, y2 a b q1]; exact hx.1 a b q1 q2, fun b b0 b1 => ?_⟩
      show _ = zWs (zRk F G n C V k) k _ b
      by_cases z : b = (k : Int)
      · rw [z, zput_self, zWs_b]
      · rw [zput_i z, zWs_n z, y2 26 b (by omega)]
        exact hx.2 b b0 b1)
  exact ⟨τ, w_grEval l, z1, z2⟩
theorem w_beg {σ : zHp} : m_X2_begin [25] σ = some (0, zcopy σ 9 0 26 0 6) := by
  simp [e_X2_begin, d_X2_begin, xC_e, xL_e, xU_e, xB_e, xD_e, xF_e, xG_e, xA_e, xE_e, xH_e, xI_e, xZ_e, xK_e, aN_e, aC_e, cR_e, cV_e, cA_e, cO_e, cN_e, bs_e, bn_e, zg_0, zg_S, sS_e, sX_e, sF_e, sG_e, sA_e, sE_e, sEo_e, sK_e, sQ_e, sI_e, sR_e, sV_e, sB_e, sC_e, sD_e, sN_e, sP_e, sY_e, st_0, st_S, zc_0, zc_S]
theorem zcopy_o {σ : zHp} {x i y j n a b : Int} (h : a ≠ y) : zcopy σ x i y j n a b = σ a b := by
  unfold zcopy
  rw [if_neg (fun z => h z.1)]
theorem zcopy_y {σ : zHp} {b : Int} (h : 0 ≤ b ∧ b < 6) : zcopy σ 9 0 26 0 6 26 b = σ 9 b := by
  unfold zcopy
  rw [if_pos ⟨rfl, by omega, by omega⟩]
  congr 1
  omega
theorem w_goBody {υ τ : zHp} {r k : Int} (h : m_X2_goRound [25] υ = some (0, τ)) : lf_X2_go_1 [25, r, k] υ = some (0, [25, r, k], τ) := by
  simp [lf_X2_go_1, xC_e, xL_e, xU_e, xB_e, xD_e, xF_e, xG_e, xA_e, xE_e, xH_e, xI_e, xZ_e, xK_e, aN_e, aC_e, cR_e, cV_e, cA_e, cO_e, cN_e, bs_e, bn_e, zg_0, zg_S, sS_e, sX_e, sF_e, sG_e, sA_e, sE_e, sEo_e, sK_e, sQ_e, sI_e, sR_e, sV_e, sB_e, sC_e, sD_e, sN_e, sP_e, sY_e, st_0, st_S, zc_0, zc_S, h]
theorem w_goEval {υ τ : zHp} {r k : Int} (hl : sW lc_X2_go_1 lf_X2_go_1 ls_X2_go_1 [25, r, 0] (zcopy υ 9 0 26 0 6) = some (0, [25, r, k], τ)) : m_X2_go [25, r] υ = some (0, τ) := by
  simp [e_X2_go, d_X2_go, xC_e, xL_e, xU_e, xB_e, xD_e, xF_e, xG_e, xA_e, xE_e, xH_e, xI_e, xZ_e, xK_e, aN_e, aC_e, cR_e, cV_e, cA_e, cO_e, cN_e, bs_e, bn_e, zg_0, zg_S, sS_e, sX_e, sF_e, sG_e, sA_e, sE_e, sEo_e, sK_e, sQ_e, sI_e, sR_e, sV_e, sB_e, sC_e, sD_e, sN_e, sP_e, sY_e, st_0, st_S, zc_0, zc_S, w_beg, hl]
theorem w_go {σ : zHp} {n C : Nat} {F : Int} {W : Int → Int} {G : Int → Int → Int} (hC : zCp σ n C F W G) (hQ : zCq n C F G) (hW : zWt n W) {r : Nat} (hr : r ≤ 1000) : ∃ τ, m_X2_go [25, (r : Int)] σ = some (0, τ) ∧ zFo σ τ ∧ ∀ b : Int, 0 ≤ b → b < n → τ 26 b = zRnd F G n C W r b := by
  have n6 := hQ.1
  obtain ⟨τ, l, z1, z2⟩ := zfor0 (c := lc_X2_go_1) (f := lf_X2_go_1) (i := 2) (lo := 0) (σ := zcopy σ 9 0 26 0 6) r (fun k => [25, (r : Int), 0 + (k : Int)]) (fun k x => zFo σ x ∧ ∀ b : Int, 0 ≤ b → b < n → x 26 b = zRnd F G n C W k b) ⟨fun a b _ q _ _ => zcopy_o q, fun b b0 b1 => by rw [zcopy_y ⟨b0, by omega⟩]; exact hC.2.2.2.1 b b0 b1⟩ (fun k => rfl) (by decide) (by omega)
    (fun k x hk hx => zc_lt (i := 2) (x := 0 + (k : Int)) (N := (r : Int)) rfl (xL_e _ _ _) (by omega))
    (fun k x hk hx => by
      obtain ⟨y, y1, y2, y3⟩ := w_gr (hx.1.cp hC) hQ hx.2 (zRnd_W hW k)
      have body := w_goBody (r := (r : Int)) (k := 0 + (k : Int)) y1
      exact ⟨_, _, _, body, Or.inl rfl, rfl, rfl, fun a b q1 q2 q3 q4 => by rw [y2 a b q1 q2]; exact hx.1 a b q1 q2 q3 q4, y3⟩)
  exact ⟨τ, w_goEval l, z1, z2⟩
/-! the reference's rounds -/
def zw2 (σ τ : zHp) : Prop := ∀ a b : Int, ¬ (a = 37 ∧ b = 22) → a ≠ 46 → a ≠ 56 → τ a b = σ a b
theorem zRp_2 {σ τ : zHp} {n C : Nat} {ea : Int} {W V : Int → Int} {P Q : Int → Int → Int} (h : zRp σ n C ea W P Q) (hz : zw2 σ τ) (hw : ∀ b : Int, 0 ≤ b → b < n → τ 46 b = V b) : zRp τ n C ea V P Q := by
  obtain ⟨h1, h2, h3, h4, h5⟩ := h
  refine ⟨by rw [hz 37 14 (by decide) (by omega) (by omega), h1], by rw [hz 37 5 (by decide) (by omega) (by omega), hz 37 6 (by decide) (by omega) (by omega), h2], by rw [hz 37 7 (by decide) (by omega) (by omega), h3], hw, fun i c i0 i1 c0 c1 => ?_⟩
  rw [hz 47 _ (by omega) (by omega) (by omega), hz 48 _ (by omega) (by omega) (by omega)]
  exact h5 i c i0 i1 c0 c1
theorem v_lr1Body {υ : zHp} {w r k v x1 : Int} (k7 : 0 ≤ k ∧ k < 7) (h : υ 46 k = v) : lf_X9_layRounds_1 [37, w, r, k, x1] υ = some (0, [37, w, r, k, x1], zput υ 56 k v) := by
  have i : 0 ≤ k ∧ k < 1206 := by omega
  simp [lf_X9_layRounds_1, xC_e, xL_e, xU_e, xB_e, xD_e, xF_e, xG_e, xA_e, xE_e, xH_e, xI_e, xZ_e, xK_e, aN_e, aC_e, cR_e, cV_e, cA_e, cO_e, cN_e, bs_e, bn_e, zg_0, zg_S, sS_e, sX_e, sF_e, sG_e, sA_e, sE_e, sEo_e, sK_e, sQ_e, sI_e, sR_e, sV_e, sB_e, sC_e, sD_e, sN_e, sP_e, sY_e, st_0, st_S, zc_0, zc_S, k7, i, h]
theorem v_lr5Body {υ : zHp} {w r k v x1 : Int} (k7 : 0 ≤ k ∧ k < 7) (h : υ 56 k = v) : lf_X9_layRounds_5 [37, w, r, k, x1] υ = some (0, [37, w, r, k, x1], zput υ 46 k v) := by
  have i : 0 ≤ k ∧ k < 1206 := by omega
  simp [lf_X9_layRounds_5, xC_e, xL_e, xU_e, xB_e, xD_e, xF_e, xG_e, xA_e, xE_e, xH_e, xI_e, xZ_e, xK_e, aN_e, aC_e, cR_e, cV_e, cA_e, cO_e, cN_e, bs_e, bn_e, zg_0, zg_S, sS_e, sX_e, sF_e, sG_e, sA_e, sE_e, sEo_e, sK_e, sQ_e, sI_e, sR_e, sV_e, sB_e, sC_e, sD_e, sN_e, sP_e, sY_e, st_0, st_S, zc_0, zc_S, k7, i, h]
theorem v_lr2Body {υ τ : zHp} {w r q k : Int} (h : m_X9_takesBest [37, k] υ = some (0, τ)) : lf_X9_layRounds_2 [37, w, r, q, k] υ = some (0, [37, w, r, q, k], τ) := by
  simp [lf_X9_layRounds_2, xC_e, xL_e, xU_e, xB_e, xD_e, xF_e, xG_e, xA_e, xE_e, xH_e, xI_e, xZ_e, xK_e, aN_e, aC_e, cR_e, cV_e, cA_e, cO_e, cN_e, bs_e, bn_e, zg_0, zg_S, sS_e, sX_e, sF_e, sG_e, sA_e, sE_e, sEo_e, sK_e, sQ_e, sI_e, sR_e, sV_e, sB_e, sC_e, sD_e, sN_e, sP_e, sY_e, st_0, st_S, zc_0, zc_S, h]
theorem v_lr3Body {υ : zHp} {w r q k v x : Int} (k7 : 0 ≤ k ∧ k < 7) (hx : o_iadd (o_imul 6 q) k = x) (i : 0 ≤ x ∧ x < 1206) (h : υ 46 k = v) : lf_X9_layRounds_3 [37, w, r, q, k] υ = some (0, [37, w, r, q, k], zput υ 56 x v) := by
  simp [lf_X9_layRounds_3, xC_e, xL_e, xU_e, xB_e, xD_e, xF_e, xG_e, xA_e, xE_e, xH_e, xI_e, xZ_e, xK_e, aN_e, aC_e, cR_e, cV_e, cA_e, cO_e, cN_e, bs_e, bn_e, zg_0, zg_S, sS_e, sX_e, sF_e, sG_e, sA_e, sE_e, sEo_e, sK_e, sQ_e, sI_e, sR_e, sV_e, sB_e, sC_e, sD_e, sN_e, sP_e, sY_e, st_0, st_S, zc_0, zc_S, k7, hx, i, h]
theorem v_lr4Body {υ τ τ2 : zHp} {w r q k k2 : Int} (h1 : sW lc_X9_layRounds_2 lf_X9_layRounds_2 ls_X9_layRounds_2 [37, w, r, q, 0] υ = some (0, [37, w, r, q, k], τ)) (h2 : sW lc_X9_layRounds_3 lf_X9_layRounds_3 ls_X9_layRounds_3 [37, w, r, q, 0] τ = some (0, [37, w, r, q, k2], τ2)) : lf_X9_layRounds_4 [37, w, r, q, 0] υ = some (0, [37, w, r, q, 0], τ2) := by
  simp [lf_X9_layRounds_4, xC_e, xL_e, xU_e, xB_e, xD_e, xF_e, xG_e, xA_e, xE_e, xH_e, xI_e, xZ_e, xK_e, aN_e, aC_e, cR_e, cV_e, cA_e, cO_e, cN_e, bs_e, bn_e, zg_0, zg_S, sS_e, sX_e, sF_e, sG_e, sA_e, sE_e, sEo_e, sK_e, sQ_e, sI_e, sR_e, sV_e, sB_e, sC_e, sD_e, sN_e, sP_e, sY_e, st_0, st_S, zc_0, zc_S, h1, h2]
theorem v_lrEval {υ τ0 τ1 τ2 τ3 : zHp} {w r k k2 k3 : Int} (h0 : m_X9_layLoud [37, w] υ = some (0, τ0)) (h1 : sW lc_X9_layRounds_1 lf_X9_layRounds_1 ls_X9_layRounds_1 [37, w, r, 0, 0] τ0 = some (0, [37, w, r, k, 0], τ1)) (h2 : sW lc_X9_layRounds_4 lf_X9_layRounds_4 ls_X9_layRounds_4 [37, w, r, 1, 0] τ1 = some (0, [37, w, r, k2, 0], τ2)) (h3 : sW lc_X9_layRounds_5 lf_X9_layRounds_5 ls_X9_layRounds_5 [37, w, r, 0, 0] τ2 = some (0, [37, w, r, k3, 0], τ3)) : m_X9_layRounds [37, w, r] υ = some (0, τ3) := by
  simp [e_X9_layRounds, d_X9_layRounds, xC_e, xL_e, xU_e, xB_e, xD_e, xF_e, xG_e, xA_e, xE_e, xH_e, xI_e, xZ_e, xK_e, aN_e, aC_e, cR_e, cV_e, cA_e, cO_e, cN_e, bs_e, bn_e, zg_0, zg_S, sS_e, sX_e, sF_e, sG_e, sA_e, sE_e, sEo_e, sK_e, sQ_e, sI_e, sR_e, sV_e, sB_e, sC_e, sD_e, sN_e, sP_e, sY_e, st_0, st_S, zc_0, zc_S, h0, h1, h2, h3]
/-- one round -/
theorem v_lr2 {σ : zHp} {n C : Nat} {K F ea : Int} {V : Int → Int} {P Q G : Int → Int → Int} (hR : zRp σ n C ea V P Q) (hP : zPc n C K F ea P Q G) (hW : zWt n V) (w r q : Int) : ∃ τ, sW lc_X9_layRounds_2 lf_X9_layRounds_2 ls_X9_layRounds_2 [37, w, r, q, 0] σ = some (0, [37, w, r, q, 0 + (n : Int)], τ) ∧ (∀ a b : Int, ¬ (a = 37 ∧ b = 22) → ¬ (a = 46 ∧ 0 ≤ b ∧ b < n) → τ a b = σ a b) ∧ ∀ b : Int, 0 ≤ b → b < n → τ 46 b = zRk F G n C V n b := by
  have n7 := hP.1
  obtain ⟨τ, l, z1, z2⟩ := zfor0 (c := lc_X9_layRounds_2) (f := lf_X9_layRounds_2) (i := 4) (lo := 0) (σ := σ) n (fun k => [37, w, r, q, 0 + (k : Int)]) (fun k x => (∀ a b : Int, ¬ (a = 37 ∧ b = 22) → ¬ (a = 46 ∧ 0 ≤ b ∧ b < n) → x a b = σ a b) ∧ ∀ b : Int, 0 ≤ b → b < n → x 46 b = zRk F G n C V k b) ⟨fun _ _ _ _ => rfl, hR.2.2.2.1⟩ (fun k => rfl) (by decide) (by omega)
    (fun k x hk hx => zc_lt (i := 4) (x := 0 + (k : Int)) rfl (zx_G (N := n) (by rw [hx.1 37 14 (by omega) (by omega)]; exact hR.1)) (by omega))
    (fun k x hk hx => by
      have hRx := zRp_2 (τ := x) hR (fun a b q1 q2 q3 => hx.1 a b q1 (by omega)) hx.2
      obtain ⟨y, y1, y2, y3⟩ := v_tb hRx hP (zRk_W (F := F) (G := G) (C := C) hW k (by omega)) (b := (k : Int)) (by omega)
      have body := v_lr2Body (w := w) (r := r) (q := q) y1
      rw [z0k, z0k]
      refine ⟨_, _, _, body, Or.inl rfl, rfl, rfl, fun a b q1 q2 => by rw [y2 a b q1 (by omega)]; exact hx.1 a b q1 q2, fun b b0 b1 => ?_⟩
      show _ = zWs (zRk F G n C V k) k _ b
      by_cases z : b = (k : Int)
      · rw [z, y3, zWs_b]
      · rw [y2 46 b (by omega) (by omega), zWs_n z]
        exact hx.2 b b0 b1)
  exact ⟨τ, l, z1, z2⟩
theorem v_lr3 {σ : zHp} {n : Nat} (n6 : n ≤ 6) (h14 : σ 37 14 = n) {V : Int → Int} (hV : ∀ b : Int, 0 ≤ b → b < n → σ 46 b = V b) (w r : Int) {q : Nat} (hq : q ≤ 200) : ∃ τ, sW lc_X9_layRounds_3 lf_X9_layRounds_3 ls_X9_layRounds_3 [37, w, r, (q : Int), 0] σ = some (0, [37, w, r, (q : Int), 0 + (n : Int)], τ) ∧ (∀ a b : Int, ¬ (a = 56 ∧ 6 * (q : Int) ≤ b ∧ b < 6 * (q : Int) + 6) → τ a b = σ a b) ∧ ∀ b : Int, 0 ≤ b → b < n → τ 56 (6 * (q : Int) + b) = V b := by
  obtain ⟨τ, l, z1, z2⟩ := zfor0 (c := lc_X9_layRounds_3) (f := lf_X9_layRounds_3) (i := 4) (lo := 0) (σ := σ) n (fun k => [37, w, r, (q : Int), 0 + (k : Int)]) (fun k x => (∀ a b : Int, ¬ (a = 56 ∧ 6 * (q : Int) ≤ b ∧ b < 6 * (q : Int) + 6) → x a b = σ a b) ∧ ∀ b : Int, 0 ≤ b → b < k → x 56 (6 * (q : Int) + b) = V b) ⟨fun _ _ _ => rfl, fun b b0 b1 => by omega⟩ (fun k => rfl) (by decide) (by omega)
    (fun k x hk hx => zc_lt (i := 4) (x := 0 + (k : Int)) rfl (zx_G (N := n) (by rw [hx.1 37 14 (by omega)]; exact h14)) (by omega))
    (fun k x hk hx => by
      have e : o_iadd (o_imul 6 (q : Int)) (k : Int) = 6 * (q : Int) + (k : Int) := by
        have : o_imul 6 (q : Int) = 6 * (q : Int) := w32_id ⟨by omega, by omega⟩
        rw [this]
        exact w32_id ⟨by omega, by omega⟩
      have body := v_lr3Body (υ := x) (w := w) (r := r) (k := (k : Int)) (v := V k) (by omega) e (by omega) (by rw [hx.1 46 k (by omega)]; exact hV k (by omega) (by omega))
      rw [z0k, z0k]
      refine ⟨_, _, _, body, Or.inl rfl, rfl, rfl, fun a b h => by rw [zput_n (by omega)]; exact hx.1 a b h, fun b b0 b1 => ?_⟩
      by_cases z : b = (k : Int)
      · rw [z, zput_self]
      · rw [zput_i (by omega)]
        exact hx.2 b b0 (by omega))
  exact ⟨τ, l, z1, z2⟩
/-- what rounds leave -/
theorem v_lr {σ τ : zHp} (hI : zInv σ) (hs : zSame σ τ) {w : Int} (hw : 0 ≤ w ∧ w ≤ 39) {r : Nat} (hr : r ≤ 200) : ∃ υ, m_X9_layRounds [37, w, (r : Int)] τ = some (0, υ) ∧ zSame τ υ ∧ ∀ k : Nat, k ≤ r → ∀ b : Int, 0 ≤ b → b < zNb σ → υ 56 (6 * (k : Int) + b) = zRnd (zFF σ w) (zGG σ w) (zNb σ) (zNc σ) (σ 9) k b := by
  obtain ⟨nb1, nb2⟩ := zNb_e hI
  have hP := zPc_I hI hw
  have hW := zWt_I hI
  obtain ⟨τ0, u1, u2, u3⟩ := zLay hI hs hw
  generalize hn : zNb σ = n at *
  obtain ⟨τ1, l1, a1, a2⟩ := zfor0 (c := lc_X9_layRounds_1) (f := lf_X9_layRounds_1) (i := 3) (lo := 0) (σ := τ0) n (fun k => [37, w, (r : Int), 0 + (k : Int), 0]) (fun k x => (∀ a b : Int, a ≠ 56 → x a b = τ0 a b) ∧ ∀ b : Int, 0 ≤ b → b < k → x 56 b = σ 9 b) ⟨fun _ _ _ => rfl, fun b b0 b1 => by omega⟩ (fun k => rfl) (by decide) (by omega)
    (fun k x hk hx => zc_lt (i := 3) (x := 0 + (k : Int)) rfl (zx_G (N := n) (by rw [hx.1 37 14 (by omega)]; exact u3.1)) (by omega))
    (fun k x hk hx => by
      have body := v_lr1Body (υ := x) (w := w) (r := (r : Int)) (k := (k : Int)) (v := σ 9 k) (x1 := 0) (by omega) (by rw [hx.1 46 k (by omega)]; exact u3.2.2.2.1 k (by omega) (by omega))
      rw [z0k, z0k]
      refine ⟨_, _, _, body, Or.inl rfl, rfl, rfl, fun a b h => by rw [zput_o h]; exact hx.1 a b h, fun b b0 b1 => ?_⟩
      by_cases z : b = (k : Int)
      · rw [z, zput_self]
      · rw [zput_i z]
        exact hx.2 b b0 (by omega))
  have l1b : sW lc_X9_layRounds_1 lf_X9_layRounds_1 ls_X9_layRounds_1 [37, w, (r : Int), 0, 0] τ0 = some (0, [37, w, (r : Int), 0 + (n : Int), 0], τ1) := l1
  obtain ⟨τ2, l2, b1, b2, b3⟩ := zfor0 (c := lc_X9_layRounds_4) (f := lf_X9_layRounds_4) (i := 3) (lo := 1) (σ := τ1) r (fun k => [37, w, (r : Int), 1 + (k : Int), 0])
    (fun k x => (∀ a b : Int, ¬ (a = 37 ∧ b = 22) → ¬ (a = 46 ∧ 0 ≤ b ∧ b < n) → a ≠ 56 → x a b = τ0 a b) ∧ (∀ b : Int, 0 ≤ b → b < n → x 46 b = zRnd (zFF σ w) (zGG σ w) n (zNc σ) (σ 9) k b) ∧ ∀ j : Nat, j ≤ k → ∀ b : Int, 0 ≤ b → b < n → x 56 (6 * (j : Int) + b) = zRnd (zFF σ w) (zGG σ w) n (zNc σ) (σ 9) j b)
    ⟨fun a b _ _ q => a1 a b q, fun b b0 b1 => by rw [a1 46 b (by omega)]; exact u3.2.2.2.1 b b0 b1, fun j hj b b0 b1 => by
      have : j = 0 := by omega
      subst this
      have e : 6 * ((0 : Nat) : Int) + b = b := by omega
      rw [e]
      exact a2 b b0 b1⟩ (fun k => rfl) (by decide) (by omega)
    (fun k x hk hx => zc_le (i := 3) (x := 1 + (k : Int)) (N := (r : Int)) rfl (xL_e _ _ _) (by omega))
    (fun k x hk hx => by
      obtain ⟨x1, x2, x3⟩ := hx
      have hRx := zRp_2 (τ := x) u3 (fun a b q1 q2 q3 => x1 a b q1 (by omega) q3) x2
      obtain ⟨y, y1, y2, y3⟩ := v_lr2 hRx hP (zRnd_W hW k) w (r : Int) (1 + (k : Int))
      have e1 : ((k + 1 : Nat) : Int) = 1 + (k : Int) := by omega
      obtain ⟨z, z1, z2, z3⟩ := v_lr3 (σ := y) (q := k + 1) nb2 (by rw [y2 37 14 (by omega) (by omega)]; exact hRx.1) y3 w (r : Int) (by omega)
      rw [e1] at z1
      have body := v_lr4Body y1 z1
      refine ⟨_, _, _, body, Or.inl rfl, rfl, rfl, fun a b q1 q2 q3 => ?_, fun b b0 b1 => ?_, fun j hj b b0 b1 => ?_⟩
      · rw [z2 a b (by omega), y2 a b q1 q2]
        exact x1 a b q1 q2 q3
      · rw [z2 46 b (by omega), y3 b b0 b1]
        rfl
      · by_cases q : j = k + 1
        · subst q
          rw [z3 b b0 b1]
          rfl
        · rw [z2 56 _ (by omega), y2 56 _ (by omega) (by omega)]
          exact x3 j (by omega) b b0 b1)
  have l2b : sW lc_X9_layRounds_4 lf_X9_layRounds_4 ls_X9_layRounds_4 [37, w, (r : Int), 1, 0] τ1 = some (0, [37, w, (r : Int), 1 + (r : Int), 0], τ2) := l2
  obtain ⟨τ3, l3, c1, c2⟩ := zfor0 (c := lc_X9_layRounds_5) (f := lf_X9_layRounds_5) (i := 3) (lo := 0) (σ := τ2) n (fun k => [37, w, (r : Int), 0 + (k : Int), 0]) (fun k x => (∀ a b : Int, ¬ (a = 46 ∧ 0 ≤ b ∧ b < n) → x a b = τ2 a b) ∧ ∀ b : Int, 0 ≤ b → b < k → x 46 b = σ 9 b) ⟨fun _ _ _ => rfl, fun b b0 b1 => by omega⟩ (fun k => rfl) (by decide) (by omega)
    (fun k x hk hx => zc_lt (i := 3) (x := 0 + (k : Int)) rfl (zx_G (N := n) (by rw [hx.1 37 14 (by omega), b1 37 14 (by omega) (by omega) (by omega)]; exact u3.1)) (by omega))
    (fun k x hk hx => by
      have b30 := b3 0 (Nat.zero_le _) k (by omega) (by omega)
      have e : 6 * ((0 : Nat) : Int) + (k : Int) = k := by omega
      rw [e] at b30
      have body := v_lr5Body (υ := x) (w := w) (r := (r : Int)) (k := (k : Int)) (v := σ 9 k) (x1 := 0) (by omega) (by rw [hx.1 56 k (by omega), b30]; rfl)
      rw [z0k, z0k]
      refine ⟨_, _, _, body, Or.inl rfl, rfl, rfl, fun a b h => by rw [zput_n (by omega)]; exact hx.1 a b h, fun b b0 b1 => ?_⟩
      by_cases z : b = (k : Int)
      · rw [z, zput_self]
      · rw [zput_i z]
        exact hx.2 b b0 (by omega))
  have l3b : sW lc_X9_layRounds_5 lf_X9_layRounds_5 ls_X9_layRounds_5 [37, w, (r : Int), 0, 0] τ2 = some (0, [37, w, (r : Int), 0 + (n : Int), 0], τ3) := l3
  refine ⟨τ3, v_lrEval u1 l1b l2b l3b, fun a b hab => ?_, fun k hk b b0 b1' => ?_⟩
  · by_cases q : a = 46 ∧ 0 ≤ b ∧ b < n
    · obtain ⟨rfl, q1, q2⟩ := q
      rw [c2 b q1 q2, hs 46 b rfl, ((zI3 hI).2.2.2 b q1 (by omega)).2.2.1]
    · rw [c1 a b q, b1 a b (by rintro ⟨rfl, rfl⟩; simp [zfree] at hab) q (by rintro rfl; simp [zfree] at hab), u2 a b hab]
  · rw [c1 56 _ (by omega)]
    exact b3 k hk b b0 b1'
theorem zp23 : zp_23 zInv := by
  intro b w r hbr hwr hrr σ hI
  have hN := zI3 hI
  obtain ⟨nb1, nb2⟩ := zNb_e hI
  have ha : zOkA [0, 0, 0] [b, w, r] := ⟨hbr, hwr, hrr, trivial⟩
  by_cases g1 : 0 ≤ b ∧ b < σ 6 0
  case neg =>
    have g1' : ¬ (0 ≤ b ∧ b < σ 37 14) := by rw [hN.1]; exact g1
    refine zq k_X8_after k_X9_after hI ha (r := -1) (σ1 := σ) (σ2 := σ) ?_ ?_ (zSame.rf σ) (zSame.rf σ)
    · simp [e_X8_after, d_X8_after, xC_e, xL_e, xU_e, xB_e, xD_e, xF_e, xG_e, xA_e, xE_e, xH_e, xI_e, xZ_e, xK_e, aN_e, aC_e, cR_e, cV_e, cA_e, cO_e, cN_e, bs_e, bn_e, zg_0, zg_S, sS_e, sX_e, sF_e, sG_e, sA_e, sE_e, sEo_e, sK_e, sQ_e, sI_e, sR_e, sV_e, sB_e, sC_e, sD_e, sN_e, sP_e, sY_e, st_0, st_S, zc_0, zc_S, r_eq, r_ne, r_lt, r_le, r_gt, r_ge, rb_ite, rb_0, rb_1, w_isBell_f g1]
    · simp [e_X9_after, d_X9_after, xC_e, xL_e, xU_e, xB_e, xD_e, xF_e, xG_e, xA_e, xE_e, xH_e, xI_e, xZ_e, xK_e, aN_e, aC_e, cR_e, cV_e, cA_e, cO_e, cN_e, bs_e, bn_e, zg_0, zg_S, sS_e, sX_e, sF_e, sG_e, sA_e, sE_e, sEo_e, sK_e, sQ_e, sI_e, sR_e, sV_e, sB_e, sC_e, sD_e, sN_e, sP_e, sY_e, st_0, st_S, zc_0, zc_S, r_eq, r_ne, r_lt, r_le, r_gt, r_ge, rb_ite, rb_0, rb_1, v_isBell_f g1']
  have g1' : 0 ≤ b ∧ b < σ 37 14 := by rw [hN.1]; exact g1
  by_cases g2 : (0 ≤ w ∧ w ≤ 39) ∧ (0 ≤ r ∧ r ≤ 200)
  case neg =>
    refine zq k_X8_after k_X9_after hI ha (r := -2) (σ1 := σ) (σ2 := σ) ?_ ?_ (zSame.rf σ) (zSame.rf σ)
    · by_cases g3 : 0 ≤ w ∧ w ≤ 39
      · by_cases g4 : r < 0
        · simp [e_X8_after, d_X8_after, xC_e, xL_e, xU_e, xB_e, xD_e, xF_e, xG_e, xA_e, xE_e, xH_e, xI_e, xZ_e, xK_e, aN_e, aC_e, cR_e, cV_e, cA_e, cO_e, cN_e, bs_e, bn_e, zg_0, zg_S, sS_e, sX_e, sF_e, sG_e, sA_e, sE_e, sEo_e, sK_e, sQ_e, sI_e, sR_e, sV_e, sB_e, sC_e, sD_e, sN_e, sP_e, sY_e, st_0, st_S, zc_0, zc_S, r_eq, r_ne, r_lt, r_le, r_gt, r_ge, rb_ite, rb_0, rb_1, w_isBell_t g1, w_isWind_t g3, g4]
        · have g5 : 200 < r := by omega
          simp [e_X8_after, d_X8_after, xC_e, xL_e, xU_e, xB_e, xD_e, xF_e, xG_e, xA_e, xE_e, xH_e, xI_e, xZ_e, xK_e, aN_e, aC_e, cR_e, cV_e, cA_e, cO_e, cN_e, bs_e, bn_e, zg_0, zg_S, sS_e, sX_e, sF_e, sG_e, sA_e, sE_e, sEo_e, sK_e, sQ_e, sI_e, sR_e, sV_e, sB_e, sC_e, sD_e, sN_e, sP_e, sY_e, st_0, st_S, zc_0, zc_S, r_eq, r_ne, r_lt, r_le, r_gt, r_ge, rb_ite, rb_0, rb_1, w_isBell_t g1, w_isWind_t g3, g4, g5]
      · simp [e_X8_after, d_X8_after, xC_e, xL_e, xU_e, xB_e, xD_e, xF_e, xG_e, xA_e, xE_e, xH_e, xI_e, xZ_e, xK_e, aN_e, aC_e, cR_e, cV_e, cA_e, cO_e, cN_e, bs_e, bn_e, zg_0, zg_S, sS_e, sX_e, sF_e, sG_e, sA_e, sE_e, sEo_e, sK_e, sQ_e, sI_e, sR_e, sV_e, sB_e, sC_e, sD_e, sN_e, sP_e, sY_e, st_0, st_S, zc_0, zc_S, r_eq, r_ne, r_lt, r_le, r_gt, r_ge, rb_ite, rb_0, rb_1, w_isBell_t g1, w_isWind_f g3]
    · by_cases g3 : 0 ≤ w ∧ w ≤ 39
      · have g4 : ¬ (0 ≤ r ∧ r ≤ 200) := fun z => g2 ⟨g3, z⟩
        simp [e_X9_after, d_X9_after, xC_e, xL_e, xU_e, xB_e, xD_e, xF_e, xG_e, xA_e, xE_e, xH_e, xI_e, xZ_e, xK_e, aN_e, aC_e, cR_e, cV_e, cA_e, cO_e, cN_e, bs_e, bn_e, zg_0, zg_S, sS_e, sX_e, sF_e, sG_e, sA_e, sE_e, sEo_e, sK_e, sQ_e, sI_e, sR_e, sV_e, sB_e, sC_e, sD_e, sN_e, sP_e, sY_e, st_0, st_S, zc_0, zc_S, r_eq, r_ne, r_lt, r_le, r_gt, r_ge, rb_ite, rb_0, rb_1, v_isBell_t g1', v_isWind_t g3, v_within_f g4]
      · simp [e_X9_after, d_X9_after, xC_e, xL_e, xU_e, xB_e, xD_e, xF_e, xG_e, xA_e, xE_e, xH_e, xI_e, xZ_e, xK_e, aN_e, aC_e, cR_e, cV_e, cA_e, cO_e, cN_e, bs_e, bn_e, zg_0, zg_S, sS_e, sX_e, sF_e, sG_e, sA_e, sE_e, sEo_e, sK_e, sQ_e, sI_e, sR_e, sV_e, sB_e, sC_e, sD_e, sN_e, sP_e, sY_e, st_0, st_S, zc_0, zc_S, r_eq, r_ne, r_lt, r_le, r_gt, r_ge, rb_ite, rb_0, rb_1, v_isBell_t g1', v_isWind_f g3]
  obtain ⟨g2, g3⟩ := g2
  obtain ⟨τ, t1, t2, t3⟩ := zBlow hI g2
  have rr : ((r.toNat : Nat) : Int) = r := by omega
  obtain ⟨τ2, s1, s2, s3⟩ := w_go t3 (zCq_I hI g2) (zWt_I hI) (r := r.toNat) (by omega)
  obtain ⟨υ, u1, u2, u3⟩ := v_lr hI (t2.tr s2.same) g2 (r := r.toNat) (by omega)
  have u4 := u3 r.toNat (Nat.le_refl _) b g1.1 (by omega)
  have s4 := s3 b g1.1 (by omega)
  rw [rr] at s1 u1 u4
  have b6 : 0 ≤ b ∧ b < 6 := by omega
  have n1 : ¬ r < 0 := by omega
  have n2 : ¬ 200 < r := by omega
  have e : o_iadd (o_imul 6 r) b = 6 * r + b := by
    have : o_imul 6 r = 6 * r := w32_id ⟨by omega, by omega⟩
    rw [this]
    exact w32_id ⟨by omega, by omega⟩
  have i : 0 ≤ 6 * r + b ∧ 6 * r + b < 1206 := by omega
  refine zq k_X8_after k_X9_after hI ha (r := zRnd (zFF σ w) (zGG σ w) (zNb σ) (zNc σ) (σ 9) r.toNat b) (σ1 := τ2) (σ2 := υ) ?_ ?_ (t2.tr s2.same) u2
  · simp [e_X8_after, d_X8_after, xC_e, xL_e, xU_e, xB_e, xD_e, xF_e, xG_e, xA_e, xE_e, xH_e, xI_e, xZ_e, xK_e, aN_e, aC_e, cR_e, cV_e, cA_e, cO_e, cN_e, bs_e, bn_e, zg_0, zg_S, sS_e, sX_e, sF_e, sG_e, sA_e, sE_e, sEo_e, sK_e, sQ_e, sI_e, sR_e, sV_e, sB_e, sC_e, sD_e, sN_e, sP_e, sY_e, st_0, st_S, zc_0, zc_S, r_eq, r_ne, r_lt, r_le, r_gt, r_ge, rb_ite, rb_0, rb_1, w_isBell_t g1, w_isWind_t g2, n1, n2, t1, s1, b6, s4]
  · have g1'' : 0 ≤ b ∧ b < τ2 37 14 := by rw [(t2.tr s2.same) 37 14 rfl]; exact g1'
    simp [e_X9_after, d_X9_after, xC_e, xL_e, xU_e, xB_e, xD_e, xF_e, xG_e, xA_e, xE_e, xH_e, xI_e, xZ_e, xK_e, aN_e, aC_e, cR_e, cV_e, cA_e, cO_e, cN_e, bs_e, bn_e, zg_0, zg_S, sS_e, sX_e, sF_e, sG_e, sA_e, sE_e, sEo_e, sK_e, sQ_e, sI_e, sR_e, sV_e, sB_e, sC_e, sD_e, sN_e, sP_e, sY_e, st_0, st_S, zc_0, zc_S, r_eq, r_ne, r_lt, r_le, r_gt, r_ge, rb_ite, rb_0, rb_1, v_isBell_t g1'', v_isWind_t g2, v_within_t g3, u1, e, i, u4]
