/-! by what weight a bell wins a cell -/
def zFst (p : Nat → Bool) : Nat → Int
  | 0 => -9
  | n + 1 => if zFst p n = -9 then (if p n = true then (n : Int) + 1 else -9) else zFst p n
theorem zFst_S (p : Nat → Bool) (n : Nat) : zFst p (n + 1) = if zFst p n = -9 then (if p n = true then (n : Int) + 1 else -9) else zFst p n := rfl
theorem zFst_n {p : Nat → Bool} : ∀ n : Nat, (∀ k, k < n → p k = false) → zFst p n = -9
  | 0, _ => rfl
  | n + 1, h => by
    rw [zFst_S, zFst_n n (fun k hk => h k (by omega)), h n (by omega)]
    rfl
theorem zFst_i (p : Nat → Bool) : ∀ n : Nat, zFst p n = -9 ∨ (1 ≤ zFst p n ∧ zFst p n ≤ n)
  | 0 => Or.inl rfl
  | n + 1 => by
    rw [zFst_S]
    rcases zFst_i p n with h | h
    · rw [if_pos h]
      split
      · exact Or.inr ⟨by omega, by omega⟩
      · exact Or.inl rfl
    · rw [if_neg (by omega)]
      exact Or.inr ⟨h.1, by omega⟩
theorem zFst_y {p : Nat → Bool} {k : Nat} (h1 : ∀ j, j < k → p j = false) (h2 : p k = true) : ∀ n : Nat, k < n → zFst p n = (k : Int) + 1
  | 0, h => by omega
  | n + 1, h => by
    rw [zFst_S]
    by_cases q : k = n
    · subst q
      rw [if_pos (zFst_n k h1), if_pos h2]
    · rw [zFst_y h1 h2 n (by omega), if_neg (by omega)]
theorem zFst_c {p q : Nat → Bool} : ∀ n : Nat, (∀ k, k < n → p k = q k) → zFst p n = zFst q n
  | 0, _ => rfl
  | n + 1, h => by
    rw [zFst_S, zFst_S, zFst_c n (fun k hk => h k (by omega)), h n (by omega)]
def zWs (W : Int → Int) (b w : Int) : Int → Int := fun i => if i = b then w else W i
theorem zWs_b (W : Int → Int) (b w : Int) : zWs W b w b = w := if_pos rfl
theorem zWs_n {W : Int → Int} {b w i : Int} (h : i ≠ b) : zWs W b w i = W i := if_neg h
theorem zWs_id (W : Int → Int) (b : Int) : zWs W b (W b) = W := by
  funext i
  unfold zWs
  split
  · next h => rw [h]
  · rfl
theorem zWs_W {n : Nat} {W : Int → Int} {b w : Int} (hW : zWt n W) (hw : 1 ≤ w ∧ w ≤ 99) : zWt n (zWs W b w) := fun i h0 h1 => by
  unfold zWs
  split
  · exact hw
  · exact hW i h0 h1
theorem zOwn_br {F : Int} {W : Int → Int} {G : Int → Int → Int} {n : Nat} {b c w : Int} (hw : 1 ≤ w) (hG : 1 ≤ G b c) : zOwn F (zLd (zWs W b w) G c) n b ↔ zBr F (zLd W G c) b b n < w * G b c := by
  rw [zBr_s]
  have e : zLd (zWs W b w) G c b = w * G b c := by unfold zLd; rw [zWs_b]
  have p : 1 * 1 ≤ w * G b c := Int.mul_le_mul hw hG (by omega) (by omega)
  unfold zOwn
  rw [e]
  have en : ∀ x, x ≠ b → zLd (zWs W b w) G c x = zLd W G c x := fun x hx => by unfold zLd; rw [zWs_n hx]
  constructor
  · rintro ⟨h1, h2⟩
    exact ⟨by omega, h1, fun x x0 x1 xb _ => by rw [← en x xb]; exact h2 x x0 x1 xb⟩
  · rintro ⟨-, h1, h2⟩
    exact ⟨h1, fun x x0 x1 xb => by rw [en x xb]; exact h2 x x0 x1 xb xb⟩
/-- the weights by which it wins, from 1 on -/
def zWn (F : Int) (W : Int → Int) (G : Int → Int → Int) (n : Nat) (b c : Int) (k : Nat) : Bool := decide (zBr F (zLd W G c) b b n < (1 + (k : Int)) * G b c)
theorem w_ltoBody {υ : zHp} {b c br z one z2 k x : Int} (h : o_lmul k one = x) : lf_X0_leastToOwn_1 [10, b, c, br, z, one, z2, k] υ = if br < x then some (1, [k], υ) else some (0, [10, b, c, br, z, one, z2, k], υ) := by
  by_cases p : br < x <;> simp [lf_X0_leastToOwn_1, xC_e, xL_e, xU_e, xB_e, xD_e, xF_e, xG_e, xA_e, xE_e, xH_e, xI_e, xZ_e, xK_e, aN_e, aC_e, cR_e, cV_e, cA_e, cO_e, cN_e, bs_e, bn_e, zg_0, zg_S, sS_e, sX_e, sF_e, sG_e, sA_e, sE_e, sEo_e, sK_e, sQ_e, sI_e, sR_e, sV_e, sB_e, sC_e, sD_e, sN_e, sP_e, sY_e, st_0, st_S, zc_0, zc_S, r_eq, r_ne, r_lt, r_le, r_gt, r_ge, rb_ite, rb_0, rb_1, h, p]
theorem w_ltoEval {υ : zHp} {b c br one r : Int} {tt : Nat} {e : List Int} (b6 : 0 ≤ b ∧ b < 6) (c30 : 0 ≤ c ∧ c < 30) (h1 : m_X0_bar [10, 9, c, b, b] υ = some (br, υ)) (h2 : υ 12 (30 * b + c) = one) (hl : sW lc_X0_leastToOwn_1 lf_X0_leastToOwn_1 ls_X0_leastToOwn_1 [10, b, c, br, 0, one, 0, 1] υ = some (tt, e, υ)) (hq : (tt = 1 ∧ e = [r]) ∨ (tt = 0 ∧ r = -9)) : m_X0_leastToOwn [10, b, c] υ = some (r, υ) := by
  have z1 := (z30 (b := b) (c := c) (by omega) c30).1
  have i1 : 0 ≤ 30 * b + c ∧ 30 * b + c < 180 := by omega
  rcases hq with ⟨rfl, rfl⟩ | ⟨rfl, rfl⟩
  · simp [e_X0_leastToOwn, d_X0_leastToOwn, xC_e, xL_e, xU_e, xB_e, xD_e, xF_e, xG_e, xA_e, xE_e, xH_e, xI_e, xZ_e, xK_e, aN_e, aC_e, cR_e, cV_e, cA_e, cO_e, cN_e, bs_e, bn_e, zg_0, zg_S, sS_e, sX_e, sF_e, sG_e, sA_e, sE_e, sEo_e, sK_e, sQ_e, sI_e, sR_e, sV_e, sB_e, sC_e, sD_e, sN_e, sP_e, sY_e, st_0, st_S, zc_0, zc_S, r_eq, r_ne, r_lt, r_le, r_gt, r_ge, rb_ite, rb_0, rb_1, h1, z1, i1, h2, hl]
  · simp [e_X0_leastToOwn, d_X0_leastToOwn, xC_e, xL_e, xU_e, xB_e, xD_e, xF_e, xG_e, xA_e, xE_e, xH_e, xI_e, xZ_e, xK_e, aN_e, aC_e, cR_e, cV_e, cA_e, cO_e, cN_e, bs_e, bn_e, zg_0, zg_S, sS_e, sX_e, sF_e, sG_e, sA_e, sE_e, sEo_e, sK_e, sQ_e, sI_e, sR_e, sV_e, sB_e, sC_e, sD_e, sN_e, sP_e, sY_e, st_0, st_S, zc_0, zc_S, r_eq, r_ne, r_lt, r_le, r_gt, r_ge, rb_ite, rb_0, rb_1, h1, z1, i1, h2, hl]
theorem w_lto {σ : zHp} {n C : Nat} {F : Int} {W : Int → Int} {G : Int → Int → Int} (hC : zCp σ n C F W G) (hQ : zCq n C F G) (hW : zWt n W) {b c : Int} (hb : 0 ≤ b ∧ b < n) (hc : 0 ≤ c ∧ c < C) : m_X0_leastToOwn [10, b, c] σ = some (zFst (zWn F W G n b c) 99, σ) := by
  have n6 := hQ.1
  have c30 := hQ.2.1
  have g := hQ.2.2.2 b c hb.1 hb.2 hc.1 hc.2
  have br := w_bar hC hQ hC.2.2.2.1 hW hc b b
  have hl := zfor (c := lc_X0_leastToOwn_1) (f := lf_X0_leastToOwn_1) (i := 7) (lo := 1) 99 (fun k => [10, b, c, zBr F (zLd W G c) b b n, 0, G b c, 0, 1 + (k : Int)]) (fun k υ => υ = σ ∧ ∀ j, j < k → zWn F W G n b c j = false)
    (fun t e υ => υ = σ ∧ ((t = 1 ∧ e = [zFst (zWn F W G n b c) 99]) ∨ (t = 0 ∧ zFst (zWn F W G n b c) 99 = -9))) (σ := σ) ⟨rfl, fun j hj => by omega⟩ (fun k => rfl) (by decide) (by decide)
    (fun k υ hk h => zc_le (i := 7) (x := 1 + (k : Int)) rfl (xC_e _ _ _) (by omega))
    (fun k υ hk h => by
      obtain ⟨rfl, h2⟩ := h
      have m := zmul_i (x := 1 + (k : Int)) (y := G b c) 99 21508378785653760 (by omega) (by omega)
      have o : o_lmul (1 + (k : Int)) (G b c) = (1 + (k : Int)) * G b c := w64_id ⟨by omega, by omega⟩
      rw [w_ltoBody o]
      by_cases p : zBr F (zLd W G c) b b n < (1 + (k : Int)) * G b c
      · rw [if_pos p]
        refine Or.inl ⟨_, _, rfl, rfl, Or.inl ⟨rfl, ?_⟩⟩
        rw [zFst_y h2 (decide_eq_true p) 99 hk, Int.add_comm]
      · rw [if_neg p]
        refine Or.inr ⟨_, _, _, rfl, Or.inl rfl, rfl, rfl, rfl, fun j hj => ?_⟩
        by_cases z : j = k
        · rw [z]; exact decide_eq_false p
        · exact h2 j (by omega))
    (fun υ h => ⟨h.1, Or.inr ⟨rfl, zFst_n 99 h.2⟩⟩)
  obtain ⟨t, e, υ, hl, rfl, hq⟩ := hl
  exact w_ltoEval (by omega) (by omega) br (hC.2.2.2.2 b c hb.1 hb.2 hc.1 hc.2) hl hq
/-! the reference tries all weights -/
def zw22 (b : Int) (σ τ : zHp) : Prop := ∀ x y : Int, ¬ (x = 37 ∧ y = 22) → ¬ (x = 46 ∧ y = b) → τ x y = σ x y
theorem zRp_w {σ τ : zHp} {n C : Nat} {ea b w : Int} {W : Int → Int} {P Q : Int → Int → Int} (h : zRp σ n C ea W P Q) (hz : zw22 b σ τ) (hw : τ 46 b = w) : zRp τ n C ea (zWs W b w) P Q := by
  obtain ⟨h1, h2, h3, h4, h5⟩ := h
  refine ⟨by rw [hz 37 14 (by decide) (by omega), h1], by rw [hz 37 5 (by decide) (by omega), hz 37 6 (by decide) (by omega), h2], by rw [hz 37 7 (by decide) (by omega), h3], fun i i0 i1 => ?_, fun i c i0 i1 c0 c1 => ?_⟩
  · by_cases q : i = b
    · rw [q, zWs_b, hw]
    · rw [zWs_n q, hz 46 i (by omega) (by omega), h4 i i0 i1]
  · rw [hz 47 _ (by omega) (by omega), hz 48 _ (by omega) (by omega)]
    exact h5 i c i0 i1 c0 c1
theorem zw22.w {b : Int} {σ τ : zHp} (h : zw22 b σ τ) (v : Int) : zw22 b σ (zput τ 46 b v) := fun x y h1 h2 => by rw [zput_n h2, h x y h1 h2]
theorem zw22.t {b : Int} {σ τ : zHp} (h : zw22 b σ τ) (v : Int) : zw22 b σ (zput τ 37 22 v) := fun x y h1 h2 => by rw [zput_n h1, h x y h1 h2]
theorem zw22.back {b : Int} {σ τ : zHp} (h : zw22 b σ τ) : z22 σ (zput τ 46 b (σ 46 b)) := fun x y h1 => by
  by_cases q : x = 46 ∧ y = b
  · rw [q.1, q.2, zput_self]
  · rw [zput_n q, h x y h1 q]
theorem v_wnC {υ : zHp} {b c was l k : Int} : lc_X9_winsBy_1 [37, b, c, was, l, k] υ = some (decide (k ≤ 99 ∧ l = -9), υ) := by
  by_cases p : k ≤ 99 <;> by_cases q : l = -9 <;> simp [lc_X9_winsBy_1, xC_e, xL_e, xU_e, xB_e, xD_e, xF_e, xG_e, xA_e, xE_e, xH_e, xI_e, xZ_e, xK_e, aN_e, aC_e, cR_e, cV_e, cA_e, cO_e, cN_e, bs_e, bn_e, zg_0, zg_S, sS_e, sX_e, sF_e, sG_e, sA_e, sE_e, sEo_e, sK_e, sQ_e, sI_e, sR_e, sV_e, sB_e, sC_e, sD_e, sN_e, sP_e, sY_e, st_0, st_S, zc_0, zc_S, r_eq, r_ne, r_lt, r_le, r_gt, r_ge, rb_ite, rb_0, rb_1, p, q]
theorem v_wnBody {υ τ : zHp} {b c was l k x : Int} (b7 : 0 ≤ b ∧ b < 7) (h : m_X9_whoseBy [37, c] (zput υ 46 b k) = some (x, τ)) : lf_X9_winsBy_1 [37, b, c, was, l, k] υ = some (0, [37, b, c, was, if x = b then k else -9, k], τ) := by
  by_cases p : x = b <;> simp [lf_X9_winsBy_1, xC_e, xL_e, xU_e, xB_e, xD_e, xF_e, xG_e, xA_e, xE_e, xH_e, xI_e, xZ_e, xK_e, aN_e, aC_e, cR_e, cV_e, cA_e, cO_e, cN_e, bs_e, bn_e, zg_0, zg_S, sS_e, sX_e, sF_e, sG_e, sA_e, sE_e, sEo_e, sK_e, sQ_e, sI_e, sR_e, sV_e, sB_e, sC_e, sD_e, sN_e, sP_e, sY_e, st_0, st_S, zc_0, zc_S, r_eq, r_ne, r_lt, r_le, r_gt, r_ge, rb_ite, rb_0, rb_1, b7, h, p]
theorem v_wnStep {υ : zHp} {b c was l k k2 : Int} (h : o_iadd k 1 = k2) : ls_X9_winsBy_1 [37, b, c, was, l, k] υ = some (0, [37, b, c, was, l, k2], υ) := by
  simp only [ls_X9_winsBy_1, xC_e, xL_e, xU_e, xB_e, xD_e, xF_e, xG_e, xA_e, xE_e, xH_e, xI_e, xZ_e, xK_e, aN_e, aC_e, cR_e, cV_e, cA_e, cO_e, cN_e, bs_e, bn_e, zg_0, zg_S, sS_e, sX_e, sF_e, sG_e, sA_e, sE_e, sEo_e, sK_e, sQ_e, sI_e, sR_e, sV_e, sB_e, sC_e, sD_e, sN_e, sP_e, sY_e, st_0, st_S, zc_0, zc_S, h]
theorem v_wnEval {υ τ : zHp} {b c was l k : Int} (b7 : 0 ≤ b ∧ b < 7) (hw : υ 46 b = was) (hl : sW lc_X9_winsBy_1 lf_X9_winsBy_1 ls_X9_winsBy_1 [37, b, c, was, -9, 1] υ = some (0, [37, b, c, was, l, k], τ)) : m_X9_winsBy [37, b, c] υ = some (l, zput τ 46 b was) := by
  simp [e_X9_winsBy, d_X9_winsBy, xC_e, xL_e, xU_e, xB_e, xD_e, xF_e, xG_e, xA_e, xE_e, xH_e, xI_e, xZ_e, xK_e, aN_e, aC_e, cR_e, cV_e, cA_e, cO_e, cN_e, bs_e, bn_e, zg_0, zg_S, sS_e, sX_e, sF_e, sG_e, sA_e, sE_e, sEo_e, sK_e, sQ_e, sI_e, sR_e, sV_e, sB_e, sC_e, sD_e, sN_e, sP_e, sY_e, st_0, st_S, zc_0, zc_S, r_eq, r_ne, r_lt, r_le, r_gt, r_ge, rb_ite, rb_0, rb_1, b7, hw, hl]
theorem v_wn {σ : zHp} {n C : Nat} {K F ea : Int} {W : Int → Int} {P Q G : Int → Int → Int} (hR : zRp σ n C ea W P Q) (hP : zPc n C K F ea P Q G) (hW : zWt n W) {b c : Int} (hb : 0 ≤ b ∧ b < n) (hc : 0 ≤ c ∧ c < C) : ∃ τ, m_X9_winsBy [37, b, c] σ = some (zFst (zWn F W G n b c) 99, τ) ∧ z22 σ τ := by
  have n7 := hP.1
  have g := (hP.2.2.2.2.2 b c hb.1 hb.2 hc.1 hc.2).2.2.1
  have hl := zl_m (c := lc_X9_winsBy_1) (f := lf_X9_winsBy_1) (s := ls_X9_winsBy_1) (fun k e τ => zw22 b σ τ ∧ k ≤ 99 ∧ ∃ l : Int, e = [37, b, c, σ 46 b, l, 1 + (k : Int)] ∧ l = zFst (zWn F W G n b c) k)
    (fun t e τ => zw22 b σ τ ∧ t = 0 ∧ ∃ k : Int, e = [37, b, c, σ 46 b, zFst (zWn F W G n b c) 99, k]) 99 (e := [37, b, c, σ 46 b, -9, 1]) (σ := σ) ⟨fun _ _ _ _ => rfl, by decide, -9, rfl, rfl⟩
    (by
      rintro k e τ ⟨hz, hk, l, rfl, hl⟩
      by_cases q : k < 99 ∧ l = -9
      · refine Or.inr ⟨q.1, τ, by rw [v_wnC, decide_eq_true ⟨by omega, q.2⟩], ?_⟩
        have hz2 := hz.w (1 + (k : Int))
        have hR2 := zRp_w hR hz2 (zput_self _ _ _ _)
        have wb := v_wb hR2 hP (zWs_W hW (by omega)) hc
        have body := v_wnBody (υ := τ) (was := σ 46 b) (l := l) (by omega) wb
        refine ⟨0, _, _, body, Or.inr ⟨Or.inl rfl, _, _, v_wnStep (k2 := 1 + ((k + 1 : Nat) : Int)) ?_, hz2.t _, by omega, _, rfl, ?_⟩⟩
        · have : o_iadd (1 + (k : Int)) 1 = 1 + (k : Int) + 1 := w32_id ⟨by omega, by omega⟩
          omega
        · rw [zFst_S, ← hl, if_pos q.2]
          have o := (zWh_own (F := F) (L := zLd (zWs W b (1 + (k : Int))) G c) hb).trans (zOwn_br (F := F) (W := W) (n := n) (w := 1 + (k : Int)) (by omega) g.1)
          by_cases p : zBr F (zLd W G c) b b n < (1 + (k : Int)) * G b c
          · rw [if_pos (o.mpr p), if_pos (show zWn F W G n b c k = true from decide_eq_true p), Int.add_comm]
          · rw [if_neg (fun z => p (o.mp z)), if_neg (by unfold zWn; rw [decide_eq_false p]; decide)]
      · refine Or.inl ⟨τ, by rw [v_wnC, decide_eq_false (by omega)], hz, rfl, 1 + (k : Int), ?_⟩
        by_cases q2 : k = 99
        · rw [hl, q2]
        · have q3 : l ≠ -9 := fun z => q ⟨by omega, z⟩
          have : zFst (zWn F W G n b c) 99 = l := by
            have key : ∀ j : Nat, zFst (zWn F W G n b c) (k + j) = l := by
              intro j
              induction j with
              | zero => exact hl.symm
              | succ j ih =>
                show zFst _ (k + j + 1) = l
                rw [zFst_S, ih, if_neg q3]
            have := key (99 - k)
            rw [show k + (99 - k) = 99 by omega] at this
            exact this
          rw [this])
    (zf_lt (by decide))
  obtain ⟨t, e, τ, hl, hz, rfl, k, rfl⟩ := hl
  exact ⟨_, v_wnEval (by omega) rfl hl, hz.back⟩
theorem zp11 : zp_11 zInv := by
  intro b c w hbr hcr hwr σ hI
  have nN := zN_eq hI.2.2.1
  have hN := zI3 hI
  obtain ⟨nb1, nb2⟩ := zNb_e hI
  obtain ⟨nc1, nc2⟩ := zNc_e hI
  have ha : zOkA [0, 0, 0] [b, c, w] := ⟨hbr, hcr, hwr, trivial⟩
  by_cases g1 : (0 ≤ b ∧ b < σ 6 0) ∧ (0 ≤ c ∧ c < σ 1 2)
  case neg =>
    refine zq k_X8_wins k_X9_wins hI ha (r := -1) (σ1 := σ) (σ2 := σ) ?_ ?_ (zSame.rf σ) (zSame.rf σ)
    · by_cases g2 : 0 ≤ b ∧ b < σ 6 0
      · have g3 : ¬ (0 ≤ c ∧ c < σ 1 2) := fun z => g1 ⟨g2, z⟩
        simp [e_X8_wins, d_X8_wins, xC_e, xL_e, xU_e, xB_e, xD_e, xF_e, xG_e, xA_e, xE_e, xH_e, xI_e, xZ_e, xK_e, aN_e, aC_e, cR_e, cV_e, cA_e, cO_e, cN_e, bs_e, bn_e, zg_0, zg_S, sS_e, sX_e, sF_e, sG_e, sA_e, sE_e, sEo_e, sK_e, sQ_e, sI_e, sR_e, sV_e, sB_e, sC_e, sD_e, sN_e, sP_e, sY_e, st_0, st_S, zc_0, zc_S, r_eq, r_ne, r_lt, r_le, r_gt, r_ge, rb_ite, rb_0, rb_1, w_isBell_t g2, w_isCell_f g3]
      · simp [e_X8_wins, d_X8_wins, xC_e, xL_e, xU_e, xB_e, xD_e, xF_e, xG_e, xA_e, xE_e, xH_e, xI_e, xZ_e, xK_e, aN_e, aC_e, cR_e, cV_e, cA_e, cO_e, cN_e, bs_e, bn_e, zg_0, zg_S, sS_e, sX_e, sF_e, sG_e, sA_e, sE_e, sEo_e, sK_e, sQ_e, sI_e, sR_e, sV_e, sB_e, sC_e, sD_e, sN_e, sP_e, sY_e, st_0, st_S, zc_0, zc_S, r_eq, r_ne, r_lt, r_le, r_gt, r_ge, rb_ite, rb_0, rb_1, w_isBell_f g2]
    · by_cases g2 : 0 ≤ b ∧ b < σ 37 14
      · have g3 : ¬ (0 ≤ c ∧ c < w32 (σ 37 5 * σ 37 6)) := fun z => g1 ⟨by rw [← hN.1]; exact g2, by rw [← nN.1]; exact z⟩
        simp [e_X9_wins, d_X9_wins, xC_e, xL_e, xU_e, xB_e, xD_e, xF_e, xG_e, xA_e, xE_e, xH_e, xI_e, xZ_e, xK_e, aN_e, aC_e, cR_e, cV_e, cA_e, cO_e, cN_e, bs_e, bn_e, zg_0, zg_S, sS_e, sX_e, sF_e, sG_e, sA_e, sE_e, sEo_e, sK_e, sQ_e, sI_e, sR_e, sV_e, sB_e, sC_e, sD_e, sN_e, sP_e, sY_e, st_0, st_S, zc_0, zc_S, r_eq, r_ne, r_lt, r_le, r_gt, r_ge, rb_ite, rb_0, rb_1, v_isBell_t g2, v_isCell_f g3]
      · simp [e_X9_wins, d_X9_wins, xC_e, xL_e, xU_e, xB_e, xD_e, xF_e, xG_e, xA_e, xE_e, xH_e, xI_e, xZ_e, xK_e, aN_e, aC_e, cR_e, cV_e, cA_e, cO_e, cN_e, bs_e, bn_e, zg_0, zg_S, sS_e, sX_e, sF_e, sG_e, sA_e, sE_e, sEo_e, sK_e, sQ_e, sI_e, sR_e, sV_e, sB_e, sC_e, sD_e, sN_e, sP_e, sY_e, st_0, st_S, zc_0, zc_S, r_eq, r_ne, r_lt, r_le, r_gt, r_ge, rb_ite, rb_0, rb_1, v_isBell_f g2]
  obtain ⟨g1, g3⟩ := g1
  have g1' : 0 ≤ b ∧ b < σ 37 14 := by rw [hN.1]; exact g1
  have g3' : 0 ≤ c ∧ c < w32 (σ 37 5 * σ 37 6) := by rw [nN.1]; exact g3
  by_cases g2 : 0 ≤ w ∧ w ≤ 39
  case neg =>
    refine zq k_X8_wins k_X9_wins hI ha (r := -2) (σ1 := σ) (σ2 := σ) ?_ ?_ (zSame.rf σ) (zSame.rf σ)
    · simp [e_X8_wins, d_X8_wins, xC_e, xL_e, xU_e, xB_e, xD_e, xF_e, xG_e, xA_e, xE_e, xH_e, xI_e, xZ_e, xK_e, aN_e, aC_e, cR_e, cV_e, cA_e, cO_e, cN_e, bs_e, bn_e, zg_0, zg_S, sS_e, sX_e, sF_e, sG_e, sA_e, sE_e, sEo_e, sK_e, sQ_e, sI_e, sR_e, sV_e, sB_e, sC_e, sD_e, sN_e, sP_e, sY_e, st_0, st_S, zc_0, zc_S, r_eq, r_ne, r_lt, r_le, r_gt, r_ge, rb_ite, rb_0, rb_1, w_isBell_t g1, w_isCell_t g3, w_isWind_f g2]
    · simp [e_X9_wins, d_X9_wins, xC_e, xL_e, xU_e, xB_e, xD_e, xF_e, xG_e, xA_e, xE_e, xH_e, xI_e, xZ_e, xK_e, aN_e, aC_e, cR_e, cV_e, cA_e, cO_e, cN_e, bs_e, bn_e, zg_0, zg_S, sS_e, sX_e, sF_e, sG_e, sA_e, sE_e, sEo_e, sK_e, sQ_e, sI_e, sR_e, sV_e, sB_e, sC_e, sD_e, sN_e, sP_e, sY_e, st_0, st_S, zc_0, zc_S, r_eq, r_ne, r_lt, r_le, r_gt, r_ge, rb_ite, rb_0, rb_1, v_isBell_t g1', v_isCell_t g3', v_isWind_f g2]
  obtain ⟨τ, t1, t2, t3⟩ := zBlow hI g2
  obtain ⟨υ, u1, u2, u3⟩ := zLay hI t2 g2
  have hW := zWt_I hI
  have x1 := w_lto t3 (zCq_I hI g2) hW (b := b) (c := c) (by omega) (by omega)
  obtain ⟨υ2, x2, x3⟩ := v_wn u3 (zPc_I hI g2) hW (b := b) (c := c) (by omega) (by omega)
  refine zq k_X8_wins k_X9_wins hI ha (r := zFst (zWn (zFF σ w) (σ 9) (zGG σ w) (zNb σ) b c) 99) (σ1 := τ) (σ2 := υ2) ?_ ?_ t2 (u2.tr x3.same)
  · simp [e_X8_wins, d_X8_wins, xC_e, xL_e, xU_e, xB_e, xD_e, xF_e, xG_e, xA_e, xE_e, xH_e, xI_e, xZ_e, xK_e, aN_e, aC_e, cR_e, cV_e, cA_e, cO_e, cN_e, bs_e, bn_e, zg_0, zg_S, sS_e, sX_e, sF_e, sG_e, sA_e, sE_e, sEo_e, sK_e, sQ_e, sI_e, sR_e, sV_e, sB_e, sC_e, sD_e, sN_e, sP_e, sY_e, st_0, st_S, zc_0, zc_S, r_eq, r_ne, r_lt, r_le, r_gt, r_ge, rb_ite, rb_0, rb_1, w_isBell_t g1, w_isCell_t g3, w_isWind_t g2, t1, x1]
  · have g1'' : 0 ≤ b ∧ b < τ 37 14 := by rw [t2 37 14 rfl]; exact g1'
    have g3'' : 0 ≤ c ∧ c < w32 (τ 37 5 * τ 37 6) := by rw [t2 37 5 rfl, t2 37 6 rfl]; exact g3'
    simp [e_X9_wins, d_X9_wins, xC_e, xL_e, xU_e, xB_e, xD_e, xF_e, xG_e, xA_e, xE_e, xH_e, xI_e, xZ_e, xK_e, aN_e, aC_e, cR_e, cV_e, cA_e, cO_e, cN_e, bs_e, bn_e, zg_0, zg_S, sS_e, sX_e, sF_e, sG_e, sA_e, sE_e, sEo_e, sK_e, sQ_e, sI_e, sR_e, sV_e, sB_e, sC_e, sD_e, sN_e, sP_e, sY_e, st_0, st_S, zc_0, zc_S, r_eq, r_ne, r_lt, r_le, r_gt, r_ge, rb_ite, rb_0, rb_1, v_isBell_t g1'', v_isCell_t g3'', v_isWind_t g2, u1, x2]
/-! the cheapest -/
def zCh (f W : Int → Int) : Nat → Int × Int
  | 0 => (-9, -9)
  | k + 1 => if f k ≠ -9 ∧ ((zCh f W k).1 = -9 ∨ max 0 (f k - W k) < (zCh f W k).2) then ((k : Int), max 0 (f k - W k)) else zCh f W k
theorem w_chBody {υ : zHp} {c w q be le k f wk : Int} (k6 : 0 ≤ k ∧ k < 6) (hw : υ 9 k = wk) (hwk : 1 ≤ wk ∧ wk ≤ 99) (hf : -9 ≤ f ∧ f ≤ 99) (h : m_X0_leastToOwn [10, k, c] υ = some (f, υ)) : lf_X8_cheapest_1 [0, c, w, q, be, le, k, 0, 0] υ = some (0, if f ≠ -9 ∧ (be = -9 ∨ max 0 (f - wk) < le) then [0, c, w, q, k, max 0 (f - wk), k, 0, 0] else [0, c, w, q, be, le, k, 0, 0], υ) := by
  have e : o_isub f wk = f - wk := w32_id ⟨by omega, by omega⟩
  by_cases p : f = -9
  · simp [lf_X8_cheapest_1, xC_e, xL_e, xU_e, xB_e, xD_e, xF_e, xG_e, xA_e, xE_e, xH_e, xI_e, xZ_e, xK_e, aN_e, aC_e, cR_e, cV_e, cA_e, cO_e, cN_e, bs_e, bn_e, zg_0, zg_S, sS_e, sX_e, sF_e, sG_e, sA_e, sE_e, sEo_e, sK_e, sQ_e, sI_e, sR_e, sV_e, sB_e, sC_e, sD_e, sN_e, sP_e, sY_e, st_0, st_S, zc_0, zc_S, r_eq, r_ne, r_lt, r_le, r_gt, r_ge, rb_ite, rb_0, rb_1, k6, hw, h, e, p]
  · by_cases p2 : be = -9
    · simp [lf_X8_cheapest_1, xC_e, xL_e, xU_e, xB_e, xD_e, xF_e, xG_e, xA_e, xE_e, xH_e, xI_e, xZ_e, xK_e, aN_e, aC_e, cR_e, cV_e, cA_e, cO_e, cN_e, bs_e, bn_e, zg_0, zg_S, sS_e, sX_e, sF_e, sG_e, sA_e, sE_e, sEo_e, sK_e, sQ_e, sI_e, sR_e, sV_e, sB_e, sC_e, sD_e, sN_e, sP_e, sY_e, st_0, st_S, zc_0, zc_S, r_eq, r_ne, r_lt, r_le, r_gt, r_ge, rb_ite, rb_0, rb_1, k6, hw, h, e, p, p2, o_max_e]
    · by_cases p3 : max 0 (f - wk) < le
      · simp [lf_X8_cheapest_1, xC_e, xL_e, xU_e, xB_e, xD_e, xF_e, xG_e, xA_e, xE_e, xH_e, xI_e, xZ_e, xK_e, aN_e, aC_e, cR_e, cV_e, cA_e, cO_e, cN_e, bs_e, bn_e, zg_0, zg_S, sS_e, sX_e, sF_e, sG_e, sA_e, sE_e, sEo_e, sK_e, sQ_e, sI_e, sR_e, sV_e, sB_e, sC_e, sD_e, sN_e, sP_e, sY_e, st_0, st_S, zc_0, zc_S, r_eq, r_ne, r_lt, r_le, r_gt, r_ge, rb_ite, rb_0, rb_1, k6, hw, h, e, p, p2, p3, o_max_e]
      · simp [lf_X8_cheapest_1, xC_e, xL_e, xU_e, xB_e, xD_e, xF_e, xG_e, xA_e, xE_e, xH_e, xI_e, xZ_e, xK_e, aN_e, aC_e, cR_e, cV_e, cA_e, cO_e, cN_e, bs_e, bn_e, zg_0, zg_S, sS_e, sX_e, sF_e, sG_e, sA_e, sE_e, sEo_e, sK_e, sQ_e, sI_e, sR_e, sV_e, sB_e, sC_e, sD_e, sN_e, sP_e, sY_e, st_0, st_S, zc_0, zc_S, r_eq, r_ne, r_lt, r_le, r_gt, r_ge, rb_ite, rb_0, rb_1, k6, hw, h, e, p, p2, p3, o_max_e]
theorem v_chBody {υ τ : zHp} {c w q be le k f wk : Int} (k6 : 0 ≤ k ∧ k < 7) (hw : τ 46 k = wk) (hwk : 1 ≤ wk ∧ wk ≤ 99) (hf : -9 ≤ f ∧ f ≤ 99) (h : m_X9_winsBy [37, k, c] υ = some (f, τ)) : lf_X9_cheapest_1 [37, c, w, q, be, le, k, 0, 0] υ = some (0, if f ≠ -9 ∧ (be = -9 ∨ max 0 (f - wk) < le) then [37, c, w, q, k, max 0 (f - wk), k, 0, 0] else [37, c, w, q, be, le, k, 0, 0], τ) := by
  have e : o_isub f wk = f - wk := w32_id ⟨by omega, by omega⟩
  by_cases p : f = -9
  · simp [lf_X9_cheapest_1, xC_e, xL_e, xU_e, xB_e, xD_e, xF_e, xG_e, xA_e, xE_e, xH_e, xI_e, xZ_e, xK_e, aN_e, aC_e, cR_e, cV_e, cA_e, cO_e, cN_e, bs_e, bn_e, zg_0, zg_S, sS_e, sX_e, sF_e, sG_e, sA_e, sE_e, sEo_e, sK_e, sQ_e, sI_e, sR_e, sV_e, sB_e, sC_e, sD_e, sN_e, sP_e, sY_e, st_0, st_S, zc_0, zc_S, r_eq, r_ne, r_lt, r_le, r_gt, r_ge, rb_ite, rb_0, rb_1, k6, hw, h, e, p]
  · by_cases p4 : wk < f
    · have m : max 0 (f - wk) = f - wk := by omega
      rw [m]
      by_cases p2 : be = -9
      · simp [lf_X9_cheapest_1, xC_e, xL_e, xU_e, xB_e, xD_e, xF_e, xG_e, xA_e, xE_e, xH_e, xI_e, xZ_e, xK_e, aN_e, aC_e, cR_e, cV_e, cA_e, cO_e, cN_e, bs_e, bn_e, zg_0, zg_S, sS_e, sX_e, sF_e, sG_e, sA_e, sE_e, sEo_e, sK_e, sQ_e, sI_e, sR_e, sV_e, sB_e, sC_e, sD_e, sN_e, sP_e, sY_e, st_0, st_S, zc_0, zc_S, r_eq, r_ne, r_lt, r_le, r_gt, r_ge, rb_ite, rb_0, rb_1, k6, hw, h, e, p, p2, p4]
      · by_cases p3 : f - wk < le
        · simp [lf_X9_cheapest_1, xC_e, xL_e, xU_e, xB_e, xD_e, xF_e, xG_e, xA_e, xE_e, xH_e, xI_e, xZ_e, xK_e, aN_e, aC_e, cR_e, cV_e, cA_e, cO_e, cN_e, bs_e, bn_e, zg_0, zg_S, sS_e, sX_e, sF_e, sG_e, sA_e, sE_e, sEo_e, sK_e, sQ_e, sI_e, sR_e, sV_e, sB_e, sC_e, sD_e, sN_e, sP_e, sY_e, st_0, st_S, zc_0, zc_S, r_eq, r_ne, r_lt, r_le, r_gt, r_ge, rb_ite, rb_0, rb_1, k6, hw, h, e, p, p2, p3, p4]
        · simp [lf_X9_cheapest_1, xC_e, xL_e, xU_e, xB_e, xD_e, xF_e, xG_e, xA_e, xE_e, xH_e, xI_e, xZ_e, xK_e, aN_e, aC_e, cR_e, cV_e, cA_e, cO_e, cN_e, bs_e, bn_e, zg_0, zg_S, sS_e, sX_e, sF_e, sG_e, sA_e, sE_e, sEo_e, sK_e, sQ_e, sI_e, sR_e, sV_e, sB_e, sC_e, sD_e, sN_e, sP_e, sY_e, st_0, st_S, zc_0, zc_S, r_eq, r_ne, r_lt, r_le, r_gt, r_ge, rb_ite, rb_0, rb_1, k6, hw, h, e, p, p2, p3, p4]
    · have m : max 0 (f - wk) = 0 := by omega
      rw [m]
      by_cases p2 : be = -9
      · simp [lf_X9_cheapest_1, xC_e, xL_e, xU_e, xB_e, xD_e, xF_e, xG_e, xA_e, xE_e, xH_e, xI_e, xZ_e, xK_e, aN_e, aC_e, cR_e, cV_e, cA_e, cO_e, cN_e, bs_e, bn_e, zg_0, zg_S, sS_e, sX_e, sF_e, sG_e, sA_e, sE_e, sEo_e, sK_e, sQ_e, sI_e, sR_e, sV_e, sB_e, sC_e, sD_e, sN_e, sP_e, sY_e, st_0, st_S, zc_0, zc_S, r_eq, r_ne, r_lt, r_le, r_gt, r_ge, rb_ite, rb_0, rb_1, k6, hw, h, e, p, p2, p4]
      · by_cases p3 : 0 < le
        · simp [lf_X9_cheapest_1, xC_e, xL_e, xU_e, xB_e, xD_e, xF_e, xG_e, xA_e, xE_e, xH_e, xI_e, xZ_e, xK_e, aN_e, aC_e, cR_e, cV_e, cA_e, cO_e, cN_e, bs_e, bn_e, zg_0, zg_S, sS_e, sX_e, sF_e, sG_e, sA_e, sE_e, sEo_e, sK_e, sQ_e, sI_e, sR_e, sV_e, sB_e, sC_e, sD_e, sN_e, sP_e, sY_e, st_0, st_S, zc_0, zc_S, r_eq, r_ne, r_lt, r_le, r_gt, r_ge, rb_ite, rb_0, rb_1, k6, hw, h, e, p, p2, p3, p4]
        · simp [lf_X9_cheapest_1, xC_e, xL_e, xU_e, xB_e, xD_e, xF_e, xG_e, xA_e, xE_e, xH_e, xI_e, xZ_e, xK_e, aN_e, aC_e, cR_e, cV_e, cA_e, cO_e, cN_e, bs_e, bn_e, zg_0, zg_S, sS_e, sX_e, sF_e, sG_e, sA_e, sE_e, sEo_e, sK_e, sQ_e, sI_e, sR_e, sV_e, sB_e, sC_e, sD_e, sN_e, sP_e, sY_e, st_0, st_S, zc_0, zc_S, r_eq, r_ne, r_lt, r_le, r_gt, r_ge, rb_ite, rb_0, rb_1, k6, hw, h, e, p, p2, p3, p4]
theorem zp12 : zp_12 zInv := by
  intro c w q hcr hwr hqr σ hI
  have nN := zN_eq hI.2.2.1
  have hN := zI3 hI
  obtain ⟨nb1, nb2⟩ := zNb_e hI
  obtain ⟨nc1, nc2⟩ := zNc_e hI
  have ha : zOkA [0, 0, 0] [c, w, q] := ⟨hcr, hwr, hqr, trivial⟩
  by_cases g1 : 0 ≤ c ∧ c < σ 1 2
  case neg =>
    have g1' : ¬ (0 ≤ c ∧ c < w32 (σ 37 5 * σ 37 6)) := by rw [nN.1]; exact g1
    refine zq k_X8_cheapest k_X9_cheapest hI ha (r := -1) (σ1 := σ) (σ2 := σ) ?_ ?_ (zSame.rf σ) (zSame.rf σ)
    · simp [e_X8_cheapest, d_X8_cheapest, xC_e, xL_e, xU_e, xB_e, xD_e, xF_e, xG_e, xA_e, xE_e, xH_e, xI_e, xZ_e, xK_e, aN_e, aC_e, cR_e, cV_e, cA_e, cO_e, cN_e, bs_e, bn_e, zg_0, zg_S, sS_e, sX_e, sF_e, sG_e, sA_e, sE_e, sEo_e, sK_e, sQ_e, sI_e, sR_e, sV_e, sB_e, sC_e, sD_e, sN_e, sP_e, sY_e, st_0, st_S, zc_0, zc_S, r_eq, r_ne, r_lt, r_le, r_gt, r_ge, rb_ite, rb_0, rb_1, w_isCell_f g1]
    · simp [e_X9_cheapest, d_X9_cheapest, xC_e, xL_e, xU_e, xB_e, xD_e, xF_e, xG_e, xA_e, xE_e, xH_e, xI_e, xZ_e, xK_e, aN_e, aC_e, cR_e, cV_e, cA_e, cO_e, cN_e, bs_e, bn_e, zg_0, zg_S, sS_e, sX_e, sF_e, sG_e, sA_e, sE_e, sEo_e, sK_e, sQ_e, sI_e, sR_e, sV_e, sB_e, sC_e, sD_e, sN_e, sP_e, sY_e, st_0, st_S, zc_0, zc_S, r_eq, r_ne, r_lt, r_le, r_gt, r_ge, rb_ite, rb_0, rb_1, v_isCell_f g1']
  have g1' : 0 ≤ c ∧ c < w32 (σ 37 5 * σ 37 6) := by rw [nN.1]; exact g1
  by_cases g2 : (0 ≤ w ∧ w ≤ 39) ∧ (0 ≤ q ∧ q ≤ 1)
  case neg =>
    refine zq k_X8_cheapest k_X9_cheapest hI ha (r := -2) (σ1 := σ) (σ2 := σ) ?_ ?_ (zSame.rf σ) (zSame.rf σ)
    · by_cases g3 : 0 ≤ w ∧ w ≤ 39
      · have g4 : ¬ (0 ≤ q ∧ q ≤ 1) := fun z => g2 ⟨g3, z⟩
        simp [e_X8_cheapest, d_X8_cheapest, xC_e, xL_e, xU_e, xB_e, xD_e, xF_e, xG_e, xA_e, xE_e, xH_e, xI_e, xZ_e, xK_e, aN_e, aC_e, cR_e, cV_e, cA_e, cO_e, cN_e, bs_e, bn_e, zg_0, zg_S, sS_e, sX_e, sF_e, sG_e, sA_e, sE_e, sEo_e, sK_e, sQ_e, sI_e, sR_e, sV_e, sB_e, sC_e, sD_e, sN_e, sP_e, sY_e, st_0, st_S, zc_0, zc_S, r_eq, r_ne, r_lt, r_le, r_gt, r_ge, rb_ite, rb_0, rb_1, w_isCell_t g1, w_isWind_t g3, w_isOneOfTwo_f g4]
      · simp [e_X8_cheapest, d_X8_cheapest, xC_e, xL_e, xU_e, xB_e, xD_e, xF_e, xG_e, xA_e, xE_e, xH_e, xI_e, xZ_e, xK_e, aN_e, aC_e, cR_e, cV_e, cA_e, cO_e, cN_e, bs_e, bn_e, zg_0, zg_S, sS_e, sX_e, sF_e, sG_e, sA_e, sE_e, sEo_e, sK_e, sQ_e, sI_e, sR_e, sV_e, sB_e, sC_e, sD_e, sN_e, sP_e, sY_e, st_0, st_S, zc_0, zc_S, r_eq, r_ne, r_lt, r_le, r_gt, r_ge, rb_ite, rb_0, rb_1, w_isCell_t g1, w_isWind_f g3]
    · by_cases g3 : 0 ≤ w ∧ w ≤ 39
      · have g4 : ¬ (0 ≤ q ∧ q ≤ 1) := fun z => g2 ⟨g3, z⟩
        simp [e_X9_cheapest, d_X9_cheapest, xC_e, xL_e, xU_e, xB_e, xD_e, xF_e, xG_e, xA_e, xE_e, xH_e, xI_e, xZ_e, xK_e, aN_e, aC_e, cR_e, cV_e, cA_e, cO_e, cN_e, bs_e, bn_e, zg_0, zg_S, sS_e, sX_e, sF_e, sG_e, sA_e, sE_e, sEo_e, sK_e, sQ_e, sI_e, sR_e, sV_e, sB_e, sC_e, sD_e, sN_e, sP_e, sY_e, st_0, st_S, zc_0, zc_S, r_eq, r_ne, r_lt, r_le, r_gt, r_ge, rb_ite, rb_0, rb_1, v_isCell_t g1', v_isWind_t g3, v_within_f g4]
      · simp [e_X9_cheapest, d_X9_cheapest, xC_e, xL_e, xU_e, xB_e, xD_e, xF_e, xG_e, xA_e, xE_e, xH_e, xI_e, xZ_e, xK_e, aN_e, aC_e, cR_e, cV_e, cA_e, cO_e, cN_e, bs_e, bn_e, zg_0, zg_S, sS_e, sX_e, sF_e, sG_e, sA_e, sE_e, sEo_e, sK_e, sQ_e, sI_e, sR_e, sV_e, sB_e, sC_e, sD_e, sN_e, sP_e, sY_e, st_0, st_S, zc_0, zc_S, r_eq, r_ne, r_lt, r_le, r_gt, r_ge, rb_ite, rb_0, rb_1, v_isCell_t g1', v_isWind_f g3]
  obtain ⟨g2, g4⟩ := g2
  obtain ⟨τ, t1, t2, t3⟩ := zBlow hI g2
  obtain ⟨υ, u1, u2, u3⟩ := zLay hI t2 g2
  have hW := zWt_I hI
  have hQ := zCq_I hI g2
  have hP := zPc_I hI g2
  have hc : 0 ≤ c ∧ c < (zNc σ : Int) := by omega
  have hfi : ∀ b : Int, -9 ≤ zFst (zWn (zFF σ w) (σ 9) (zGG σ w) (zNb σ) b c) 99 ∧ zFst (zWn (zFF σ w) (σ 9) (zGG σ w) (zNb σ) b c) 99 ≤ 99 := fun b => by
    have := zFst_i (zWn (zFF σ w) (σ 9) (zGG σ w) (zNb σ) b c) 99
    omega
  have x1 := fun (k : Nat) (hk : k < zNb σ) => w_lto t3 hQ hW (b := (k : Int)) (c := c) (by omega) hc
  have x2 := fun (k : Nat) (hk : k < zNb σ) (x : zHp) (hx : z22 υ x) => v_wn (zRp_z u3 hx) hP hW (b := (k : Int)) (c := c) (by omega) hc
  generalize hf : (fun b : Int => zFst (zWn (zFF σ w) (σ 9) (zGG σ w) (zNb σ) b c) 99) = f
  have hfe : ∀ b, zFst (zWn (zFF σ w) (σ 9) (zGG σ w) (zNb σ) b c) 99 = f b := fun b => congrFun hf b
  have l1 := zforP (c := lc_X8_cheapest_1) (f := lf_X8_cheapest_1) (i := 6) (lo := 0) (σ := τ) (zNb σ) (fun k => [0, c, w, q, (zCh f (σ 9) k).1, (zCh f (σ 9) k).2, 0 + (k : Int), 0, 0]) (fun k => rfl) (by decide) (by omega)
    (fun k hk => zc_lt (i := 6) (x := 0 + (k : Int)) rfl (zx_G (N := (zNb σ : Nat)) t3.1) (by omega))
    (fun k hk => by
      have h := x1 k hk
      have fb := hfi (k : Int)
      rw [hfe] at h fb
      have body := w_chBody (w := w) (q := q) (be := (zCh f (σ 9) k).1) (le := (zCh f (σ 9) k).2) (by omega) (t3.2.2.2.1 k (by omega) (by omega)) (hW k (by omega) (by omega)) fb h
      rw [z0k, z0k]
      refine ⟨_, _, body, Or.inl rfl, ?_, ?_⟩
      · split <;> rfl
      · show _ = [0, c, w, q, (if _ then _ else _ : Int × Int).1, (if _ then _ else _ : Int × Int).2, _, 0, 0]
        split <;> rfl)
  have l1b : sW lc_X8_cheapest_1 lf_X8_cheapest_1 ls_X8_cheapest_1 [0, c, w, q, -9, -9, 0, 0, 0] τ = some (0, [0, c, w, q, (zCh f (σ 9) (zNb σ)).1, (zCh f (σ 9) (zNb σ)).2, 0 + (zNb σ : Int), 0, 0], τ) := l1
  obtain ⟨υ2, l2, z2⟩ := zfor0 (c := lc_X9_cheapest_1) (f := lf_X9_cheapest_1) (i := 6) (lo := 0) (σ := υ) (zNb σ) (fun k => [37, c, w, q, (zCh f (σ 9) k).1, (zCh f (σ 9) k).2, 0 + (k : Int), 0, 0]) (fun k x => z22 υ x) (z22.rf υ) (fun k => rfl) (by decide) (by omega)
    (fun k x hk hx => zc_lt (i := 6) (x := 0 + (k : Int)) rfl (zx_G (N := (zNb σ : Nat)) (zRp_z u3 hx).1) (by omega))
    (fun k x hk hx => by
      obtain ⟨x', h, hx2⟩ := x2 k hk x hx
      have hx3 : z22 υ x' := fun a b hab => by rw [hx2 a b hab, hx a b hab]
      have fb := hfi (k : Int)
      rw [hfe] at h fb
      have body := v_chBody (w := w) (q := q) (be := (zCh f (σ 9) k).1) (le := (zCh f (σ 9) k).2) (by omega) ((zRp_z u3 hx3).2.2.2.1 k (by omega) (by omega)) (hW k (by omega) (by omega)) fb h
      rw [z0k, z0k]
      refine ⟨_, _, _, body, Or.inl rfl, ?_, ?_, hx3⟩
      · split <;> rfl
      · show _ = [37, c, w, q, (if _ then _ else _ : Int × Int).1, (if _ then _ else _ : Int × Int).2, _, 0, 0]
        split <;> rfl)
  have l2b : sW lc_X9_cheapest_1 lf_X9_cheapest_1 ls_X9_cheapest_1 [37, c, w, q, -9, -9, 0, 0, 0] υ = some (0, [37, c, w, q, (zCh f (σ 9) (zNb σ)).1, (zCh f (σ 9) (zNb σ)).2, 0 + (zNb σ : Int), 0, 0], υ2) := l2
  have g1'' : 0 ≤ c ∧ c < w32 (τ 37 5 * τ 37 6) := by rw [t2 37 5 rfl, t2 37 6 rfl]; exact g1'
  generalize zCh f (σ 9) (zNb σ) = r at *
  refine zq k_X8_cheapest k_X9_cheapest hI ha (r := if q = 0 then r.1 else r.2) (σ1 := τ) (σ2 := υ2) ?_ ?_ t2 (u2.tr z2.same)
  · rcases (show q = 0 ∨ q = 1 by omega) with rfl | rfl <;> simp [e_X8_cheapest, d_X8_cheapest, xC_e, xL_e, xU_e, xB_e, xD_e, xF_e, xG_e, xA_e, xE_e, xH_e, xI_e, xZ_e, xK_e, aN_e, aC_e, cR_e, cV_e, cA_e, cO_e, cN_e, bs_e, bn_e, zg_0, zg_S, sS_e, sX_e, sF_e, sG_e, sA_e, sE_e, sEo_e, sK_e, sQ_e, sI_e, sR_e, sV_e, sB_e, sC_e, sD_e, sN_e, sP_e, sY_e, st_0, st_S, zc_0, zc_S, r_eq, r_ne, r_lt, r_le, r_gt, r_ge, rb_ite, rb_0, rb_1, w_isCell_t g1, w_isWind_t g2, w_isOneOfTwo_t g4, t1, l1b]
  · rcases (show q = 0 ∨ q = 1 by omega) with rfl | rfl <;> simp [e_X9_cheapest, d_X9_cheapest, xC_e, xL_e, xU_e, xB_e, xD_e, xF_e, xG_e, xA_e, xE_e, xH_e, xI_e, xZ_e, xK_e, aN_e, aC_e, cR_e, cV_e, cA_e, cO_e, cN_e, bs_e, bn_e, zg_0, zg_S, sS_e, sX_e, sF_e, sG_e, sA_e, sE_e, sEo_e, sK_e, sQ_e, sI_e, sR_e, sV_e, sB_e, sC_e, sD_e, sN_e, sP_e, sY_e, st_0, st_S, zc_0, zc_S, r_eq, r_ne, r_lt, r_le, r_gt, r_ge, rb_ite, rb_0, rb_1, v_isCell_t g1'', v_isWind_t g2, v_within_t g4, u1, l2b]
