/-! by what weight a bell wins a cell -/
def zFst (p : Nat → Bool) : Nat → Int
  | 0 => -9
  | n + 1 => if zFst p n = -9 then (if p n = true then (n : Int) + 1 else -9) else zFst p n
theorem zFst_S (p : Nat → Bool) (n : Nat) : zFst p (n + 1) = if zFst p n = -9 then (if p n = true then (n : Int) + 1 else -9) else zFst p n := rfl
theorem zFst_n {p : Nat → Bool} : ∀ n : Nat, (∀ k, k < n → p k = false) → zFst p n = -9
  | 0, _ => rfl
  | n + 1, h => by
    rw [zFst_S, zFst_n n (fun k hk => h k (by omega)), h n (by omega)]
    rfl
theorem zFst_i (p : Nat → Bool) : ∀ n : Nat, zFst p n = -9 ∨ (1 ≤ zFst p n ∧ zFst p n ≤ n)
  | 0 => Or.inl rfl
  | n + 1 => by
    rw [zFst_S]
    rcases zFst_i p n with h | h
    · rw [if_pos h]
      split
      · exact Or.inr ⟨by omega, by omega⟩
      · exact Or.inl rfl
    · rw [if_neg (by omega)]
      exact Or.inr ⟨h.1, by omega⟩
theorem zFst_y {p : Nat → Bool} {k : Nat} (h1 : ∀ j, j < k → p j = false) (h2 : p k = true) : ∀ n : Nat, k < n → zFst p n = (k : Int) + 1
  | 0, h => by omega
  | n + 1, h => by
    rw [zFst_S]
    by_cases q : k = n
    · subst q
      rw [if_pos (zFst_n k h1), if_pos h2]
    · rw [zFst_y h1 h2 n (by omega), if_neg (by omega)]
theorem zFst_c {p q : Nat → Bool} : ∀ n : Nat, (∀ k, k < n → p k = q k) → zFst p n = zFst q n
  | 0, _ => rfl
  | n + 1, h => by
    rw [zFst_S, zFst_S, zFst_c n (fun k hk => h k (by omega)), h n (by omega)]
def zWs (W : Int → Int) (b w : Int) : Int → Int := fun i => if i = b then w else W i
theorem zWs_b (W : Int → Int) (b w : Int) : zWs W b w b = w := if_pos rfl
theorem zWs_n {W : Int → Int} {b w i : Int} (h : i ≠ b) : zWs W b w i = W i := if_neg h
theorem zWs_id (W : Int → Int) (b : Int) : zWs W b (W b) = W := by
  funext i
  unfold zWs
  split
  · next h => rw [h]
  · rfl
theorem zWs_W {n : Nat} {W : Int → Int} {b w : Int} (hW : zWt n W) (hw : 1 ≤ w ∧ w ≤ 99) : zWt n (zWs W b w) := fun i h0 h1 => by
  unfold zWs
  split
  · exact hw
  · exact hW i h0 h1
theorem zOwn_br {F : Int} {W : Int → Int} {G : Int → Int → Int} {n : Nat} {b c w : Int} (hw : 1 ≤ w) (hG : 1 ≤ G b c) : zOwn F (zLd (zWs W b w) G c) n b ↔ zBr F (zLd W G c) b b n < w * G b c := by
  rw [zBr_s]
  have e : zLd (zWs W b w) G c b = w * G b c := by unfold zLd; rw [zWs_b]
  have p : 1 * 1 ≤ w * G b c := Int.mul_le_mul hw hG (by omega) (by omega)
  unfold zOwn
  rw [e]
  have en : ∀ x, x ≠ b → zLd (zWs W b w) G c x = zLd W G c x := fun x hx => by unfold zLd; rw [zWs_n hx]
  constructor
  · rintro ⟨h1, h2⟩
    exact ⟨by omega, h1, fun x x0 x1 xb _ => by rw [← en x xb]; exact h2 x x0 x1 xb⟩
  · rintro ⟨-, h1, h2⟩
    exact ⟨h1, fun x x0 x1 xb => by rw [en x xb]; exact h2 x x0 x1 xb xb⟩
/-- the weights by which it wins, from 1 on -/
def zWn (F : Int) (W : Int → Int) (G : Int → Int → Int) (n : Nat) (b c : Int) (k : Nat) : Bool := decide (zBr F (zLd W G c) b b n < (1 + (k : Int)) * G b c)
theorem w_ltoBody {υ : zHp} {b c br z one z2 k x : Int} (h : o_lmul k one = x) : lf_X0_leastToOwn_1 [10, b, c, br, z, one, z2, k] υ = if br < x then some (1, [k], υ) else some (0, [10, b, c, br, z, one, z2, k], υ) := by
  by_cases p : br < x <;> simp [lf_X0_leastToOwn_1, xC_e, xL_e, xU_e, xB_e, xD_e, xF_e, xG_e, xA_e, xE_e, xH_e, xI_e, xZ_e, xK_e, aN_e, aC_e, cR_e, cV_e, cA_e, cO_e, cN_e, bs_e, bn_e, zg_0, zg_S, sS_e, sX_e, sF_e, sG_e, sA_e, sE_e, sEo_e, sK_e, sQ_e, sI_e, sR_e, sV_e, sB_e, sC_e, sD_e, sN_e, st_0, st_S, zc_0, zc_S, r_eq, r_ne, r_lt, r_le, r_gt, r_ge, rb_ite, rb_0, rb_1, h, p]
theorem w_ltoEval {υ : zHp} {b c br one r : Int} {tt : Nat} {e : List Int} (b6 : 0 ≤ b ∧ b < 6) (c30 : 0 ≤ c ∧ c < 30) (h1 : m_X0_bar [10, 9, c, b, b] υ = some (br, υ)) (h2 : υ 12 (30 * b + c) = one) (hl : sW lc_X0_leastToOwn_1 lf_X0_leastToOwn_1 ls_X0_leastToOwn_1 [10, b, c, br, 0, one, 0, 1] υ = some (tt, e, υ)) (hq : (tt = 1 ∧ e = [r]) ∨ (tt = 0 ∧ r = -9)) : m_X0_leastToOwn [10, b, c] υ = some (r, υ) := by
  have z1 := (z30 (b := b) (c := c) (by omega) c30).1
  have i1 : 0 ≤ 30 * b + c ∧ 30 * b + c < 180 := by omega
  rcases hq with ⟨rfl, rfl⟩ | ⟨rfl, rfl⟩
  · simp [e_X0_leastToOwn, d_X0_leastToOwn, xC_e, xL_e, xU_e, xB_e, xD_e, xF_e, xG_e, xA_e, xE_e, xH_e, xI_e, xZ_e, xK_e, aN_e, aC_e, cR_e, cV_e, cA_e, cO_e, cN_e, bs_e, bn_e, zg_0, zg_S, sS_e, sX_e, sF_e, sG_e, sA_e, sE_e, sEo_e, sK_e, sQ_e, sI_e, sR_e, sV_e, sB_e, sC_e, sD_e, sN_e, st_0, st_S, zc_0, zc_S, r_eq, r_ne, r_lt, r_le, r_gt, r_ge, rb_ite, rb_0, rb_1, h1, z1, i1, h2, hl]
  · simp [e_X0_leastToOwn, d_X0_leastToOwn, xC_e, xL_e, xU_e, xB_e, xD_e, xF_e, xG_e, xA_e, xE_e, xH_e, xI_e, xZ_e, xK_e, aN_e, aC_e, cR_e, cV_e, cA_e, cO_e, cN_e, bs_e, bn_e, zg_0, zg_S, sS_e, sX_e, sF_e, sG_e, sA_e, sE_e, sEo_e, sK_e, sQ_e, sI_e, sR_e, sV_e, sB_e, sC_e, sD_e, sN_e, st_0, st_S, zc_0, zc_S, r_eq, r_ne, r_lt, r_le, r_gt, r_ge, rb_ite, rb_0, rb_1, h1, z1, i1, h2, hl]
theorem w_lto {σ : zHp} {n C : Nat} {F : Int} {W : Int → Int} {G : Int → Int → Int} (hC : zCp σ n C F W G) (hQ : zCq n C F G) (hW : zWt n W) {b c : Int} (hb : 0 ≤ b ∧ b < n) (hc : 0 ≤ c ∧ c < C) : m_X0_leastToOwn [10, b, c] σ = some (zFst (zWn F W G n b c) 99, σ) := by
  have n6 := hQ.1
  have c30 := hQ.2.1
  have g := hQ.2.2.2 b c hb.1 hb.2 hc.1 hc.2
  have br := w_bar hC hQ hC.2.2.2.1 hW hc b b
  have hl := zfor (c := lc_X0_leastToOwn_1) (f := lf_X0_leastToOwn_1) (i := 7) (lo := 1) 99 (fun k => [10, b, c, zBr F (zLd W G c) b b n, 0, G b c, 0, 1 + (k : Int)]) (fun k υ => υ = σ ∧ ∀ j, j < k → zWn F W G n b c j = false)
    (fun t e υ => υ = σ ∧ ((t = 1 ∧ e = [zFst (zWn F W G n b c) 99]) ∨ (t = 0 ∧ zFst (zWn F W G n b c) 99 = -9))) (σ := σ) ⟨rfl, fun j hj => by omega⟩ (fun k => rfl) (by decide) (by decide)
    (fun k υ hk h => zc_le (i := 7) (x := 1 + (k : Int)) rfl (xC_e _ _ _) (by omega))
    (fun k υ hk h => by
      obtain ⟨rfl, h2⟩ := h
      have m := zmul_i (x := 1 + (k : Int)) (y := G b c) 99 21508378785653760 (by omega) (by omega)
      have o : o_lmul (1 + (k : Int)) (G b c) = (1 + (k : Int)) * G b c := w64_id ⟨by omega, by omega⟩
      rw [w_ltoBody o]
      by_cases p : zBr F (zLd W G c) b b n < (1 + (k : Int)) * G b c
      · rw [if_pos p]
        refine Or.inl ⟨_, _, rfl, rfl, Or.inl ⟨rfl, ?_⟩⟩
        rw [zFst_y h2 (decide_eq_true p) 99 hk, Int.add_comm]
      · rw [if_neg p]
        refine Or.inr ⟨_, _, _, rfl, Or.inl rfl, rfl, rfl, rfl, fun j hj => ?_⟩
        by_cases z : j = k
        · rw [z]; exact decide_eq_false p
        · exact h2 j (by omega))
    (fun υ h => ⟨h.1, Or.inr ⟨rfl, zFst_n 99 h.2⟩⟩)
  obtain ⟨t, e, υ, hl, rfl, hq⟩ := hl
  exact w_ltoEval (by omega) (by omega) br (hC.2.2.2.2 b c hb.1 hb.2 hc.1 hc.2) hl hq
/-! the reference tries all weights -/
/-! the cheapest -/
def zCh (f W : Int → Int) : Nat → Int × Int
  | 0 => (-9, -9)
  | k + 1 => if f k ≠ -9 ∧ ((zCh f W k).1 = -9 ∨ max 0 (f k - W k) < (zCh f W k).2) then ((k : Int), max 0 (f k - W k)) else zCh f W k
theorem w_chBody {υ : zHp} {c w q be le k f wk : Int} (k6 : 0 ≤ k ∧ k < 6) (hw : υ 9 k = wk) (hwk : 1 ≤ wk ∧ wk ≤ 99) (hf : -9 ≤ f ∧ f ≤ 99) (h : m_X0_leastToOwn [10, k, c] υ = some (f, υ)) : lf_X8_cheapest_1 [0, c, w, q, be, le, k, 0, 0] υ = some (0, if f ≠ -9 ∧ (be = -9 ∨ max 0 (f - wk) < le) then [0, c, w, q, k, max 0 (f - wk), k, 0, 0] else [0, c, w, q, be, le, k, 0, 0], υ) := by
  have e : o_isub f wk = f - wk := w32_id ⟨by omega, by omega⟩
  by_cases p : f = -9
  · simp [lf_X8_cheapest_1, xC_e, xL_e, xU_e, xB_e, xD_e, xF_e, xG_e, xA_e, xE_e, xH_e, xI_e, xZ_e, xK_e, aN_e, aC_e, cR_e, cV_e, cA_e, cO_e, cN_e, bs_e, bn_e, zg_0, zg_S, sS_e, sX_e, sF_e, sG_e, sA_e, sE_e, sEo_e, sK_e, sQ_e, sI_e, sR_e, sV_e, sB_e, sC_e, sD_e, sN_e, st_0, st_S, zc_0, zc_S, r_eq, r_ne, r_lt, r_le, r_gt, r_ge, rb_ite, rb_0, rb_1, k6, hw, h, e, p]
  · by_cases p2 : be = -9
    · simp [lf_X8_cheapest_1, xC_e, xL_e, xU_e, xB_e, xD_e, xF_e, xG_e, xA_e, xE_e, xH_e, xI_e, xZ_e, xK_e, aN_e, aC_e, cR_e, cV_e, cA_e, cO_e, cN_e, bs_e, bn_e, zg_0, zg_S, sS_e, sX_e, sF_e, sG_e, sA_e, sE_e, sEo_e, sK_e, sQ_e, sI_e, sR_e, sV_e, sB_e, sC_e, sD_e, sN_e, st_0, st_S, zc_0, zc_S, r_eq, r_ne, r_lt, r_le, r_gt, r_ge, rb_ite, rb_0, rb_1, k6, hw, h, e, p, p2, o_max_e]
    · by_cases p3 : max 0 (f - wk) < le
      · simp [lf_X8_cheapest_1, xC_e, xL_e, xU_e, xB_e, xD_e, xF_e, xG_e, xA_e, xE_e, xH_e, xI_e, xZ_e, xK_e, aN_e, aC_e, cR_e, cV_e, cA_e, cO_e, cN_e, bs_e, bn_e, zg_0, zg_S, sS_e, sX_e, sF_e, sG_e, sA_e, sE_e, sEo_e, sK_e, sQ_e, sI_e, sR_e, sV_e, sB_e, sC_e, sD_e, sN_e, st_0, st_S, zc_0, zc_S, r_eq, r_ne, r_lt, r_le, r_gt, r_ge, rb_ite, rb_0, rb_1, k6, hw, h, e, p, p2, p3, o_max_e]
      · simp [lf_X8_cheapest_1, xC_e, xL_e, xU_e, xB_e, xD_e, xF_e, xG_e, xA_e, xE_e, xH_e, xI_e, xZ_e, xK_e, aN_e, aC_e, cR_e, cV_e, cA_e, cO_e, cN_e, bs_e, bn_e, zg_0, zg_S, sS_e, sX_e, sF_e, sG_e, sA_e, sE_e, sEo_e, sK_e, sQ_e, sI_e, sR_e, sV_e, sB_e, sC_e, sD_e, sN_e, st_0, st_S, zc_0, zc_S, r_eq, r_ne, r_lt, r_le, r_gt, r_ge, rb_ite, rb_0, rb_1, k6, hw, h, e, p, p2, p3, o_max_e]
