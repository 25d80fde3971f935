/-! land is read: the reference -/
theorem zGo_p {V : Nat → Int} {r : Nat} (hr : r < zHi V) {j : Nat} (hj : j ≤ zWi V) : 3 + r * (zWi V + 1) + j < 3 + zHi V * (1 + zWi V) ∧ (3 + r * (zWi V + 1) + j - 3) % (1 + zWi V) = j := by
  have m1 : (r + 1) * (zWi V + 1) ≤ zHi V * (zWi V + 1) := Nat.mul_le_mul_right _ hr
  have m2 : (r + 1) * (zWi V + 1) = r * (zWi V + 1) + (zWi V + 1) := Nat.succ_mul _ _
  have m3 : zHi V * (1 + zWi V) = zHi V * (zWi V + 1) := by rw [Nat.add_comm]
  constructor
  · rw [m3]
    generalize zHi V * (zWi V + 1) = z1 at *
    generalize (r + 1) * (zWi V + 1) = z2 at *
    generalize r * (zWi V + 1) = z3 at *
    omega
  · have e : 3 + r * (zWi V + 1) + j - 3 = (1 + zWi V) * r + j := by
      rw [Nat.mul_comm (1 + zWi V) r, Nat.add_comm 1 (zWi V)]
      generalize r * (zWi V + 1) = z3
      omega
    rw [e]
    exact (zdm (by omega)).2
theorem zGo_s {V : Nat → Int} {r : Nat} (hr : r < zHi V) : zGo V (3 + r * (zWi V + 1)) = decide (V (3 + r * (zWi V + 1)) = 59) := by
  have h := zGo_p hr (j := 0) (Nat.zero_le _)
  rw [Nat.add_zero] at h
  rw [zGo3 (Nat.le_add_right _ _), decide_eq_true h.1, Bool.true_and, if_pos h.2]
theorem zGo_d {V : Nat → Int} {r k : Nat} (hr : r < zHi V) (hk : k < zWi V) : zGo V (3 + r * (zWi V + 1) + 1 + k) = decide (48 ≤ V (3 + r * (zWi V + 1) + 1 + k) ∧ V (3 + r * (zWi V + 1) + 1 + k) ≤ 57) := by
  have h := zGo_p hr (j := 1 + k) (by omega)
  rw [← Nat.add_assoc] at h
  have n0 : ¬ 1 + k = 0 := by omega
  rw [zGo3 (by generalize r * (zWi V + 1) = z; omega), decide_eq_true h.1, Bool.true_and, h.2, if_neg n0]
theorem zGo_e (V : Nat → Int) : zGo V (3 + zHi V * (1 + zWi V)) = false := by
  rw [zGo3 (Nat.le_add_right _ _), decide_eq_false (Nat.lt_irrefl _), Bool.false_and]
theorem v_code {x : zHp} {f : Int} {n p : Nat} {V : Nat → Int} {c : Int} (hat : x 37 10 = f + (p : Int)) (hf : 0 ≤ f ∧ f + (n : Int) ≤ 240) (hV : ∀ k : Nat, k < n → x 40 (f + (k : Int)) = V k) : m_X9_isCode [37, c, f + (n : Int)] x = some (if p < n ∧ V p = c then 1 else 0, x) := by
  by_cases q : p < n
  · have i : 0 ≤ f + (p : Int) ∧ f + (p : Int) < 240 := by omega
    have l : f + (p : Int) < f + (n : Int) := by omega
    have v := hV p q
    by_cases y : V p = c
    · simp only [e_X9_isCode, d_X9_isCode, xC_e, xL_e, xU_e, xB_e, xD_e, xF_e, xG_e, xA_e, xE_e, xH_e, xI_e, xZ_e, xK_e, aN_e, aC_e, cR_e, cV_e, cA_e, cO_e, cN_e, bs_e, bn_e, zg_0, zg_S, sS_e, sX_e, sF_e, sG_e, sA_e, sE_e, sEo_e, sK_e, sQ_e, sI_e, sR_e, sV_e, sB_e, sC_e, sD_e, sN_e, sP_e, sY_e, st_0, st_S, zc_0, zc_S, r_eq, r_ne, r_lt, r_le, r_gt, r_ge, rb_ite, rb_0, rb_1, hat, l, i, v, y, q, decide_true, if_true, and_self]
    · simp only [e_X9_isCode, d_X9_isCode, xC_e, xL_e, xU_e, xB_e, xD_e, xF_e, xG_e, xA_e, xE_e, xH_e, xI_e, xZ_e, xK_e, aN_e, aC_e, cR_e, cV_e, cA_e, cO_e, cN_e, bs_e, bn_e, zg_0, zg_S, sS_e, sX_e, sF_e, sG_e, sA_e, sE_e, sEo_e, sK_e, sQ_e, sI_e, sR_e, sV_e, sB_e, sC_e, sD_e, sN_e, sP_e, sY_e, st_0, st_S, zc_0, zc_S, r_eq, r_ne, r_lt, r_le, r_gt, r_ge, rb_ite, rb_0, rb_1, hat, l, i, v, y, q, decide_true, decide_false, if_true, and_self, and_false, if_false, Bool.false_eq_true]
  · have l : ¬ f + (p : Int) < f + (n : Int) := by omega
    simp only [e_X9_isCode, d_X9_isCode, xC_e, xL_e, xU_e, xB_e, xD_e, xF_e, xG_e, xA_e, xE_e, xH_e, xI_e, xZ_e, xK_e, aN_e, aC_e, cR_e, cV_e, cA_e, cO_e, cN_e, bs_e, bn_e, zg_0, zg_S, sS_e, sX_e, sF_e, sG_e, sA_e, sE_e, sEo_e, sK_e, sQ_e, sI_e, sR_e, sV_e, sB_e, sC_e, sD_e, sN_e, sP_e, sY_e, st_0, st_S, zc_0, zc_S, r_eq, r_ne, r_lt, r_le, r_gt, r_ge, rb_ite, rb_0, rb_1, hat, l, q, decide_false, false_and, if_false, Bool.false_eq_true, if_true]
theorem v_dig {x : zHp} {f : Int} {n p : Nat} {V : Nat → Int} (hf : 0 ≤ f ∧ f + (n : Int) ≤ 240) (hV : ∀ k : Nat, k < n → x 40 (f + (k : Int)) = V k) : m_X9_digitAt [37, f + (p : Int), f + (n : Int)] x = some (if p < n ∧ 48 ≤ V p ∧ V p ≤ 57 then V p - 48 else -9, x) := by
  by_cases q : p < n
  · have i : 0 ≤ f + (p : Int) ∧ f + (p : Int) < 240 := by omega
    have l : f + (p : Int) < f + (n : Int) := by omega
    have v := hV p q
    by_cases y : 48 ≤ V p ∧ V p ≤ 57
    · have e : o_isub (V p) 48 = V p - 48 := w32_id ⟨by omega, by omega⟩
      rw [if_pos ⟨q, y⟩]
      have w := v_within_t (c := V p) (lo := 48) (hi := 57) (σ := x) y
      simp [e_X9_digitAt, d_X9_digitAt, xC_e, xL_e, xU_e, xB_e, xD_e, xF_e, xG_e, xA_e, xE_e, xH_e, xI_e, xZ_e, xK_e, aN_e, aC_e, cR_e, cV_e, cA_e, cO_e, cN_e, bs_e, bn_e, zg_0, zg_S, sS_e, sX_e, sF_e, sG_e, sA_e, sE_e, sEo_e, sK_e, sQ_e, sI_e, sR_e, sV_e, sB_e, sC_e, sD_e, sN_e, sP_e, sY_e, st_0, st_S, zc_0, zc_S, r_eq, r_ne, r_lt, r_le, r_gt, r_ge, rb_ite, rb_0, rb_1, q, i, v, w, e, rb_1]
    · have w := v_within_f (c := V p) (lo := 48) (hi := 57) (σ := x) y
      rw [if_neg (fun z => y z.2)]
      simp [e_X9_digitAt, d_X9_digitAt, xC_e, xL_e, xU_e, xB_e, xD_e, xF_e, xG_e, xA_e, xE_e, xH_e, xI_e, xZ_e, xK_e, aN_e, aC_e, cR_e, cV_e, cA_e, cO_e, cN_e, bs_e, bn_e, zg_0, zg_S, sS_e, sX_e, sF_e, sG_e, sA_e, sE_e, sEo_e, sK_e, sQ_e, sI_e, sR_e, sV_e, sB_e, sC_e, sD_e, sN_e, sP_e, sY_e, st_0, st_S, zc_0, zc_S, r_eq, r_ne, r_lt, r_le, r_gt, r_ge, rb_ite, rb_0, rb_1, q, i, v, w, rb_0]
  · rw [if_neg (fun z => q z.1)]
    simp [e_X9_digitAt, d_X9_digitAt, xC_e, xL_e, xU_e, xB_e, xD_e, xF_e, xG_e, xA_e, xE_e, xH_e, xI_e, xZ_e, xK_e, aN_e, aC_e, cR_e, cV_e, cA_e, cO_e, cN_e, bs_e, bn_e, zg_0, zg_S, sS_e, sX_e, sF_e, sG_e, sA_e, sE_e, sEo_e, sK_e, sQ_e, sI_e, sR_e, sV_e, sB_e, sC_e, sD_e, sN_e, sP_e, sY_e, st_0, st_S, zc_0, zc_S, r_eq, r_ne, r_lt, r_le, r_gt, r_ge, rb_ite, rb_0, rb_1, q]
/-- what reading leaves as it was -/
def zRe (σ x : zHp) : Prop := ∀ a b : Int, a ≠ 43 → ¬ (a = 37 ∧ (b = 10 ∨ b = 11 ∨ b = 12)) → x a b = σ a b
theorem v_rd1Body0 {x : zHp} {E r k at' : Int} (hat : x 37 10 = at') (h : m_X9_digitAt [37, at', E] x = some (-9, x)) : lf_X9_readLand_1 [37, E, r, k, 0] x = some (1, [0], x) := by
  simp [lf_X9_readLand_1, xC_e, xL_e, xU_e, xB_e, xD_e, xF_e, xG_e, xA_e, xE_e, xH_e, xI_e, xZ_e, xK_e, aN_e, aC_e, cR_e, cV_e, cA_e, cO_e, cN_e, bs_e, bn_e, zg_0, zg_S, sS_e, sX_e, sF_e, sG_e, sA_e, sE_e, sEo_e, sK_e, sQ_e, sI_e, sR_e, sV_e, sB_e, sC_e, sD_e, sN_e, sP_e, sY_e, st_0, st_S, zc_0, zc_S, r_eq, r_ne, r_lt, r_le, r_gt, r_ge, rb_ite, rb_0, rb_1, hat, h]
theorem v_rd1Body1 {x : zHp} {E r k at' W c v a2 : Int} (hat : x 37 10 = at') (h : m_X9_digitAt [37, at', E] x = some (v, x)) (hv : v ≠ -9) (hW : x 37 12 = W) (hc : o_iadd (o_imul W r) k = c) (c30 : 0 ≤ c ∧ c < 30) (ha : o_iadd at' 1 = a2) : lf_X9_readLand_1 [37, E, r, k, 0] x = some (0, [37, E, r, k, 0], zput (zput x 43 c v) 37 10 a2) := by
  have e : zput x 43 c v 37 10 = at' := by rw [zput_o (by decide)]; exact hat
  simp [lf_X9_readLand_1, xC_e, xL_e, xU_e, xB_e, xD_e, xF_e, xG_e, xA_e, xE_e, xH_e, xI_e, xZ_e, xK_e, aN_e, aC_e, cR_e, cV_e, cA_e, cO_e, cN_e, bs_e, bn_e, zg_0, zg_S, sS_e, sX_e, sF_e, sG_e, sA_e, sE_e, sEo_e, sK_e, sQ_e, sI_e, sR_e, sV_e, sB_e, sC_e, sD_e, sN_e, sP_e, sY_e, st_0, st_S, zc_0, zc_S, r_eq, r_ne, r_lt, r_le, r_gt, r_ge, rb_ite, rb_0, rb_1, hat, h, hv, hW, hc, c30, e, ha]
theorem v_rd1 {σ : zHp} {f : Int} {n p0 c0 r W : Nat} {V : Nat → Int} (hf : 0 ≤ f ∧ f + (n : Int) ≤ 240) (hV : ∀ k : Nat, k < n → σ 40 (f + (k : Int)) = V k) (n60 : n ≤ 60) (hat : σ 37 10 = f + (p0 : Int)) (hW : σ 37 12 = (W : Int)) (W6 : W ≤ 6) (c30 : c0 + W ≤ 30) (hix : ∀ k, k < W → o_iadd (o_imul (W : Int) (r : Int)) (k : Int) = ((c0 + k : Nat) : Int)) (hgo : ∀ k, k < W → zGo V (p0 + k) = decide (48 ≤ V (p0 + k) ∧ V (p0 + k) ≤ 57)) (hht : ∀ k, k < W → zHt V W (c0 + k) = V (p0 + k) - 48)
    (h1 : ∀ j, j < p0 → j < n ∧ zGo V j = true) (h2 : ∀ c : Nat, c < c0 → σ 43 c = zHt V W c) :
    ∃ t e τ, sW lc_X9_readLand_1 lf_X9_readLand_1 ls_X9_readLand_1 [37, f + (n : Int), (r : Int), 0, 0] σ = some (t, e, τ) ∧ (∀ a b : Int, a ≠ 43 → ¬ (a = 37 ∧ b = 10) → τ a b = σ a b) ∧ ((t = 1 ∧ e = [0] ∧ ∃ q : Nat, τ 37 10 = f + (q : Int) ∧ zFp V n q ∧ q < p0 + W) ∨ (t = 0 ∧ e = [37, f + (n : Int), (r : Int), 0 + (W : Int), 0] ∧ τ 37 10 = f + ((p0 + W : Nat) : Int) ∧ (∀ j, j < p0 + W → j < n ∧ zGo V j = true) ∧ ∀ c : Nat, c < c0 + W → τ 43 c = zHt V W c)) := by
  have key := zfor (c := lc_X9_readLand_1) (f := lf_X9_readLand_1) (i := 3) (lo := 0) (σ := σ) W (fun k => [37, f + (n : Int), (r : Int), 0 + (k : Int), 0]) (fun k x => (∀ a b : Int, a ≠ 43 → ¬ (a = 37 ∧ b = 10) → x a b = σ a b) ∧ x 37 10 = f + ((p0 + k : Nat) : Int) ∧ (∀ j, j < p0 + k → j < n ∧ zGo V j = true) ∧ ∀ c : Nat, c < c0 + k → x 43 c = zHt V W c)
    (fun t e τ => (∀ a b : Int, a ≠ 43 → ¬ (a = 37 ∧ b = 10) → τ a b = σ a b) ∧ ((t = 1 ∧ e = [0] ∧ ∃ q : Nat, τ 37 10 = f + (q : Int) ∧ zFp V n q ∧ q < p0 + W) ∨ (t = 0 ∧ e = [37, f + (n : Int), (r : Int), 0 + (W : Int), 0] ∧ τ 37 10 = f + ((p0 + W : Nat) : Int) ∧ (∀ j, j < p0 + W → j < n ∧ zGo V j = true) ∧ ∀ c : Nat, c < c0 + W → τ 43 c = zHt V W c)))
    ⟨fun _ _ _ _ => rfl, hat, h1, h2⟩ (fun k => rfl) (by decide) (by omega)
    (fun k x hk hx => zc_lt (i := 3) (x := 0 + (k : Int)) rfl (zx_G (N := (W : Int)) (by rw [hx.1 37 12 (by decide) (by decide)]; exact hW)) (by omega))
    (fun k x hk hx => by
      obtain ⟨x1, x2, x3, x4⟩ := hx
      have xV : ∀ k : Nat, k < n → x 40 (f + (k : Int)) = V k := fun k hk => by rw [x1 40 _ (by decide) (by omega)]; exact hV k hk
      have dg := v_dig (x := x) (p := p0 + k) hf xV
      have g := hgo k hk
      have ht := hht k hk
      have ix := hix k hk
      have x12 : x 37 12 = (W : Int) := by rw [x1 37 12 (by decide) (by decide)]; exact hW
      rw [z0k, z0k]
      generalize hp : p0 + k = p at *
      by_cases y : p < n ∧ 48 ≤ V p ∧ V p ≤ 57
      · rw [if_pos y] at dg
        have a2 : o_iadd (f + (p : Int)) 1 = f + ((p + 1 : Nat) : Int) := by
          have : o_iadd (f + (p : Int)) 1 = f + (p : Int) + 1 := w32_id ⟨by omega, by omega⟩
          omega
        have body := v_rd1Body1 x2 dg (by omega) x12 ix (by omega) a2
        refine Or.inr ⟨_, _, _, body, Or.inl rfl, rfl, rfl, fun a b q1 q2 => by rw [zput_n q2, zput_o q1]; exact x1 a b q1 q2, ?_, fun j hj => ?_, fun c hc => ?_⟩
        · rw [zput_self, show p0 + (k + 1) = p + 1 by omega]
        · by_cases z : j = p
          · rw [z]; exact ⟨y.1, by rw [g]; exact decide_eq_true y.2⟩
          · exact x3 j (by omega)
        · rw [zput_o (by decide)]
          by_cases z : c = c0 + k
          · rw [z, zput_self, ht]
          · rw [zput_i (by omega)]
            exact x4 c (by omega)
      · rw [if_neg y] at dg
        have body := v_rd1Body0 (r := (r : Int)) (k := (k : Int)) x2 dg
        refine Or.inl ⟨_, _, body, x1, Or.inl ⟨rfl, rfl, p, x2, ⟨x3, fun z => y ⟨z.1, of_decide_eq_true (by rw [← g]; exact z.2)⟩⟩, by omega⟩⟩)
    (fun x hx => ⟨hx.1, Or.inr ⟨rfl, rfl, hx.2⟩⟩)
  obtain ⟨t, e, τ, k1, k2, k3⟩ := key
  exact ⟨t, e, τ, k1, k2, k3⟩
theorem v_rd2Body0 {x : zHp} {E r : Int} (h : m_X9_isCode [37, 59, E] x = some (0, x)) : lf_X9_readLand_2 [37, E, r, 0, 0] x = some (1, [0], x) := by
  simp [lf_X9_readLand_2, xC_e, xL_e, xU_e, xB_e, xD_e, xF_e, xG_e, xA_e, xE_e, xH_e, xI_e, xZ_e, xK_e, aN_e, aC_e, cR_e, cV_e, cA_e, cO_e, cN_e, bs_e, bn_e, zg_0, zg_S, sS_e, sX_e, sF_e, sG_e, sA_e, sE_e, sEo_e, sK_e, sQ_e, sI_e, sR_e, sV_e, sB_e, sC_e, sD_e, sN_e, sP_e, sY_e, st_0, st_S, zc_0, zc_S, h, rb_0]
theorem v_rd2Body1 {x y : zHp} {E r a a2 : Int} {t : Nat} {e : List Int} (h : m_X9_isCode [37, 59, E] x = some (1, x)) (hat : x 37 10 = a) (ha : o_iadd a 1 = a2) (hl : sW lc_X9_readLand_1 lf_X9_readLand_1 ls_X9_readLand_1 [37, E, r, 0, 0] (zput x 37 10 a2) = some (t, e, y)) : lf_X9_readLand_2 [37, E, r, 0, 0] x = some (if t = 1 then (1, e, y) else (t, zclr [3] e, y)) := by
  by_cases p : t = 1
  · simp [lf_X9_readLand_2, sD_e, sQ_e, sS_e, sI_e, cN_e, cV_e, xK_e, aC_e, aN_e, xC_e, xL_e, xG_e, xB_e, sG_e, sK_e, bs_e, zg_S, zg_0, st_S, st_0, h, rb_1, hat, ha, hl, p]
  · simp [lf_X9_readLand_2, sD_e, sQ_e, sS_e, sI_e, cN_e, cV_e, xK_e, aC_e, aN_e, xC_e, xL_e, xG_e, xB_e, sG_e, sK_e, bs_e, zg_S, zg_0, st_S, st_0, h, rb_1, hat, ha, hl, p]
theorem v_rd2 {σ : zHp} {f : Int} {n H W M : Nat} {P3 C0 : Nat → Nat} {V : Nat → Int} (hf : 0 ≤ f ∧ f + (n : Int) ≤ 240) (hV : ∀ k : Nat, k < n → σ 40 (f + (k : Int)) = V k) (n60 : n ≤ 60) (hat : σ 37 10 = f + (P3 0 : Int)) (hH : σ 37 11 = (H : Int)) (hW : σ 37 12 = (W : Int)) (H5 : H ≤ 5) (W6 : W ≤ 6)
    (hP : ∀ r, P3 (r + 1) = P3 r + 1 + W) (hC : ∀ r, C0 (r + 1) = C0 r + W) (C00 : C0 0 = 0) (c30 : ∀ r, r < H → C0 r + W ≤ 30) (hM : ∀ r, r < H → P3 r + 1 + W ≤ M) (hix : ∀ r k, r < H → k < W → o_iadd (o_imul (W : Int) (r : Int)) (k : Int) = ((C0 r + k : Nat) : Int)) (hgs : ∀ r, r < H → zGo V (P3 r) = decide (V (P3 r) = 59)) (hgo : ∀ r k, r < H → k < W → zGo V (P3 r + 1 + k) = decide (48 ≤ V (P3 r + 1 + k) ∧ V (P3 r + 1 + k) ≤ 57)) (hht : ∀ r k, r < H → k < W → zHt V W (C0 r + k) = V (P3 r + 1 + k) - 48)
    (h1 : ∀ j, j < P3 0 → j < n ∧ zGo V j = true) :
    ∃ t e τ, sW lc_X9_readLand_2 lf_X9_readLand_2 ls_X9_readLand_2 [37, f + (n : Int), 0, 0, 0] σ = some (t, e, τ) ∧ (∀ a b : Int, a ≠ 43 → ¬ (a = 37 ∧ b = 10) → τ a b = σ a b) ∧ ((t = 1 ∧ e = [0] ∧ ∃ q : Nat, τ 37 10 = f + (q : Int) ∧ zFp V n q ∧ q < M) ∨ (t = 0 ∧ e = [37, f + (n : Int), 0 + (H : Int), 0, 0] ∧ τ 37 10 = f + (P3 H : Int) ∧ (∀ j, j < P3 H → j < n ∧ zGo V j = true) ∧ ∀ c : Nat, c < C0 H → τ 43 c = zHt V W c)) := by
  refine zfor (c := lc_X9_readLand_2) (f := lf_X9_readLand_2) (i := 2) (lo := 0) (σ := σ) H (fun k => [37, f + (n : Int), 0 + (k : Int), 0, 0]) (fun k x => (∀ a b : Int, a ≠ 43 → ¬ (a = 37 ∧ b = 10) → x a b = σ a b) ∧ x 37 10 = f + (P3 k : Int) ∧ (∀ j, j < P3 k → j < n ∧ zGo V j = true) ∧ ∀ c : Nat, c < C0 k → x 43 c = zHt V W c)
    (fun t e τ => (∀ a b : Int, a ≠ 43 → ¬ (a = 37 ∧ b = 10) → τ a b = σ a b) ∧ ((t = 1 ∧ e = [0] ∧ ∃ q : Nat, τ 37 10 = f + (q : Int) ∧ zFp V n q ∧ q < M) ∨ (t = 0 ∧ e = [37, f + (n : Int), 0 + (H : Int), 0, 0] ∧ τ 37 10 = f + (P3 H : Int) ∧ (∀ j, j < P3 H → j < n ∧ zGo V j = true) ∧ ∀ c : Nat, c < C0 H → τ 43 c = zHt V W c)))
    ⟨fun _ _ _ _ => rfl, hat, h1, fun c hc => by rw [C00] at hc; exact absurd hc (Nat.not_lt_zero c)⟩ (fun k => rfl) (by decide) (by omega)
    (fun k x hk hx => zc_lt (i := 2) (x := 0 + (k : Int)) rfl (zx_G (N := (H : Int)) (by rw [hx.1 37 11 (by decide) (by decide)]; exact hH)) (by omega))
    (fun r x hr hx => ?_) (fun x hx => ⟨hx.1, Or.inr ⟨rfl, rfl, hx.2⟩⟩)
  obtain ⟨x1, x2, x3, x4⟩ := hx
  have xV : ∀ k : Nat, k < n → x 40 (f + (k : Int)) = V k := fun k hk => by rw [x1 40 _ (by decide) (by omega)]; exact hV k hk
  have cd := v_code (x := x) (c := 59) x2 hf xV
  have gs := hgs r hr
  have hMr := hM r hr
  rw [z0k, z0k]
  by_cases y : P3 r < n ∧ V (P3 r) = 59
  · rw [if_pos y] at cd
    have a2 : o_iadd (f + (P3 r : Int)) 1 = f + ((P3 r + 1 : Nat) : Int) := by
      have : o_iadd (f + (P3 r : Int)) 1 = f + (P3 r : Int) + 1 := w32_id ⟨by omega, by omega⟩
      omega
    obtain ⟨t, e, z, l, l1, l2⟩ := v_rd1 (σ := zput x 37 10 (f + ((P3 r + 1 : Nat) : Int))) (f := f) (n := n) (p0 := P3 r + 1) (c0 := C0 r) (r := r) (W := W) (V := V) hf (fun k hk => by rw [zput_o (by decide)]; exact xV k hk) n60 (zput_self _ _ _ _) (by rw [zput_i (by decide), x1 37 12 (by decide) (by decide)]; exact hW) W6 (c30 r hr) (fun k hk => hix r k hr hk) (fun k hk => hgo r k hr hk) (fun k hk => hht r k hr hk)
      (fun j hj => by
        by_cases q : j = P3 r
        · rw [q]; exact ⟨y.1, by rw [gs]; exact decide_eq_true y.2⟩
        · exact x3 j (by omega)) (fun c hc => by rw [zput_o (by decide)]; exact x4 c hc)
    have body := v_rd2Body1 cd x2 a2 l
    have fr : ∀ a b : Int, a ≠ 43 → ¬ (a = 37 ∧ b = 10) → z a b = σ a b := fun a b q1 q2 => by rw [l1 a b q1 q2, zput_n q2]; exact x1 a b q1 q2
    rw [body]
    rcases l2 with ⟨rfl, rfl, q, q1, q2, q3⟩ | ⟨rfl, rfl, q1, q2, q3⟩
    · exact Or.inl ⟨_, _, rfl, fr, Or.inl ⟨rfl, rfl, q, q1, q2, by omega⟩⟩
    · refine Or.inr ⟨0, [37, f + (n : Int), (r : Int), 0, 0], z, rfl, Or.inl rfl, rfl, rfl, fr, ?_, ?_, ?_⟩
      · rw [q1, hP]
      · rw [hP]; exact q2
      · rw [hC]; exact q3
  · rw [if_neg y] at cd
    exact Or.inl ⟨_, _, v_rd2Body0 cd, x1, Or.inl ⟨rfl, rfl, P3 r, x2, ⟨x3, fun z => y ⟨z.1, of_decide_eq_true (by rw [← gs]; exact z.2)⟩⟩, by omega⟩⟩
