/-! land is taken: the class -/
def zHt (V : Nat → Int) (W c : Nat) : Int := V (4 + c / W * (W + 1) + c % W) - 48
theorem zdm {W r k : Nat} (hk : k < W) : (W * r + k) / W = r ∧ (W * r + k) % W = k := by
  have h0 : 0 < W := by omega
  constructor
  · rw [Nat.mul_add_div h0, Nat.div_eq_of_lt hk, Nat.add_zero]
  · rw [Nat.mul_add_mod, Nat.mod_eq_of_lt hk]
theorem zHt_e {V : Nat → Int} {W r k : Nat} (hk : k < W) : zHt V W (W * r + k) = V (4 + r * (W + 1) + k) - 48 := by
  unfold zHt
  rw [(zdm hk).1, (zdm hk).2]
/-- the first m cells are taken -/
def zTk (σ x : zHp) (V : Nat → Int) (W m : Nat) : Prop := (∀ a b : Int, a ≠ 2 → a ≠ 3 → a ≠ 4 → a ≠ 5 → x a b = σ a b) ∧ (∀ c : Nat, c < m → x 2 c = zHt V W c ∧ x 3 c = ((c / W : Nat) : Int) ∧ x 4 c = ((c % W : Nat) : Int)) ∧ ∀ h : Int, 0 ≤ h → h < 10 → x 5 h = zSt2 (fun c => decide (h < zHt V W c)) m
theorem w_tk1C {υ : zHp} {o f r k c q d : Int} (c30 : 0 ≤ c ∧ c < 30) (h : υ 2 c = d) : lc_X3_take_1 [1, o, f, r, k, c, q] υ = some (decide (q < d), υ) := by
  simp [lc_X3_take_1, xC_e, xL_e, xU_e, xB_e, xD_e, xF_e, xG_e, xA_e, xE_e, xH_e, xI_e, xZ_e, xK_e, aN_e, aC_e, cR_e, cV_e, cA_e, cO_e, cN_e, bs_e, bn_e, zg_0, zg_S, sS_e, sX_e, sF_e, sG_e, sA_e, sE_e, sEo_e, sK_e, sQ_e, sI_e, sR_e, sV_e, sB_e, sC_e, sD_e, sN_e, st_0, st_S, zc_0, zc_S, r_eq, r_ne, r_lt, r_le, r_gt, r_ge, rb_ite, rb_0, rb_1, c30, h]
theorem w_tk1Body {υ : zHp} {o f r k c q s : Int} (q10 : 0 ≤ q ∧ q < 10) (h : υ 5 q = s) : lf_X3_take_1 [1, o, f, r, k, c, q] υ = some (0, [1, o, f, r, k, c, q], zput υ 5 q (zOr s (zShl 1 c))) := by
  simp [lf_X3_take_1, xC_e, xL_e, xU_e, xB_e, xD_e, xF_e, xG_e, xA_e, xE_e, xH_e, xI_e, xZ_e, xK_e, aN_e, aC_e, cR_e, cV_e, cA_e, cO_e, cN_e, bs_e, bn_e, zg_0, zg_S, sS_e, sX_e, sF_e, sG_e, sA_e, sE_e, sEo_e, sK_e, sQ_e, sI_e, sR_e, sV_e, sB_e, sC_e, sD_e, sN_e, st_0, st_S, zc_0, zc_S, q10, h]
theorem w_tk1 {σ : zHp} {c : Nat} (hc : c < 30) {d : Nat} (hd : σ 2 c = d) (d9 : d ≤ 9) (o f r k : Int) : ∃ τ, sW lc_X3_take_1 lf_X3_take_1 ls_X3_take_1 [1, o, f, r, k, (c : Int), 0] σ = some (0, [1, o, f, r, k, (c : Int), 0 + (d : Int)], τ) ∧ (∀ a b : Int, a ≠ 5 → τ a b = σ a b) ∧ ∀ h : Int, 0 ≤ h → h < 10 → τ 5 h = if h < d then zOr (σ 5 h) (zShl 1 c) else σ 5 h := by
  obtain ⟨τ, l, z1, z2⟩ := zfor0 (c := lc_X3_take_1) (f := lf_X3_take_1) (i := 6) (lo := 0) (σ := σ) d (fun j => [1, o, f, r, k, (c : Int), 0 + (j : Int)]) (fun j x => (∀ a b : Int, a ≠ 5 → x a b = σ a b) ∧ ∀ h : Int, 0 ≤ h → h < 10 → x 5 h = if h < j then zOr (σ 5 h) (zShl 1 c) else σ 5 h) ⟨fun _ _ _ => rfl, fun h h0 h1 => by rw [if_neg (show ¬ h < ((0 : Nat) : Int) by omega)]⟩ (fun j => rfl) (by decide) (by omega)
    (fun j x hj hx => by
      rw [w_tk1C (d := (d : Int)) (by omega) (by rw [hx.1 2 c (by decide)]; exact hd)]
      have : (0 + (j : Int) < (d : Int)) ↔ j < d := by omega
      simp only [this])
    (fun j x hj hx => by
      obtain ⟨x1, x2⟩ := hx
      have s := x2 (j : Int) (by omega) (by omega)
      rw [if_neg (show ¬ (j : Int) < (j : Int) by omega)] at s
      have body := w_tk1Body (o := o) (f := f) (r := r) (k := k) (c := (c : Int)) (q := (j : Int)) (by omega) s
      rw [z0k, z0k]
      refine ⟨_, _, _, body, Or.inl rfl, rfl, rfl, fun a b h => by rw [zput_o h]; exact x1 a b h, fun h h0 h1 => ?_⟩
      by_cases z : h = (j : Int)
      · rw [z, zput_self, if_pos (show (j : Int) < ((j + 1 : Nat) : Int) by omega)]
      · rw [zput_i z, x2 h h0 h1]
        by_cases y : h < (j : Int)
        · rw [if_pos y, if_pos (show h < ((j + 1 : Nat) : Int) by omega)]
        · rw [if_neg y, if_neg (show ¬ h < ((j + 1 : Nat) : Int) by omega)])
  exact ⟨τ, l, z1, z2⟩
theorem w_tk2Body {υ z : zHp} {o f r k W c ix v d t1 q : Int} (hW : υ 1 1 = W) (hc : o_iadd (o_imul r W) k = c) (c30 : 0 ≤ c ∧ c < 30) (e1 : o_iadd (o_iadd f 4) (o_imul r (o_iadd W 1)) = t1) (e2 : o_iadd t1 k = ix) (i60 : 0 ≤ ix ∧ ix < 60) (o5 : 30 ≤ o) (hv : υ o ix = v) (hd : o_isub v 48 = d)
    (hl : sW lc_X3_take_1 lf_X3_take_1 ls_X3_take_1 [1, o, f, r, k, c, 0] (zput (zput (zput υ 3 c r) 4 c k) 2 c d) = some (0, [1, o, f, r, k, c, q], z)) : lf_X3_take_2 [1, o, f, r, k, 0, 0] υ = some (0, [1, o, f, r, k, 0, 0], z) := by
  have w1 : zput (zput υ 3 c r) 4 c k 1 1 = W := by rw [zput_o (by decide), zput_o (by decide)]; exact hW
  have w2 : zput (zput υ 3 c r) 4 c k o ix = v := by rw [zput_o (by omega), zput_o (by omega)]; exact hv
  simp [lf_X3_take_2, xC_e, xL_e, xU_e, xB_e, xD_e, xF_e, xG_e, xA_e, xE_e, xH_e, xI_e, xZ_e, xK_e, aN_e, aC_e, cR_e, cV_e, cA_e, cO_e, cN_e, bs_e, bn_e, zg_0, zg_S, sS_e, sX_e, sF_e, sG_e, sA_e, sE_e, sEo_e, sK_e, sQ_e, sI_e, sR_e, sV_e, sB_e, sC_e, sD_e, sN_e, st_0, st_S, zc_0, zc_S, hW, hc, c30, w1, e1, e2, i60, w2, hd, hl]
theorem w_tk3Body {υ z : zHp} {o f r k : Int} (hl : sW lc_X3_take_2 lf_X3_take_2 ls_X3_take_2 [1, o, f, r, 0, 0, 0] υ = some (0, [1, o, f, r, k, 0, 0], z)) : lf_X3_take_3 [1, o, f, r, 0, 0, 0] υ = some (0, [1, o, f, r, 0, 0, 0], z) := by
  simp [lf_X3_take_3, xC_e, xL_e, xU_e, xB_e, xD_e, xF_e, xG_e, xA_e, xE_e, xH_e, xI_e, xZ_e, xK_e, aN_e, aC_e, cR_e, cV_e, cA_e, cO_e, cN_e, bs_e, bn_e, zg_0, zg_S, sS_e, sX_e, sF_e, sG_e, sA_e, sE_e, sEo_e, sK_e, sQ_e, sI_e, sR_e, sV_e, sB_e, sC_e, sD_e, sN_e, st_0, st_S, zc_0, zc_S, hl]
theorem w_fl10 (o v : Int) (ho : o = 5) (σ : zHp) : m_J7_fill_53178_a [o, v] σ = some (0, zfill σ 5 0 10 v) := by
  subst ho
  have hl := zl_seq (c := lc_J7_fill_53178_a_1) (f := lf_J7_fill_53178_a_1) (s := ls_J7_fill_53178_a_1) (fun k => [5, v, (k : Int), 10]) (fun k => zfill σ 5 0 (k : Int) v) 10
    (fun k hk => by
      have : (k : Int) < 10 := by omega
      simp [lc_J7_fill_53178_a_1, xC_e, xL_e, xU_e, xB_e, xD_e, xF_e, xG_e, xA_e, xE_e, xH_e, xI_e, xZ_e, xK_e, aN_e, aC_e, cR_e, cV_e, cA_e, cO_e, cN_e, bs_e, bn_e, zg_0, zg_S, sS_e, sX_e, sF_e, sG_e, sA_e, sE_e, sEo_e, sK_e, sQ_e, sI_e, sR_e, sV_e, sB_e, sC_e, sD_e, sN_e, st_0, st_S, zc_0, zc_S, r_lt, this])
    (fun k hk => by
      refine ⟨0, [5, v, (k : Int), 10], zput (zfill σ 5 0 (k : Int) v) 5 k v, ?_, Or.inl rfl, ?_⟩
      · have : 0 ≤ (k : Int) ∧ (k : Int) < 10 := by omega
        simp [lf_J7_fill_53178_a_1, xC_e, xL_e, xU_e, xB_e, xD_e, xF_e, xG_e, xA_e, xE_e, xH_e, xI_e, xZ_e, xK_e, aN_e, aC_e, cR_e, cV_e, cA_e, cO_e, cN_e, bs_e, bn_e, zg_0, zg_S, sS_e, sX_e, sF_e, sG_e, sA_e, sE_e, sEo_e, sK_e, sQ_e, sI_e, sR_e, sV_e, sB_e, sC_e, sD_e, sN_e, st_0, st_S, zc_0, zc_S, this]
      · have e : o_iadd (k : Int) 1 = ((k + 1 : Nat) : Int) := zinc (by omega)
        have q := zfill_S σ 5 0 (k : Int) v (by omega)
        rw [show (0 : Int) + (k : Int) = k by omega] at q
        simp [ls_J7_fill_53178_a_1, xC_e, xL_e, xU_e, xB_e, xD_e, xF_e, xG_e, xA_e, xE_e, xH_e, xI_e, xZ_e, xK_e, aN_e, aC_e, cR_e, cV_e, cA_e, cO_e, cN_e, bs_e, bn_e, zg_0, zg_S, sS_e, sX_e, sF_e, sG_e, sA_e, sE_e, sEo_e, sK_e, sQ_e, sI_e, sR_e, sV_e, sB_e, sC_e, sD_e, sN_e, st_0, st_S, zc_0, zc_S, e, q])
    (by simp [lc_J7_fill_53178_a_1, xC_e, xL_e, xU_e, xB_e, xD_e, xF_e, xG_e, xA_e, xE_e, xH_e, xI_e, xZ_e, xK_e, aN_e, aC_e, cR_e, cV_e, cA_e, cO_e, cN_e, bs_e, bn_e, zg_0, zg_S, sS_e, sX_e, sF_e, sG_e, sA_e, sE_e, sEo_e, sK_e, sQ_e, sI_e, sR_e, sV_e, sB_e, sC_e, sD_e, sN_e, st_0, st_S, zc_0, zc_S, r_lt])
    (zf_lt (by decide))
  have hl2 : sW lc_J7_fill_53178_a_1 lf_J7_fill_53178_a_1 ls_J7_fill_53178_a_1 [5, v, 0, 10] σ = some (0, [5, v, 10, 10], zfill σ 5 0 10 v) := by
    have := hl
    simp only [Int.natCast_zero, zfill_0] at this
    exact this
  simp [e_J7_fill_53178_a, d_J7_fill_53178_a, xC_e, xL_e, xU_e, xB_e, xD_e, xF_e, xG_e, xA_e, xE_e, xH_e, xI_e, xZ_e, xK_e, aN_e, aC_e, cR_e, cV_e, cA_e, cO_e, cN_e, bs_e, bn_e, zg_0, zg_S, sS_e, sX_e, sF_e, sG_e, sA_e, sE_e, sEo_e, sK_e, sQ_e, sI_e, sR_e, sV_e, sB_e, sC_e, sD_e, sN_e, st_0, st_S, zc_0, zc_S, hl2]
theorem w_tkEval {υ z : zHp} {o f x1 x2 v1 v2 H W C k : Int} (o5 : 30 ≤ o) (e1 : o_iadd f 1 = x1) (e2 : o_iadd f 2 = x2) (i1 : 0 ≤ x1 ∧ x1 < 60) (i2 : 0 ≤ x2 ∧ x2 < 60) (h1 : υ o x1 = v1) (h2 : υ o x2 = v2) (d1 : o_isub v1 48 = H) (d2 : o_isub v2 48 = W) (m : o_imul H W = C)
    (hl : sW lc_X3_take_3 lf_X3_take_3 ls_X3_take_3 [1, o, f, 0, 0, 0, 0] (zfill (zput (zput (zput (zput υ 1 0 H) 1 1 W) 1 2 C) 1 3 0) 5 0 10 0) = some (0, [1, o, f, k, 0, 0, 0], z)) : m_X3_take [1, o, f] υ = some (0, z) := by
  have w2 : zput υ 1 0 H o x2 = v2 := by rw [zput_o (by omega)]; exact h2
  have a1 : zput (zput υ 1 0 H) 1 1 W 1 0 = H := by rw [zput_i (by decide), zput_self]
  have a2 : zput (zput υ 1 0 H) 1 1 W 1 1 = W := zput_self _ _ _ _
  simp [e_X3_take, d_X3_take, xC_e, xL_e, xU_e, xB_e, xD_e, xF_e, xG_e, xA_e, xE_e, xH_e, xI_e, xZ_e, xK_e, aN_e, aC_e, cR_e, cV_e, cA_e, cO_e, cN_e, bs_e, bn_e, zg_0, zg_S, sS_e, sX_e, sF_e, sG_e, sA_e, sE_e, sEo_e, sK_e, sQ_e, sI_e, sR_e, sV_e, sB_e, sC_e, sD_e, sN_e, st_0, st_S, zc_0, zc_S, e1, e2, i1, i2, h1, d1, w2, d2, a1, a2, m, w_fl10, hl]
