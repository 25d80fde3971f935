/-! land: a text, place by place -/
def zHi (V : Nat → Int) : Nat := (V 1 - 48).toNat
def zWi (V : Nat → Int) : Nat := (V 2 - 48).toNat
/-- whether a text goes on with what stands at a place -/
def zGo (V : Nat → Int) (k : Nat) : Bool :=
  if k = 0 then decide (V 0 = 103) else if k = 1 then decide (50 ≤ V 1 ∧ V 1 ≤ 53) else if k = 2 then decide (50 ≤ V 2 ∧ V 2 ≤ 54)
  else decide (k < 3 + zHi V * (1 + zWi V)) && (if (k - 3) % (1 + zWi V) = 0 then decide (V k = 59) else decide (48 ≤ V k ∧ V k ≤ 57))
/-- the first fault's place -/
def zFp (V : Nat → Int) (n q : Nat) : Prop := (∀ j, j < q → j < n ∧ zGo V j = true) ∧ ¬ (q < n ∧ zGo V q = true)
theorem zFp_u {V : Nat → Int} {n q p : Nat} (h : zFp V n q) (g : zFp V n p) : q = p := by
  rcases Nat.lt_trichotomy q p with z | z | z
  · exact absurd (g.1 q z) h.2
  · exact z
  · exact absurd (h.1 p z) g.2
theorem w48 {v : Int} (h : r32 v) : (2 ≤ o_isub v 48 ∧ o_isub v 48 ≤ 5 ↔ 50 ≤ v ∧ v ≤ 53) ∧ (2 ≤ o_isub v 48 ∧ o_isub v 48 ≤ 6 ↔ 50 ≤ v ∧ v ≤ 54) ∧ (0 ≤ o_isub v 48 ∧ o_isub v 48 ≤ 9 ↔ 48 ≤ v ∧ v ≤ 57) ∧ (48 ≤ v → o_isub v 48 = v - 48) := by
  unfold r32 at h
  unfold o_isub w32
  omega
theorem w_ff0 {υ : zHp} {o f n a b v : Int} (f60 : 0 ≤ f ∧ f < 60) (hv : υ o f = v) : lf_X3_firstFault_1 [1, o, f, n, a, b, 0, 0, 0, 0] υ = if v = 103 then some (0, [1, o, f, n, a, b, 0, 0, 0, 0], υ) else some (1, [0], υ) := by
  have e : o_iadd f 0 = f := by
    have : o_iadd f 0 = f + 0 := w32_id ⟨by omega, by omega⟩
    omega
  by_cases p : v = 103 <;> simp [lf_X3_firstFault_1, xC_e, xL_e, xU_e, xB_e, xD_e, xF_e, xG_e, xA_e, xE_e, xH_e, xI_e, xZ_e, xK_e, aN_e, aC_e, cR_e, cV_e, cA_e, cO_e, cN_e, bs_e, bn_e, zg_0, zg_S, sS_e, sX_e, sF_e, sG_e, sA_e, sE_e, sEo_e, sK_e, sQ_e, sI_e, sR_e, sV_e, sB_e, sC_e, sD_e, sN_e, st_0, st_S, zc_0, zc_S, r_eq, r_ne, r_lt, r_le, r_gt, r_ge, rb_ite, rb_0, rb_1, e, f60, hv, p, rb_0, rb_1]
theorem w_ff1 {υ : zHp} {o f n a b v d x : Int} (hx : o_iadd f 1 = x) (x60 : 0 ≤ x ∧ x < 60) (hv : υ o x = v) (hd : o_isub v 48 = d) : lf_X3_firstFault_1 [1, o, f, n, a, b, 1, 0, 0, 0] υ = if 2 ≤ d ∧ d ≤ 5 then some (0, [1, o, f, n, d, b, 1, 0, 0, 0], υ) else some (1, [1], υ) := by
  by_cases p : 2 ≤ d
  · by_cases p2 : d ≤ 5 <;> simp [lf_X3_firstFault_1, xC_e, xL_e, xU_e, xB_e, xD_e, xF_e, xG_e, xA_e, xE_e, xH_e, xI_e, xZ_e, xK_e, aN_e, aC_e, cR_e, cV_e, cA_e, cO_e, cN_e, bs_e, bn_e, zg_0, zg_S, sS_e, sX_e, sF_e, sG_e, sA_e, sE_e, sEo_e, sK_e, sQ_e, sI_e, sR_e, sV_e, sB_e, sC_e, sD_e, sN_e, st_0, st_S, zc_0, zc_S, r_eq, r_ne, r_lt, r_le, r_gt, r_ge, rb_ite, rb_0, rb_1, hx, x60, hv, hd, p, p2, rb_0, rb_1]
  · simp [lf_X3_firstFault_1, xC_e, xL_e, xU_e, xB_e, xD_e, xF_e, xG_e, xA_e, xE_e, xH_e, xI_e, xZ_e, xK_e, aN_e, aC_e, cR_e, cV_e, cA_e, cO_e, cN_e, bs_e, bn_e, zg_0, zg_S, sS_e, sX_e, sF_e, sG_e, sA_e, sE_e, sEo_e, sK_e, sQ_e, sI_e, sR_e, sV_e, sB_e, sC_e, sD_e, sN_e, st_0, st_S, zc_0, zc_S, r_eq, r_ne, r_lt, r_le, r_gt, r_ge, rb_ite, rb_0, rb_1, hx, x60, hv, hd, p, rb_0, rb_1]
theorem w_ff2 {υ : zHp} {o f n a b v d x y : Int} (hx : o_iadd f 2 = x) (x60 : 0 ≤ x ∧ x < 60) (hv : υ o x = v) (hd : o_isub v 48 = d) (hy : o_iadd 1 d = y) : lf_X3_firstFault_1 [1, o, f, n, a, b, 2, 0, 0, 0] υ = if 2 ≤ d ∧ d ≤ 6 then some (0, [1, o, f, n, a, y, 2, 0, 0, 0], υ) else some (1, [2], υ) := by
  by_cases p : 2 ≤ d
  · by_cases p2 : d ≤ 6 <;> simp [lf_X3_firstFault_1, xC_e, xL_e, xU_e, xB_e, xD_e, xF_e, xG_e, xA_e, xE_e, xH_e, xI_e, xZ_e, xK_e, aN_e, aC_e, cR_e, cV_e, cA_e, cO_e, cN_e, bs_e, bn_e, zg_0, zg_S, sS_e, sX_e, sF_e, sG_e, sA_e, sE_e, sEo_e, sK_e, sQ_e, sI_e, sR_e, sV_e, sB_e, sC_e, sD_e, sN_e, st_0, st_S, zc_0, zc_S, r_eq, r_ne, r_lt, r_le, r_gt, r_ge, rb_ite, rb_0, rb_1, hx, x60, hv, hd, hy, p, p2, rb_0, rb_1]
  · simp [lf_X3_firstFault_1, xC_e, xL_e, xU_e, xB_e, xD_e, xF_e, xG_e, xA_e, xE_e, xH_e, xI_e, xZ_e, xK_e, aN_e, aC_e, cR_e, cV_e, cA_e, cO_e, cN_e, bs_e, bn_e, zg_0, zg_S, sS_e, sX_e, sF_e, sG_e, sA_e, sE_e, sEo_e, sK_e, sQ_e, sI_e, sR_e, sV_e, sB_e, sC_e, sD_e, sN_e, st_0, st_S, zc_0, zc_S, r_eq, r_ne, r_lt, r_le, r_gt, r_ge, rb_ite, rb_0, rb_1, hx, x60, hv, hd, hy, p, rb_0, rb_1]
theorem w_ff3 {υ : zHp} {o f n a b v d x k m r : Int} (k0 : k ≠ 0) (k1 : k ≠ 1) (k2 : k ≠ 2) (hx : o_iadd f k = x) (x60 : 0 ≤ x ∧ x < 60) (hv : υ o x = v) (hd : o_isub v 48 = d) (hm : o_iadd 3 (o_imul a b) = m) (b0 : b ≠ 0) (hr : zmod (o_isub k 3) b = r) : lf_X3_firstFault_1 [1, o, f, n, a, b, k, 0, 0, 0] υ = if k < m ∧ ((r = 0 ∧ v = 59) ∨ (r ≠ 0 ∧ 0 ≤ d ∧ d ≤ 9)) then some (0, [1, o, f, n, a, b, k, 0, 0, 0], υ) else some (1, [k], υ) := by
  by_cases p : m ≤ k
  · have q : ¬ k < m := by omega
    simp [lf_X3_firstFault_1, xC_e, xL_e, xU_e, xB_e, xD_e, xF_e, xG_e, xA_e, xE_e, xH_e, xI_e, xZ_e, xK_e, aN_e, aC_e, cR_e, cV_e, cA_e, cO_e, cN_e, bs_e, bn_e, zg_0, zg_S, sS_e, sX_e, sF_e, sG_e, sA_e, sE_e, sEo_e, sK_e, sQ_e, sI_e, sR_e, sV_e, sB_e, sC_e, sD_e, sN_e, st_0, st_S, zc_0, zc_S, r_eq, r_ne, r_lt, r_le, r_gt, r_ge, rb_ite, rb_0, rb_1, k0, k1, k2, hx, x60, hv, hd, hm, p, q, rb_0, rb_1]
  · have q : k < m := by omega
    by_cases p2 : r = 0
    · by_cases p3 : v = 59
      · simp [lf_X3_firstFault_1, xC_e, xL_e, xU_e, xB_e, xD_e, xF_e, xG_e, xA_e, xE_e, xH_e, xI_e, xZ_e, xK_e, aN_e, aC_e, cR_e, cV_e, cA_e, cO_e, cN_e, bs_e, bn_e, zg_0, zg_S, sS_e, sX_e, sF_e, sG_e, sA_e, sE_e, sEo_e, sK_e, sQ_e, sI_e, sR_e, sV_e, sB_e, sC_e, sD_e, sN_e, st_0, st_S, zc_0, zc_S, r_eq, r_ne, r_lt, r_le, r_gt, r_ge, rb_ite, rb_0, rb_1, k0, k1, k2, hx, x60, hv, hd, hm, p, q, b0, hr, p2, p3, rb_0, rb_1]
      · simp [lf_X3_firstFault_1, xC_e, xL_e, xU_e, xB_e, xD_e, xF_e, xG_e, xA_e, xE_e, xH_e, xI_e, xZ_e, xK_e, aN_e, aC_e, cR_e, cV_e, cA_e, cO_e, cN_e, bs_e, bn_e, zg_0, zg_S, sS_e, sX_e, sF_e, sG_e, sA_e, sE_e, sEo_e, sK_e, sQ_e, sI_e, sR_e, sV_e, sB_e, sC_e, sD_e, sN_e, st_0, st_S, zc_0, zc_S, r_eq, r_ne, r_lt, r_le, r_gt, r_ge, rb_ite, rb_0, rb_1, k0, k1, k2, hx, x60, hv, hd, hm, p, q, b0, hr, p2, p3, rb_0, rb_1]
    · by_cases p3 : 0 ≤ d
      · by_cases p4 : d ≤ 9
        · simp [lf_X3_firstFault_1, xC_e, xL_e, xU_e, xB_e, xD_e, xF_e, xG_e, xA_e, xE_e, xH_e, xI_e, xZ_e, xK_e, aN_e, aC_e, cR_e, cV_e, cA_e, cO_e, cN_e, bs_e, bn_e, zg_0, zg_S, sS_e, sX_e, sF_e, sG_e, sA_e, sE_e, sEo_e, sK_e, sQ_e, sI_e, sR_e, sV_e, sB_e, sC_e, sD_e, sN_e, st_0, st_S, zc_0, zc_S, r_eq, r_ne, r_lt, r_le, r_gt, r_ge, rb_ite, rb_0, rb_1, k0, k1, k2, hx, x60, hv, hd, hm, p, q, b0, hr, p2, p3, p4, rb_0, rb_1]
        · simp [lf_X3_firstFault_1, xC_e, xL_e, xU_e, xB_e, xD_e, xF_e, xG_e, xA_e, xE_e, xH_e, xI_e, xZ_e, xK_e, aN_e, aC_e, cR_e, cV_e, cA_e, cO_e, cN_e, bs_e, bn_e, zg_0, zg_S, sS_e, sX_e, sF_e, sG_e, sA_e, sE_e, sEo_e, sK_e, sQ_e, sI_e, sR_e, sV_e, sB_e, sC_e, sD_e, sN_e, st_0, st_S, zc_0, zc_S, r_eq, r_ne, r_lt, r_le, r_gt, r_ge, rb_ite, rb_0, rb_1, k0, k1, k2, hx, x60, hv, hd, hm, p, q, b0, hr, p2, p3, p4, rb_0, rb_1]
      · simp [lf_X3_firstFault_1, xC_e, xL_e, xU_e, xB_e, xD_e, xF_e, xG_e, xA_e, xE_e, xH_e, xI_e, xZ_e, xK_e, aN_e, aC_e, cR_e, cV_e, cA_e, cO_e, cN_e, bs_e, bn_e, zg_0, zg_S, sS_e, sX_e, sF_e, sG_e, sA_e, sE_e, sEo_e, sK_e, sQ_e, sI_e, sR_e, sV_e, sB_e, sC_e, sD_e, sN_e, st_0, st_S, zc_0, zc_S, r_eq, r_ne, r_lt, r_le, r_gt, r_ge, rb_ite, rb_0, rb_1, k0, k1, k2, hx, x60, hv, hd, hm, p, q, b0, hr, p2, p3, rb_0, rb_1]
theorem w_ffEv1 {υ : zHp} {o f n q : Int} (hl : sW lc_X3_firstFault_1 lf_X3_firstFault_1 ls_X3_firstFault_1 [1, o, f, n, 0, 1, 0, 0, 0, 0] υ = some (1, [q], υ)) : m_X3_firstFault [1, o, f, n] υ = some (q, υ) := by
  simp [e_X3_firstFault, d_X3_firstFault, xC_e, xL_e, xU_e, xB_e, xD_e, xF_e, xG_e, xA_e, xE_e, xH_e, xI_e, xZ_e, xK_e, aN_e, aC_e, cR_e, cV_e, cA_e, cO_e, cN_e, bs_e, bn_e, zg_0, zg_S, sS_e, sX_e, sF_e, sG_e, sA_e, sE_e, sEo_e, sK_e, sQ_e, sI_e, sR_e, sV_e, sB_e, sC_e, sD_e, sN_e, st_0, st_S, zc_0, zc_S, hl]
theorem w_ffEv2 {υ : zHp} {o f n a b k m : Int} (hl : sW lc_X3_firstFault_1 lf_X3_firstFault_1 ls_X3_firstFault_1 [1, o, f, n, 0, 1, 0, 0, 0, 0] υ = some (0, [1, o, f, n, a, b, k, 0, 0, 0], υ)) (hm : o_iadd 3 (o_imul a b) = m) : m_X3_firstFault [1, o, f, n] υ = some (if 2 < n ∧ n = m then -9 else n, υ) := by
  by_cases p : 2 < n
  · by_cases p2 : n = m
    · subst p2
      simp [e_X3_firstFault, d_X3_firstFault, xC_e, xL_e, xU_e, xB_e, xD_e, xF_e, xG_e, xA_e, xE_e, xH_e, xI_e, xZ_e, xK_e, aN_e, aC_e, cR_e, cV_e, cA_e, cO_e, cN_e, bs_e, bn_e, zg_0, zg_S, sS_e, sX_e, sF_e, sG_e, sA_e, sE_e, sEo_e, sK_e, sQ_e, sI_e, sR_e, sV_e, sB_e, sC_e, sD_e, sN_e, st_0, st_S, zc_0, zc_S, r_eq, r_ne, r_lt, r_le, r_gt, r_ge, rb_ite, rb_0, rb_1, hl, p, hm]
    · simp [e_X3_firstFault, d_X3_firstFault, xC_e, xL_e, xU_e, xB_e, xD_e, xF_e, xG_e, xA_e, xE_e, xH_e, xI_e, xZ_e, xK_e, aN_e, aC_e, cR_e, cV_e, cA_e, cO_e, cN_e, bs_e, bn_e, zg_0, zg_S, sS_e, sX_e, sF_e, sG_e, sA_e, sE_e, sEo_e, sK_e, sQ_e, sI_e, sR_e, sV_e, sB_e, sC_e, sD_e, sN_e, st_0, st_S, zc_0, zc_S, r_eq, r_ne, r_lt, r_le, r_gt, r_ge, rb_ite, rb_0, rb_1, hl, p, hm, p2]
  · simp [e_X3_firstFault, d_X3_firstFault, xC_e, xL_e, xU_e, xB_e, xD_e, xF_e, xG_e, xA_e, xE_e, xH_e, xI_e, xZ_e, xK_e, aN_e, aC_e, cR_e, cV_e, cA_e, cO_e, cN_e, bs_e, bn_e, zg_0, zg_S, sS_e, sX_e, sF_e, sG_e, sA_e, sE_e, sEo_e, sK_e, sQ_e, sI_e, sR_e, sV_e, sB_e, sC_e, sD_e, sN_e, st_0, st_S, zc_0, zc_S, r_eq, r_ne, r_lt, r_le, r_gt, r_ge, rb_ite, rb_0, rb_1, hl, p]
theorem zHW {V : Nat → Int} (h1 : zGo V 1 = true) (h2 : zGo V 2 = true) : 2 ≤ zHi V ∧ zHi V ≤ 5 ∧ 2 ≤ zWi V ∧ zWi V ≤ 6 ∧ ((zHi V : Nat) : Int) = V 1 - 48 ∧ ((zWi V : Nat) : Int) = V 2 - 48 := by
  have a := of_decide_eq_true (show decide (50 ≤ V 1 ∧ V 1 ≤ 53) = true from h1)
  have b := of_decide_eq_true (show decide (50 ≤ V 2 ∧ V 2 ≤ 54) = true from h2)
  unfold zHi zWi
  omega
theorem zGo3 {V : Nat → Int} {k : Nat} (h : 3 ≤ k) : zGo V k = (decide (k < 3 + zHi V * (1 + zWi V)) && (if (k - 3) % (1 + zWi V) = 0 then decide (V k = 59) else decide (48 ≤ V k ∧ V k ≤ 57))) := by
  unfold zGo
  rw [if_neg (by omega), if_neg (by omega), if_neg (by omega)]
