/-! the law's own picture: loud -/
theorem sQ_s {f g : zS} {e e1 : List Int} {σ σ1 : zHp} (h : f e σ = some (0, e1, σ1)) : sQ f g e σ = g e1 σ1 := by rw [sQ_e, h]; rfl
theorem sQ_1 {f g : zS} {e e1 : List Int} {σ σ1 : zHp} (h : f e σ = some (1, e1, σ1)) : sQ f g e σ = some (1, e1, σ1) := by rw [sQ_e, h]; rfl
theorem sD_0 {f : zS} {ks : List Nat} {e e1 : List Int} {σ σ1 : zHp} (h : f e σ = some (0, e1, σ1)) : sD ks f e σ = some (0, zclr ks e1, σ1) := by rw [sD_e, h]; rfl
theorem sD_1 {f : zS} {ks : List Nat} {e e1 : List Int} {σ σ1 : zHp} (h : f e σ = some (1, e1, σ1)) : sD ks f e σ = some (1, e1, σ1) := by rw [sD_e, h]; rfl
theorem o_32 {x y : Int} (h : r32 (x + y)) : o_iadd x y = x + y := w32_id h
/-- the land as the law has it -/
def zGm (σ : zHp) : Prop := σ 37 0 = σ 1 0 ∧ σ 37 1 = σ 1 1 ∧ (∀ c : Int, 0 ≤ c → c < σ 1 2 → σ 37 (3 + c) = σ 2 c) ∧ σ 37 40 = σ 1 3
def qOnE (on k n : Int) : Int := if on < 0 then zneg (zdiv (o_iadd (o_imul (o_imul 2 k) (zneg on)) n) (o_imul 2 n)) else zdiv (o_iadd (o_imul (o_imul 2 k) on) n) (o_imul 2 n)
def qOnB (on k n : Int) : Bool := decide (qOnE on k n = zOn on k n ∧ ¬ o_imul 2 n = 0)
theorem qOn_t : ∀ a : Nat, a < 11 → ∀ n : Nat, n < 6 → ∀ k : Nat, k < n → 1 ≤ k → qOnB ((a : Int) - 5) k n = true := by decide +kernel
theorem qOn {on k n : Int} (hn : n ≤ 5) (h1 : on ≤ n) (h2 : -n ≤ on) (hk : 1 ≤ k) (hk2 : k < n) : qOnE on k n = zOn on k n ∧ ¬ o_imul 2 n = 0 := by
  have h := qOn_t (on + 5).toNat (by omega) n.toNat (by omega) k.toNat (by omega) (by omega)
  have e1 : (((on + 5).toNat : Nat) : Int) - 5 = on := by omega
  have e2 : ((k.toNat : Nat) : Int) = k := by omega
  have e3 : ((n.toNat : Nat) : Int) = n := by omega
  rw [e1, e2, e3] at h
  exact of_decide_eq_true h
/-- what the last k of the cells between dim by -/
def qT (σ : zHp) (kd f c : Int) (N : Nat) : Nat → Int
  | 0 => 1
  | k + 1 => qT σ kd f c N k * (zM1 σ kd f c (zBt σ f c ((N - k : Nat) : Int)) * zM2 σ (zBt σ f c ((N - k : Nat) : Int)))
theorem qT_S (σ : zHp) (kd f c : Int) (N k : Nat) : qT σ kd f c N (k + 1) = qT σ kd f c N k * (zM1 σ kd f c (zBt σ f c ((N - k : Nat) : Int)) * zM2 σ (zBt σ f c ((N - k : Nat) : Int))) := rfl
theorem qT_d (σ : zHp) (kd f c : Int) (N : Nat) : ∀ k, k ≤ N → zDim σ kd f c (N - k) * qT σ kd f c N k = zDim σ kd f c N
  | 0, _ => by
    rw [Nat.sub_zero]
    exact Int.mul_one _
  | k + 1, h => by
    have ih := qT_d σ kd f c N k (by omega)
    have e : N - k = (N - (k + 1)) + 1 := by omega
    rw [e, zDim_S] at ih
    rw [qT_S, ← ih, ← e]
    ac_rfl
theorem qT_N (σ : zHp) (kd f c : Int) (N : Nat) : qT σ kd f c N N = zDim σ kd f c N := by
  have h := qT_d σ kd f c N N (Nat.le_refl _)
  rw [Nat.sub_self] at h
  rw [← h]
  exact (Int.one_mul _).symm
theorem qT_b (σ : zHp) (kd f c : Int) (N : Nat) (h4 : N ≤ 4) : ∀ k, k ≤ N → 1 ≤ qT σ kd f c N k ∧ qT σ kd f c N k ≤ 256 := by
  intro k hk
  have h := qT_d σ kd f c N k hk
  have b1 := zDim_b σ kd f c (N - k) (by omega)
  have b2 := zDim_b σ kd f c N h4
  generalize zDim σ kd f c (N - k) = x at h b1
  generalize zDim σ kd f c N = y at h b2
  generalize qT σ kd f c N k = z at h ⊢
  have hz : 1 ≤ z := by
    apply Int.not_lt.mp
    intro q
    have h1 : x * z ≤ x * 0 := Int.mul_le_mul_of_nonneg_left (by omega) (by omega)
    omega
  have h2 : 1 * z ≤ x * z := Int.mul_le_mul_of_nonneg_right b1.1 (by omega)
  omega
/-- one cell between -/
theorem q_loBody {σ : zHp} {kd f wt c w ro co far n k y z at0 P R : Int} {m1 m2 : Bool} (at30 : 0 ≤ at0 ∧ at0 < 30) (f30 : 0 ≤ f ∧ f < 30) (c30 : 0 ≤ c ∧ c < 30)
    (hy : qOnE ro k n = y) (hz : qOnE co k n = z) (n0 : ¬ o_imul 2 n = 0) (ha : o_iadd (o_iadd f (o_imul (σ 37 1) y)) z = at0)
    (h1 : decide (kd < 2 ∧ σ 37 (3 + f) < σ 37 (3 + at0) ∧ σ 37 (3 + c) < σ 37 (3 + at0)) = m1) (h2 : decide (zAnd (zShr (σ 37 40) at0) 1 = 1) = m2)
    (o1 : o_lmul R 2 = 2 * R) (o2 : o_lmul (2 * R) 2 = 4 * R) :
    lf_L_loud_1 [37, kd, f, wt, c, w, 42, ro, co, far, n, k, 0, 0, 0] (zput (zput σ 42 0 P) 42 1 R) = some (0, [37, kd, f, wt, c, w, 42, ro, co, far, n, k, 0, 0, 0], zput (zput σ 42 0 P) 42 1 (R * ((if m1 = true then 2 else 1) * (if m2 = true then 2 else 1)))) := by
  have s37 : ∀ j, zput (zput σ 42 0 P) 42 1 R 37 j = σ 37 j := fun j => by rw [zput_o (by decide), zput_o (by decide)]
  have s1 : zput (zput σ 42 0 P) 42 1 R 42 1 = R := zput_self _ _ _ _
  have sp : ∀ v, zput (zput (zput σ 42 0 P) 42 1 R) 42 1 v = zput (zput σ 42 0 P) 42 1 v := fun v => zput_put _ _ _ _ _
  generalize zput (zput σ 42 0 P) 42 1 R = S at s37 s1 sp
  unfold lf_L_loud_1
  refine (sD_0 (e1 := [37, kd, f, wt, c, w, 42, ro, co, far, n, k, y, z, at0]) ?_).trans rfl
  have i1 : 0 ≤ 3 + at0 ∧ 3 + at0 < 60 := by omega
  have i2 : 0 ≤ 3 + f ∧ 3 + f < 60 := by omega
  have i3 : 0 ≤ 3 + c ∧ 3 + c < 60 := by omega
  have w1 : o_iadd 3 at0 = 3 + at0 := w32_id ⟨by omega, by omega⟩
  have w2 : o_iadd 3 f = 3 + f := w32_id ⟨by omega, by omega⟩
  have w3 : o_iadd 3 c = 3 + c := w32_id ⟨by omega, by omega⟩
  rw [sQ_s (e1 := [37, kd, f, wt, c, w, 42, ro, co, far, n, k, y, 0, 0]) (σ1 := S) (by
    unfold qOnE at hy
    by_cases p : ro < 0
    · rw [if_pos p] at hy
      simp [xC_e, xL_e, xU_e, xB_e, xD_e, xF_e, xG_e, xA_e, xE_e, xH_e, xI_e, xZ_e, xK_e, aN_e, aC_e, cR_e, cV_e, cA_e, cO_e, cN_e, bs_e, bn_e, zg_0, zg_S, sS_e, sX_e, sF_e, sG_e, sA_e, sE_e, sEo_e, sK_e, sQ_e, sI_e, sR_e, sV_e, sB_e, sC_e, sD_e, sN_e, st_0, st_S, zc_0, zc_S, r_eq, r_ne, r_lt, r_le, r_gt, r_ge, rb_ite, rb_0, rb_1, p, n0, hy]
    · rw [if_neg p] at hy
      simp [xC_e, xL_e, xU_e, xB_e, xD_e, xF_e, xG_e, xA_e, xE_e, xH_e, xI_e, xZ_e, xK_e, aN_e, aC_e, cR_e, cV_e, cA_e, cO_e, cN_e, bs_e, bn_e, zg_0, zg_S, sS_e, sX_e, sF_e, sG_e, sA_e, sE_e, sEo_e, sK_e, sQ_e, sI_e, sR_e, sV_e, sB_e, sC_e, sD_e, sN_e, st_0, st_S, zc_0, zc_S, r_eq, r_ne, r_lt, r_le, r_gt, r_ge, rb_ite, rb_0, rb_1, p, n0, hy])]
  rw [sQ_s (e1 := [37, kd, f, wt, c, w, 42, ro, co, far, n, k, y, z, 0]) (σ1 := S) (by
    unfold qOnE at hz
    by_cases p : co < 0
    · rw [if_pos p] at hz
      simp [xC_e, xL_e, xU_e, xB_e, xD_e, xF_e, xG_e, xA_e, xE_e, xH_e, xI_e, xZ_e, xK_e, aN_e, aC_e, cR_e, cV_e, cA_e, cO_e, cN_e, bs_e, bn_e, zg_0, zg_S, sS_e, sX_e, sF_e, sG_e, sA_e, sE_e, sEo_e, sK_e, sQ_e, sI_e, sR_e, sV_e, sB_e, sC_e, sD_e, sN_e, st_0, st_S, zc_0, zc_S, r_eq, r_ne, r_lt, r_le, r_gt, r_ge, rb_ite, rb_0, rb_1, p, n0, hz]
    · rw [if_neg p] at hz
      simp [xC_e, xL_e, xU_e, xB_e, xD_e, xF_e, xG_e, xA_e, xE_e, xH_e, xI_e, xZ_e, xK_e, aN_e, aC_e, cR_e, cV_e, cA_e, cO_e, cN_e, bs_e, bn_e, zg_0, zg_S, sS_e, sX_e, sF_e, sG_e, sA_e, sE_e, sEo_e, sK_e, sQ_e, sI_e, sR_e, sV_e, sB_e, sC_e, sD_e, sN_e, st_0, st_S, zc_0, zc_S, r_eq, r_ne, r_lt, r_le, r_gt, r_ge, rb_ite, rb_0, rb_1, p, n0, hz])]
  rw [sQ_s (e1 := [37, kd, f, wt, c, w, 42, ro, co, far, n, k, y, z, at0]) (σ1 := S) (by simp [xC_e, xL_e, xU_e, xB_e, xD_e, xF_e, xG_e, xA_e, xE_e, xH_e, xI_e, xZ_e, xK_e, aN_e, aC_e, cR_e, cV_e, cA_e, cO_e, cN_e, bs_e, bn_e, zg_0, zg_S, sS_e, sX_e, sF_e, sG_e, sA_e, sE_e, sEo_e, sK_e, sQ_e, sI_e, sR_e, sV_e, sB_e, sC_e, sD_e, sN_e, st_0, st_S, zc_0, zc_S, s37, ha])]
  have S1 : sI (cA (cA (cR r_lt (xL 1) (xC 2)) (cR r_gt (xE 37 60 (xB o_iadd (xC 3) (xL 14))) (xE 37 60 (xB o_iadd (xC 3) (xL 2))))) (cR r_gt (xE 37 60 (xB o_iadd (xC 3) (xL 14))) (xE 37 60 (xB o_iadd (xC 3) (xL 4))))) (sEo o_lmul 42 2 (xC 1) (xC 2)) sK [37, kd, f, wt, c, w, 42, ro, co, far, n, k, y, z, at0] S = some (0, [37, kd, f, wt, c, w, 42, ro, co, far, n, k, y, z, at0], zput (zput σ 42 0 P) 42 1 (if m1 = true then 2 * R else R)) := by
    by_cases p1 : kd < 2
    · by_cases p2 : σ 37 (3 + f) < σ 37 (3 + at0)
      · by_cases p3 : σ 37 (3 + c) < σ 37 (3 + at0)
        · rw [decide_eq_true ⟨p1, p2, p3⟩] at h1
          subst h1
          simp [xC_e, xL_e, xU_e, xB_e, xD_e, xF_e, xG_e, xA_e, xE_e, xH_e, xI_e, xZ_e, xK_e, aN_e, aC_e, cR_e, cV_e, cA_e, cO_e, cN_e, bs_e, bn_e, zg_0, zg_S, sS_e, sX_e, sF_e, sG_e, sA_e, sE_e, sEo_e, sK_e, sQ_e, sI_e, sR_e, sV_e, sB_e, sC_e, sD_e, sN_e, st_0, st_S, zc_0, zc_S, r_eq, r_ne, r_lt, r_le, r_gt, r_ge, rb_ite, rb_0, rb_1, w1, w2, w3, i1, i2, i3, s37, s1, sp, p1, p2, p3, o1]
        · rw [decide_eq_false (fun q => p3 q.2.2)] at h1
          subst h1
          have e : S = zput (zput σ 42 0 P) 42 1 R := by rw [← sp R, ← s1, zput_id]
          simp [xC_e, xL_e, xU_e, xB_e, xD_e, xF_e, xG_e, xA_e, xE_e, xH_e, xI_e, xZ_e, xK_e, aN_e, aC_e, cR_e, cV_e, cA_e, cO_e, cN_e, bs_e, bn_e, zg_0, zg_S, sS_e, sX_e, sF_e, sG_e, sA_e, sE_e, sEo_e, sK_e, sQ_e, sI_e, sR_e, sV_e, sB_e, sC_e, sD_e, sN_e, st_0, st_S, zc_0, zc_S, r_eq, r_ne, r_lt, r_le, r_gt, r_ge, rb_ite, rb_0, rb_1, w1, w2, w3, i1, i2, i3, s37, p1, p2, p3]
          exact e
      · rw [decide_eq_false (fun q => p2 q.2.1)] at h1
        subst h1
        have e : S = zput (zput σ 42 0 P) 42 1 R := by rw [← sp R, ← s1, zput_id]
        simp [xC_e, xL_e, xU_e, xB_e, xD_e, xF_e, xG_e, xA_e, xE_e, xH_e, xI_e, xZ_e, xK_e, aN_e, aC_e, cR_e, cV_e, cA_e, cO_e, cN_e, bs_e, bn_e, zg_0, zg_S, sS_e, sX_e, sF_e, sG_e, sA_e, sE_e, sEo_e, sK_e, sQ_e, sI_e, sR_e, sV_e, sB_e, sC_e, sD_e, sN_e, st_0, st_S, zc_0, zc_S, r_eq, r_ne, r_lt, r_le, r_gt, r_ge, rb_ite, rb_0, rb_1, w1, w2, w3, i1, i2, i3, s37, p1, p2]
        exact e
    · rw [decide_eq_false (fun q => p1 q.1)] at h1
      subst h1
      have e : S = zput (zput σ 42 0 P) 42 1 R := by rw [← sp R, ← s1, zput_id]
      simp [xC_e, xL_e, xU_e, xB_e, xD_e, xF_e, xG_e, xA_e, xE_e, xH_e, xI_e, xZ_e, xK_e, aN_e, aC_e, cR_e, cV_e, cA_e, cO_e, cN_e, bs_e, bn_e, zg_0, zg_S, sS_e, sX_e, sF_e, sG_e, sA_e, sE_e, sEo_e, sK_e, sQ_e, sI_e, sR_e, sV_e, sB_e, sC_e, sD_e, sN_e, st_0, st_S, zc_0, zc_S, r_eq, r_ne, r_lt, r_le, r_gt, r_ge, rb_ite, rb_0, rb_1, p1]
      exact e
  rw [sQ_s S1]
  have t37 : ∀ v j, zput (zput σ 42 0 P) 42 1 v 37 j = σ 37 j := fun v j => by rw [zput_o (by decide), zput_o (by decide)]
  have t1 : ∀ v, zput (zput σ 42 0 P) 42 1 v 42 1 = v := fun v => zput_self _ _ _ _
  have tp : ∀ u v, zput (zput (zput σ 42 0 P) 42 1 u) 42 1 v = zput (zput σ 42 0 P) 42 1 v := fun u v => zput_put _ _ _ _ _
  have a60 : 0 ≤ (40 : Int) ∧ (40 : Int) < 60 := by decide
  have b : (if m1 = true then 2 * R else R) * (if m2 = true then 2 else 1) = R * ((if m1 = true then 2 else 1) * (if m2 = true then 2 else 1)) := by
    cases m1 <;> cases m2 <;> simp <;> omega
  rw [← b]
  have o3 : o_lmul (if m1 = true then 2 * R else R) 2 = (if m1 = true then 2 * R else R) * 2 := by
    cases m1
    · simp; omega
    · simp; omega
  generalize (if m1 = true then 2 * R else R) = R2 at o3
  by_cases p : zAnd (zShr (σ 37 40) at0) 1 = 1
  · rw [decide_eq_true p] at h2
    subst h2
    simp [xC_e, xL_e, xU_e, xB_e, xD_e, xF_e, xG_e, xA_e, xE_e, xH_e, xI_e, xZ_e, xK_e, aN_e, aC_e, cR_e, cV_e, cA_e, cO_e, cN_e, bs_e, bn_e, zg_0, zg_S, sS_e, sX_e, sF_e, sG_e, sA_e, sE_e, sEo_e, sK_e, sQ_e, sI_e, sR_e, sV_e, sB_e, sC_e, sD_e, sN_e, st_0, st_S, zc_0, zc_S, r_eq, r_ne, r_lt, r_le, r_gt, r_ge, rb_ite, rb_0, rb_1, t37, t1, tp, p, o3]
  · rw [decide_eq_false p] at h2
    subst h2
    simp [xC_e, xL_e, xU_e, xB_e, xD_e, xF_e, xG_e, xA_e, xE_e, xH_e, xI_e, xZ_e, xK_e, aN_e, aC_e, cR_e, cV_e, cA_e, cO_e, cN_e, bs_e, bn_e, zg_0, zg_S, sS_e, sX_e, sF_e, sG_e, sA_e, sE_e, sEo_e, sK_e, sQ_e, sI_e, sR_e, sV_e, sB_e, sC_e, sD_e, sN_e, st_0, st_S, zc_0, zc_S, r_eq, r_ne, r_lt, r_le, r_gt, r_ge, rb_ite, rb_0, rb_1, t37, p]
