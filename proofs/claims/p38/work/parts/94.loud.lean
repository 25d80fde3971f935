/-! the law's own picture: loud -/
theorem sQ_s {f g : zS} {e e1 : List Int} {σ σ1 : zHp} (h : f e σ = some (0, e1, σ1)) : sQ f g e σ = g e1 σ1 := by rw [sQ_e, h]; rfl
theorem sQ_1 {f g : zS} {e e1 : List Int} {σ σ1 : zHp} (h : f e σ = some (1, e1, σ1)) : sQ f g e σ = some (1, e1, σ1) := by rw [sQ_e, h]; rfl
theorem sD_0 {f : zS} {ks : List Nat} {e e1 : List Int} {σ σ1 : zHp} (h : f e σ = some (0, e1, σ1)) : sD ks f e σ = some (0, zclr ks e1, σ1) := by rw [sD_e, h]; rfl
theorem sD_1 {f : zS} {ks : List Nat} {e e1 : List Int} {σ σ1 : zHp} (h : f e σ = some (1, e1, σ1)) : sD ks f e σ = some (1, e1, σ1) := by rw [sD_e, h]; rfl
theorem o_32 {x y : Int} (h : r32 (x + y)) : o_iadd x y = x + y := w32_id h
/-- the land as the law has it -/
def zGm (σ : zHp) : Prop := σ 37 0 = σ 1 0 ∧ σ 37 1 = σ 1 1 ∧ (∀ c : Int, 0 ≤ c → c < σ 1 2 → σ 37 (3 + c) = σ 2 c) ∧ σ 37 40 = σ 1 3
def qOnE (on k n : Int) : Int := if on < 0 then zneg (zdiv (o_iadd (o_imul (o_imul 2 k) (zneg on)) n) (o_imul 2 n)) else zdiv (o_iadd (o_imul (o_imul 2 k) on) n) (o_imul 2 n)
def qOnB (on k n : Int) : Bool := decide (qOnE on k n = zOn on k n ∧ ¬ o_imul 2 n = 0)
theorem qOn_t : ∀ a : Nat, a < 11 → ∀ n : Nat, n < 6 → ∀ k : Nat, k < n → 1 ≤ k → qOnB ((a : Int) - 5) k n = true := by decide +kernel
theorem qOn {on k n : Int} (hn : n ≤ 5) (h1 : on ≤ n) (h2 : -n ≤ on) (hk : 1 ≤ k) (hk2 : k < n) : qOnE on k n = zOn on k n ∧ ¬ o_imul 2 n = 0 := by
  have h := qOn_t (on + 5).toNat (by omega) n.toNat (by omega) k.toNat (by omega) (by omega)
  have e1 : (((on + 5).toNat : Nat) : Int) - 5 = on := by omega
  have e2 : ((k.toNat : Nat) : Int) = k := by omega
  have e3 : ((n.toNat : Nat) : Int) = n := by omega
  rw [e1, e2, e3] at h
  exact of_decide_eq_true h
/-- what the last k of the cells between dim by -/
def qT (σ : zHp) (kd f c : Int) (N : Nat) : Nat → Int
  | 0 => 1
  | k + 1 => qT σ kd f c N k * (zM1 σ kd f c (zBt σ f c ((N - k : Nat) : Int)) * zM2 σ (zBt σ f c ((N - k : Nat) : Int)))
theorem qT_S (σ : zHp) (kd f c : Int) (N k : Nat) : qT σ kd f c N (k + 1) = qT σ kd f c N k * (zM1 σ kd f c (zBt σ f c ((N - k : Nat) : Int)) * zM2 σ (zBt σ f c ((N - k : Nat) : Int))) := rfl
theorem qT_d (σ : zHp) (kd f c : Int) (N : Nat) : ∀ k, k ≤ N → zDim σ kd f c (N - k) * qT σ kd f c N k = zDim σ kd f c N
  | 0, _ => by
    rw [Nat.sub_zero]
    exact Int.mul_one _
  | k + 1, h => by
    have ih := qT_d σ kd f c N k (by omega)
    have e : N - k = (N - (k + 1)) + 1 := by omega
    rw [e, zDim_S] at ih
    rw [qT_S, ← ih, ← e]
    ac_rfl
theorem qT_N (σ : zHp) (kd f c : Int) (N : Nat) : qT σ kd f c N N = zDim σ kd f c N := by
  have h := qT_d σ kd f c N N (Nat.le_refl _)
  rw [Nat.sub_self] at h
  rw [← h]
  exact (Int.one_mul _).symm
theorem qT_b (σ : zHp) (kd f c : Int) (N : Nat) (h4 : N ≤ 4) : ∀ k, k ≤ N → 1 ≤ qT σ kd f c N k ∧ qT σ kd f c N k ≤ 256 := by
  intro k hk
  have h := qT_d σ kd f c N k hk
  have b1 := zDim_b σ kd f c (N - k) (by omega)
  have b2 := zDim_b σ kd f c N h4
  generalize zDim σ kd f c (N - k) = x at h b1
  generalize zDim σ kd f c N = y at h b2
  generalize qT σ kd f c N k = z at h ⊢
  have hz : 1 ≤ z := by
    apply Int.not_lt.mp
    intro q
    have h1 : x * z ≤ x * 0 := Int.mul_le_mul_of_nonneg_left (by omega) (by omega)
    omega
  have h2 : 1 * z ≤ x * z := Int.mul_le_mul_of_nonneg_right b1.1 (by omega)
  omega
/-- one cell between -/
theorem q_loBody {σ : zHp} {kd f wt c w ro co far n k y z at0 P R : Int} {m1 m2 : Bool} (at30 : 0 ≤ at0 ∧ at0 < 30) (f30 : 0 ≤ f ∧ f < 30) (c30 : 0 ≤ c ∧ c < 30)
    (hy : qOnE ro k n = y) (hz : qOnE co k n = z) (n0 : ¬ o_imul 2 n = 0) (ha : o_iadd (o_iadd f (o_imul (σ 37 1) y)) z = at0)
    (h1 : decide (kd < 2 ∧ σ 37 (3 + f) < σ 37 (3 + at0) ∧ σ 37 (3 + c) < σ 37 (3 + at0)) = m1) (h2 : decide (zAnd (zShr (σ 37 40) at0) 1 = 1) = m2)
    (o1 : o_lmul R 2 = 2 * R) (o2 : o_lmul (2 * R) 2 = 4 * R) :
    lf_L_loud_1 [37, kd, f, wt, c, w, 42, ro, co, far, n, k, 0, 0, 0] (zput (zput σ 42 0 P) 42 1 R) = some (0, [37, kd, f, wt, c, w, 42, ro, co, far, n, k, 0, 0, 0], zput (zput σ 42 0 P) 42 1 (R * ((if m1 = true then 2 else 1) * (if m2 = true then 2 else 1)))) := by
  have s37 : ∀ j, zput (zput σ 42 0 P) 42 1 R 37 j = σ 37 j := fun j => by rw [zput_o (by decide), zput_o (by decide)]
  have s1 : zput (zput σ 42 0 P) 42 1 R 42 1 = R := zput_self _ _ _ _
  have sp : ∀ v, zput (zput (zput σ 42 0 P) 42 1 R) 42 1 v = zput (zput σ 42 0 P) 42 1 v := fun v => zput_put _ _ _ _ _
  generalize zput (zput σ 42 0 P) 42 1 R = S at s37 s1 sp
  unfold lf_L_loud_1
  refine (sD_0 (e1 := [37, kd, f, wt, c, w, 42, ro, co, far, n, k, y, z, at0]) ?_).trans rfl
  have i1 : 0 ≤ 3 + at0 ∧ 3 + at0 < 60 := by omega
  have i2 : 0 ≤ 3 + f ∧ 3 + f < 60 := by omega
  have i3 : 0 ≤ 3 + c ∧ 3 + c < 60 := by omega
  have w1 : o_iadd 3 at0 = 3 + at0 := w32_id ⟨by omega, by omega⟩
  have w2 : o_iadd 3 f = 3 + f := w32_id ⟨by omega, by omega⟩
  have w3 : o_iadd 3 c = 3 + c := w32_id ⟨by omega, by omega⟩
  rw [sQ_s (e1 := [37, kd, f, wt, c, w, 42, ro, co, far, n, k, y, 0, 0]) (σ1 := S) (by
    unfold qOnE at hy
    by_cases p : ro < 0
    · rw [if_pos p] at hy
      simp [xC_e, xL_e, xU_e, xB_e, xD_e, xF_e, xG_e, xA_e, xE_e, xH_e, xI_e, xZ_e, xK_e, aN_e, aC_e, cR_e, cV_e, cA_e, cO_e, cN_e, bs_e, bn_e, zg_0, zg_S, sS_e, sX_e, sF_e, sG_e, sA_e, sE_e, sEo_e, sK_e, sQ_e, sI_e, sR_e, sV_e, sB_e, sC_e, sD_e, sN_e, st_0, st_S, zc_0, zc_S, r_eq, r_ne, r_lt, r_le, r_gt, r_ge, rb_ite, rb_0, rb_1, p, n0, hy]
    · rw [if_neg p] at hy
      simp [xC_e, xL_e, xU_e, xB_e, xD_e, xF_e, xG_e, xA_e, xE_e, xH_e, xI_e, xZ_e, xK_e, aN_e, aC_e, cR_e, cV_e, cA_e, cO_e, cN_e, bs_e, bn_e, zg_0, zg_S, sS_e, sX_e, sF_e, sG_e, sA_e, sE_e, sEo_e, sK_e, sQ_e, sI_e, sR_e, sV_e, sB_e, sC_e, sD_e, sN_e, st_0, st_S, zc_0, zc_S, r_eq, r_ne, r_lt, r_le, r_gt, r_ge, rb_ite, rb_0, rb_1, p, n0, hy])]
  rw [sQ_s (e1 := [37, kd, f, wt, c, w, 42, ro, co, far, n, k, y, z, 0]) (σ1 := S) (by
    unfold qOnE at hz
    by_cases p : co < 0
    · rw [if_pos p] at hz
      simp [xC_e, xL_e, xU_e, xB_e, xD_e, xF_e, xG_e, xA_e, xE_e, xH_e, xI_e, xZ_e, xK_e, aN_e, aC_e, cR_e, cV_e, cA_e, cO_e, cN_e, bs_e, bn_e, zg_0, zg_S, sS_e, sX_e, sF_e, sG_e, sA_e, sE_e, sEo_e, sK_e, sQ_e, sI_e, sR_e, sV_e, sB_e, sC_e, sD_e, sN_e, st_0, st_S, zc_0, zc_S, r_eq, r_ne, r_lt, r_le, r_gt, r_ge, rb_ite, rb_0, rb_1, p, n0, hz]
    · rw [if_neg p] at hz
      simp [xC_e, xL_e, xU_e, xB_e, xD_e, xF_e, xG_e, xA_e, xE_e, xH_e, xI_e, xZ_e, xK_e, aN_e, aC_e, cR_e, cV_e, cA_e, cO_e, cN_e, bs_e, bn_e, zg_0, zg_S, sS_e, sX_e, sF_e, sG_e, sA_e, sE_e, sEo_e, sK_e, sQ_e, sI_e, sR_e, sV_e, sB_e, sC_e, sD_e, sN_e, st_0, st_S, zc_0, zc_S, r_eq, r_ne, r_lt, r_le, r_gt, r_ge, rb_ite, rb_0, rb_1, p, n0, hz])]
  rw [sQ_s (e1 := [37, kd, f, wt, c, w, 42, ro, co, far, n, k, y, z, at0]) (σ1 := S) (by simp [xC_e, xL_e, xU_e, xB_e, xD_e, xF_e, xG_e, xA_e, xE_e, xH_e, xI_e, xZ_e, xK_e, aN_e, aC_e, cR_e, cV_e, cA_e, cO_e, cN_e, bs_e, bn_e, zg_0, zg_S, sS_e, sX_e, sF_e, sG_e, sA_e, sE_e, sEo_e, sK_e, sQ_e, sI_e, sR_e, sV_e, sB_e, sC_e, sD_e, sN_e, st_0, st_S, zc_0, zc_S, s37, ha])]
  have S1 : sI (cA (cA (cR r_lt (xL 1) (xC 2)) (cR r_gt (xE 37 60 (xB o_iadd (xC 3) (xL 14))) (xE 37 60 (xB o_iadd (xC 3) (xL 2))))) (cR r_gt (xE 37 60 (xB o_iadd (xC 3) (xL 14))) (xE 37 60 (xB o_iadd (xC 3) (xL 4))))) (sEo o_lmul 42 2 (xC 1) (xC 2)) sK [37, kd, f, wt, c, w, 42, ro, co, far, n, k, y, z, at0] S = some (0, [37, kd, f, wt, c, w, 42, ro, co, far, n, k, y, z, at0], zput (zput σ 42 0 P) 42 1 (if m1 = true then 2 * R else R)) := by
    by_cases p1 : kd < 2
    · by_cases p2 : σ 37 (3 + f) < σ 37 (3 + at0)
      · by_cases p3 : σ 37 (3 + c) < σ 37 (3 + at0)
        · rw [decide_eq_true ⟨p1, p2, p3⟩] at h1
          subst h1
          simp [xC_e, xL_e, xU_e, xB_e, xD_e, xF_e, xG_e, xA_e, xE_e, xH_e, xI_e, xZ_e, xK_e, aN_e, aC_e, cR_e, cV_e, cA_e, cO_e, cN_e, bs_e, bn_e, zg_0, zg_S, sS_e, sX_e, sF_e, sG_e, sA_e, sE_e, sEo_e, sK_e, sQ_e, sI_e, sR_e, sV_e, sB_e, sC_e, sD_e, sN_e, st_0, st_S, zc_0, zc_S, r_eq, r_ne, r_lt, r_le, r_gt, r_ge, rb_ite, rb_0, rb_1, w1, w2, w3, i1, i2, i3, s37, s1, sp, p1, p2, p3, o1]
        · rw [decide_eq_false (fun q => p3 q.2.2)] at h1
          subst h1
          have e : S = zput (zput σ 42 0 P) 42 1 R := by rw [← sp R, ← s1, zput_id]
          simp [xC_e, xL_e, xU_e, xB_e, xD_e, xF_e, xG_e, xA_e, xE_e, xH_e, xI_e, xZ_e, xK_e, aN_e, aC_e, cR_e, cV_e, cA_e, cO_e, cN_e, bs_e, bn_e, zg_0, zg_S, sS_e, sX_e, sF_e, sG_e, sA_e, sE_e, sEo_e, sK_e, sQ_e, sI_e, sR_e, sV_e, sB_e, sC_e, sD_e, sN_e, st_0, st_S, zc_0, zc_S, r_eq, r_ne, r_lt, r_le, r_gt, r_ge, rb_ite, rb_0, rb_1, w1, w2, w3, i1, i2, i3, s37, p1, p2, p3]
          exact e
      · rw [decide_eq_false (fun q => p2 q.2.1)] at h1
        subst h1
        have e : S = zput (zput σ 42 0 P) 42 1 R := by rw [← sp R, ← s1, zput_id]
        simp [xC_e, xL_e, xU_e, xB_e, xD_e, xF_e, xG_e, xA_e, xE_e, xH_e, xI_e, xZ_e, xK_e, aN_e, aC_e, cR_e, cV_e, cA_e, cO_e, cN_e, bs_e, bn_e, zg_0, zg_S, sS_e, sX_e, sF_e, sG_e, sA_e, sE_e, sEo_e, sK_e, sQ_e, sI_e, sR_e, sV_e, sB_e, sC_e, sD_e, sN_e, st_0, st_S, zc_0, zc_S, r_eq, r_ne, r_lt, r_le, r_gt, r_ge, rb_ite, rb_0, rb_1, w1, w2, w3, i1, i2, i3, s37, p1, p2]
        exact e
    · rw [decide_eq_false (fun q => p1 q.1)] at h1
      subst h1
      have e : S = zput (zput σ 42 0 P) 42 1 R := by rw [← sp R, ← s1, zput_id]
      simp [xC_e, xL_e, xU_e, xB_e, xD_e, xF_e, xG_e, xA_e, xE_e, xH_e, xI_e, xZ_e, xK_e, aN_e, aC_e, cR_e, cV_e, cA_e, cO_e, cN_e, bs_e, bn_e, zg_0, zg_S, sS_e, sX_e, sF_e, sG_e, sA_e, sE_e, sEo_e, sK_e, sQ_e, sI_e, sR_e, sV_e, sB_e, sC_e, sD_e, sN_e, st_0, st_S, zc_0, zc_S, r_eq, r_ne, r_lt, r_le, r_gt, r_ge, rb_ite, rb_0, rb_1, p1]
      exact e
  rw [sQ_s S1]
  have t37 : ∀ v j, zput (zput σ 42 0 P) 42 1 v 37 j = σ 37 j := fun v j => by rw [zput_o (by decide), zput_o (by decide)]
  have t1 : ∀ v, zput (zput σ 42 0 P) 42 1 v 42 1 = v := fun v => zput_self _ _ _ _
  have tp : ∀ u v, zput (zput (zput σ 42 0 P) 42 1 u) 42 1 v = zput (zput σ 42 0 P) 42 1 v := fun u v => zput_put _ _ _ _ _
  have a60 : 0 ≤ (40 : Int) ∧ (40 : Int) < 60 := by decide
  have b : (if m1 = true then 2 * R else R) * (if m2 = true then 2 else 1) = R * ((if m1 = true then 2 else 1) * (if m2 = true then 2 else 1)) := by
    cases m1 <;> cases m2 <;> simp <;> omega
  rw [← b]
  have o3 : o_lmul (if m1 = true then 2 * R else R) 2 = (if m1 = true then 2 * R else R) * 2 := by
    cases m1
    · simp; omega
    · simp; omega
  generalize (if m1 = true then 2 * R else R) = R2 at o3
  by_cases p : zAnd (zShr (σ 37 40) at0) 1 = 1
  · rw [decide_eq_true p] at h2
    subst h2
    simp [xC_e, xL_e, xU_e, xB_e, xD_e, xF_e, xG_e, xA_e, xE_e, xH_e, xI_e, xZ_e, xK_e, aN_e, aC_e, cR_e, cV_e, cA_e, cO_e, cN_e, bs_e, bn_e, zg_0, zg_S, sS_e, sX_e, sF_e, sG_e, sA_e, sE_e, sEo_e, sK_e, sQ_e, sI_e, sR_e, sV_e, sB_e, sC_e, sD_e, sN_e, st_0, st_S, zc_0, zc_S, r_eq, r_ne, r_lt, r_le, r_gt, r_ge, rb_ite, rb_0, rb_1, t37, t1, tp, p, o3]
  · rw [decide_eq_false p] at h2
    subst h2
    simp [xC_e, xL_e, xU_e, xB_e, xD_e, xF_e, xG_e, xA_e, xE_e, xH_e, xI_e, xZ_e, xK_e, aN_e, aC_e, cR_e, cV_e, cA_e, cO_e, cN_e, bs_e, bn_e, zg_0, zg_S, sS_e, sX_e, sF_e, sG_e, sA_e, sE_e, sEo_e, sK_e, sQ_e, sI_e, sR_e, sV_e, sB_e, sC_e, sD_e, sN_e, st_0, st_S, zc_0, zc_S, r_eq, r_ne, r_lt, r_le, r_gt, r_ge, rb_ite, rb_0, rb_1, t37, p]
theorem q_loLoop {σ : zHp} (hL : zIL σ) (hg : zGm σ) {kd f wt c w P : Int} (hk : 0 ≤ kd ∧ kd ≤ 2) (hf : 0 ≤ f ∧ f < σ 1 2) (hc : 0 ≤ c ∧ c < σ 1 2) :
    sW lc_L_loud_1 lf_L_loud_1 ls_L_loud_1 [37, kd, f, wt, c, w, 42, zRo σ f c, zCo σ f c, zFar σ f c, zLen σ f c, zLen σ f c - 1, 0, 0, 0] (zput (zput σ 42 0 P) 42 1 (zU kd + zFar σ f c)) = some (0, [37, kd, f, wt, c, w, 42, zRo σ f c, zCo σ f c, zFar σ f c, zLen σ f c, zLen σ f c - 1 - ((zLen σ f c - 1).toNat : Int), 0, 0, 0], zput (zput σ 42 0 P) 42 1 (zDn σ kd f c)) := by
  have nN := zN_eq hL
  obtain ⟨d0, d1, -⟩ := zFar_d hL (kind := kd) hf hc
  obtain ⟨l1, l2, l3, l4, l5, l6, l7, l8, l9, l10, l11⟩ := zLen_i hL hf hc
  have rf := zRC hL hf
  have u := zU_b kd
  obtain ⟨g0, g1, g2, g3⟩ := hg
  have hl := zl_seq (c := lc_L_loud_1) (f := lf_L_loud_1) (s := ls_L_loud_1) (fun k => [37, kd, f, wt, c, w, 42, zRo σ f c, zCo σ f c, zFar σ f c, zLen σ f c, zLen σ f c - 1 - (k : Int), 0, 0, 0]) (fun k => zput (zput σ 42 0 P) 42 1 ((zU kd + zFar σ f c) * qT σ kd f c (zLen σ f c - 1).toNat k)) (zLen σ f c - 1).toNat
    (fun k hk => by
      have : zLen σ f c - 1 - (k : Int) > 0 := by omega
      simp only [lc_L_loud_1, xC_e, xL_e, xU_e, xB_e, xD_e, xF_e, xG_e, xA_e, xE_e, xH_e, xI_e, xZ_e, xK_e, aN_e, aC_e, cR_e, cV_e, cA_e, cO_e, cN_e, bs_e, bn_e, zg_0, zg_S, sS_e, sX_e, sF_e, sG_e, sA_e, sE_e, sEo_e, sK_e, sQ_e, sI_e, sR_e, sV_e, sB_e, sC_e, sD_e, sN_e, st_0, st_S, zc_0, zc_S, r_gt]
      rw [decide_eq_true this])
    (fun k hk2 => by
      have k1 : 1 ≤ zLen σ f c - 1 - (k : Int) ∧ zLen σ f c - 1 - (k : Int) < zLen σ f c := by omega
      have kN : (((zLen σ f c - 1).toNat - k : Nat) : Int) = zLen σ f c - 1 - (k : Int) := by omega
      have bl := zBt_lt hL hf hc k1
      obtain ⟨b1, b2, b3, b4⟩ := zBt_i hL hf hc k1
      have y1 := qOn l6 l7 l8 k1.1 k1.2
      have y2 := qOn l6 l9 l10 k1.1 k1.2
      have z1 := zOn_i l6 l7 l8 k1.1 k1.2
      have bm := zmul_i (x := σ 1 1) (y := zOn (zRo σ f c) (zLen σ f c - 1 - (k : Int)) (zLen σ f c)) 6 5 (by omega) (by omega)
      have a2 : o_imul (σ 37 1) (zOn (zRo σ f c) (zLen σ f c - 1 - (k : Int)) (zLen σ f c)) = σ 1 1 * zOn (zRo σ f c) (zLen σ f c - 1 - (k : Int)) (zLen σ f c) := by rw [g1]; exact w32_id ⟨by omega, by omega⟩
      have a3 : o_iadd f (σ 1 1 * zOn (zRo σ f c) (zLen σ f c - 1 - (k : Int)) (zLen σ f c)) = f + σ 1 1 * zOn (zRo σ f c) (zLen σ f c - 1 - (k : Int)) (zLen σ f c) := w32_id ⟨by omega, by omega⟩
      have a5 : f + σ 1 1 * zOn (zRo σ f c) (zLen σ f c - 1 - (k : Int)) (zLen σ f c) + zOn (zCo σ f c) (zLen σ f c - 1 - (k : Int)) (zLen σ f c) = zBt σ f c (zLen σ f c - 1 - (k : Int)) := by
        unfold zBt
        rw [Int.mul_add]
        have := Int.mul_ediv_add_emod f (σ 1 1)
        omega
      have a4 : o_iadd (f + σ 1 1 * zOn (zRo σ f c) (zLen σ f c - 1 - (k : Int)) (zLen σ f c)) (zOn (zCo σ f c) (zLen σ f c - 1 - (k : Int)) (zLen σ f c)) = zBt σ f c (zLen σ f c - 1 - (k : Int)) := by
        rw [← a5]
        exact w32_id ⟨by omega, by omega⟩
      have qb := qT_b σ kd f c (zLen σ f c - 1).toNat (by omega) k (by omega)
      have z2 := zmul_i (x := zU kd + zFar σ f c) (y := qT σ kd f c (zLen σ f c - 1).toNat k) 43 256 (by omega) (by omega)
      have body := q_loBody (σ := σ) (kd := kd) (wt := wt) (w := w) (far := zFar σ f c) (P := P) (R := (zU kd + zFar σ f c) * qT σ kd f c (zLen σ f c - 1).toNat k) (m1 := decide (σ 2 f < σ 2 (zBt σ f c (zLen σ f c - 1 - (k : Int))) ∧ σ 2 c < σ 2 (zBt σ f c (zLen σ f c - 1 - (k : Int))) ∧ kd ≠ 2)) (m2 := decide (zpl σ (zBt σ f c (zLen σ f c - 1 - (k : Int))) = 1)) ⟨bl.1, by omega⟩ ⟨hf.1, by omega⟩ ⟨hc.1, by omega⟩ y1.1 y2.1 y1.2 (by rw [a2, a3, a4])
        (by
          rw [g2 f hf.1 hf.2, g2 c hc.1 hc.2, g2 _ bl.1 bl.2]
          by_cases q : kd = 2
          · rw [decide_eq_false (fun z => by omega), decide_eq_false (fun z => z.2.2 q)]
          · have q2 : kd < 2 := by omega
            by_cases p1 : σ 2 f < σ 2 (zBt σ f c (zLen σ f c - 1 - (k : Int)))
            · by_cases p2 : σ 2 c < σ 2 (zBt σ f c (zLen σ f c - 1 - (k : Int)))
              · rw [decide_eq_true ⟨q2, p1, p2⟩, decide_eq_true ⟨p1, p2, q⟩]
              · rw [decide_eq_false (fun z => p2 z.2.2), decide_eq_false (fun z => p2 z.2.1)]
            · rw [decide_eq_false (fun z => p1 z.2.1), decide_eq_false (fun z => p1 z.1)])
        (by rw [g3, zbit_i ⟨bl.1, by omega⟩]; rfl)
        (by rw [show (2 : Int) * ((zU kd + zFar σ f c) * qT σ kd f c (zLen σ f c - 1).toNat k) = (zU kd + zFar σ f c) * qT σ kd f c (zLen σ f c - 1).toNat k * 2 by omega]; exact w64_id ⟨by omega, by omega⟩)
        (by rw [show (4 : Int) * ((zU kd + zFar σ f c) * qT σ kd f c (zLen σ f c - 1).toNat k) = 2 * ((zU kd + zFar σ f c) * qT σ kd f c (zLen σ f c - 1).toNat k) * 2 by omega]; exact w64_id ⟨by omega, by omega⟩)
      refine ⟨0, [37, kd, f, wt, c, w, 42, zRo σ f c, zCo σ f c, zFar σ f c, zLen σ f c, zLen σ f c - 1 - (k : Int), 0, 0, 0], zput (zput σ 42 0 P) 42 1 ((zU kd + zFar σ f c) * qT σ kd f c (zLen σ f c - 1).toNat (k + 1)), ?_, Or.inl rfl, ?_⟩
      · refine body.trans ?_
        rw [qT_S, kN, Int.mul_assoc]
        unfold zM1 zM2
        simp only [decide_eq_true_eq]
      · have e : o_iadd (zLen σ f c - 1 - (k : Int)) (-1) = zLen σ f c - 1 - ((k + 1 : Nat) : Int) := by
          rw [show zLen σ f c - 1 - ((k + 1 : Nat) : Int) = zLen σ f c - 1 - (k : Int) + -1 by omega]
          exact w32_id ⟨by omega, by omega⟩
        generalize zLen σ f c - 1 - (k : Int) = kk at e ⊢
        simp only [ls_L_loud_1, xC_e, xL_e, xU_e, xB_e, xD_e, xF_e, xG_e, xA_e, xE_e, xH_e, xI_e, xZ_e, xK_e, aN_e, aC_e, cR_e, cV_e, cA_e, cO_e, cN_e, bs_e, bn_e, zg_0, zg_S, sS_e, sX_e, sF_e, sG_e, sA_e, sE_e, sEo_e, sK_e, sQ_e, sI_e, sR_e, sV_e, sB_e, sC_e, sD_e, sN_e, st_0, st_S, zc_0, zc_S, e])
    (by
      have q : ¬ (zLen σ f c - 1 - ((zLen σ f c - 1).toNat : Int) > 0) := by omega
      simp only [lc_L_loud_1, xC_e, xL_e, xU_e, xB_e, xD_e, xF_e, xG_e, xA_e, xE_e, xH_e, xI_e, xZ_e, xK_e, aN_e, aC_e, cR_e, cV_e, cA_e, cO_e, cN_e, bs_e, bn_e, zg_0, zg_S, sS_e, sX_e, sF_e, sG_e, sA_e, sE_e, sEo_e, sK_e, sQ_e, sI_e, sR_e, sV_e, sB_e, sC_e, sD_e, sN_e, st_0, st_S, zc_0, zc_S, r_gt]
      rw [decide_eq_false q])
    (zf_lt (by omega))
  rw [qT_N] at hl
  have e0 : zLen σ f c - 1 - ((0 : Nat) : Int) = zLen σ f c - 1 := by omega
  have e1 : (zU kd + zFar σ f c) * qT σ kd f c (zLen σ f c - 1).toNat 0 = zU kd + zFar σ f c := Int.mul_one _
  rw [e0, e1] at hl
  exact hl
theorem zneg_e {x : Int} (h : -2147483648 < x ∧ x < 2147483648) : zneg x = -x := w32_id ⟨by omega, by omega⟩
theorem q_loud {σ : zHp} (hL : zIL σ) (hg : zGm σ) {kd f wt c w : Int} (hk : 0 ≤ kd ∧ kd ≤ 2) (hf : 0 ≤ f ∧ f < σ 1 2) (hc : 0 ≤ c ∧ c < σ 1 2) (ht : 1 ≤ wt ∧ wt ≤ 99) (hw : 0 ≤ w ∧ w ≤ 39) :
    ∃ τ, m_L_loud [37, kd, f, wt, c, w, 42] σ = some (0, τ) ∧ (∀ a b : Int, a ≠ 42 → τ a b = σ a b) ∧ τ 42 0 = wt * zPu σ kd f c w ∧ τ 42 1 = zQd σ kd f c w := by
  have hl := q_loLoop (P := zU kd * wt) (wt := wt) (w := w) hL hg hk hf hc
  have nN := zN_eq hL
  obtain ⟨d0, d1, -⟩ := zFar_d hL (kind := kd) hf hc
  obtain ⟨l1, l2, l3, l4, l5, l6, l7, l8, l9, l10, l11⟩ := zLen_i hL hf hc
  have rf := zRC hL hf
  have rc := zRC hL hc
  have u := zU_b kd
  have db := zDn_b hL (kind := kd) hf hc
  obtain ⟨g0, g1, g2, g3⟩ := hg
  have W0 : ¬ σ 1 1 = 0 := by omega
  have m1 := zmul_i (x := zRo σ f c) (y := zRo σ f c) 4 4 (by omega) (by omega)
  have m2 := zmul_i (x := zCo σ f c) (y := zCo σ f c) 5 5 (by omega) (by omega)
  have e1 : zdiv c (σ 1 1) = c / σ 1 1 := zdiv_e (by omega) (by omega)
  have e2 : zdiv f (σ 1 1) = f / σ 1 1 := zdiv_e (by omega) (by omega)
  have e3 : o_isub (c / σ 1 1) (f / σ 1 1) = zRo σ f c := w32_id ⟨by omega, by omega⟩
  have e4 : zmod c (σ 1 1) = c % σ 1 1 := zmod_e (by omega)
  have e5 : zmod f (σ 1 1) = f % σ 1 1 := zmod_e (by omega)
  have e6 : o_isub (c % σ 1 1) (f % σ 1 1) = zCo σ f c := w32_id ⟨by omega, by omega⟩
  have e7 : o_imul (zRo σ f c) (zRo σ f c) = zRo σ f c * zRo σ f c := w32_id ⟨by omega, by omega⟩
  have e8 : o_imul (zCo σ f c) (zCo σ f c) = zCo σ f c * zCo σ f c := w32_id ⟨by omega, by omega⟩
  have e9 : o_iadd (zRo σ f c * zRo σ f c) (zCo σ f c * zCo σ f c) = zFar σ f c := w32_id ⟨by omega, by omega⟩
  have e10 : o_lmul 2 wt = 2 * wt := w64_id ⟨by omega, by omega⟩
  have e11 : o_iadd 2 (zFar σ f c) = 2 + zFar σ f c := w32_id ⟨by omega, by omega⟩
  have e12 : o_iadd 1 (zFar σ f c) = 1 + zFar σ f c := w32_id ⟨by omega, by omega⟩
  have e13 : zneg (zRo σ f c) = -zRo σ f c := zneg_e (by omega)
  have e14 : zneg (zCo σ f c) = -zCo σ f c := zneg_e (by omega)
  have e15 : o_isub (zLen σ f c) 1 = zLen σ f c - 1 := w32_id ⟨by omega, by omega⟩
  have e16 : zdiv w 10 = w / 10 := zdiv_e (by omega) (by decide)
  have e17 : o_iadd 10 (zmod w 10) = 10 + w % 10 := by rw [zmod_e hw.1]; exact w32_id ⟨by omega, by omega⟩
  have len : zLen σ f c = max (max (zRo σ f c) (-zRo σ f c)) (max (zCo σ f c) (-zCo σ f c)) := rfl
  have ual : -5 ≤ zAl (zRo σ f c) (zCo σ f c) w ∧ zAl (zRo σ f c) (zCo σ f c) w ≤ 5 := by
    unfold zAl
    split
    · omega
    split
    · omega
    split <;> omega
  have hal : zAl (zRo σ f c) (zCo σ f c) w = if w / 10 = 0 then -zRo σ f c else if w / 10 = 1 then zCo σ f c else if w / 10 = 2 then zRo σ f c else -zCo σ f c := rfl
  have hPu : zPu σ kd f c w = zU kd * zWu (zAl (zRo σ f c) (zCo σ f c) w) w := rfl
  have hQd : zQd σ kd f c w = zDn σ kd f c * zWd (zAl (zRo σ f c) (zCo σ f c) w) w := rfl
  have hU : zU kd = if kd = 0 then 1 else 2 := rfl
  rw [hPu, hQd]
  generalize zAl (zRo σ f c) (zCo σ f c) w = al at *
  generalize hDn : zDn σ kd f c = Dn at *
  generalize hNn : zLen σ f c - 1 - ((zLen σ f c - 1).toNat : Int) = kk at hl
  generalize zRo σ f c = ro at *
  generalize zCo σ f c = co at *
  generalize zFar σ f c = far at *
  generalize zLen σ f c = n at *
  have hS0 : ∀ x y, x ≠ 42 → zput (zput σ 42 0 (zU kd * wt)) 42 1 Dn x y = σ x y := fun x y q => by rw [zput_o q, zput_o q]
  have hS1 : zput (zput σ 42 0 (zU kd * wt)) 42 1 Dn 42 0 = zU kd * wt := by rw [zput_i (by decide), zput_self]
  have hS2 : zput (zput σ 42 0 (zU kd * wt)) 42 1 Dn 42 1 = Dn := zput_self _ _ _ _
  have U2 : (if 0 < kd then 2 * wt else wt) = zU kd * wt := by
    rw [hU]
    by_cases q : kd = 0
    · rw [if_pos q, if_neg (by omega)]; omega
    · rw [if_neg q, if_pos (by omega)]
  have U3 : (if 0 < kd then 2 + far else 1 + far) = zU kd + far := by
    rw [hU]
    by_cases q : kd = 0
    · rw [if_pos q, if_neg (by omega)]
    · rw [if_neg q, if_pos (by omega)]
  have pre : d_L_loud [37, kd, f, wt, c, w, 42, 0, 0, 0, 0, 0, 0, 0, 0] σ = (sQ (sS 11 (xD zdiv (xL 5) (xC 10))) (sQ (sS 12 (xI (cV (fun x => r_eq x 0) (xL 11)) (xU zneg (xL 7)) (xI (cR r_eq (xL 11) (xC 1)) (xL 8) (xI (cR r_eq (xL 11) (xC 2)) (xL 7) (xU zneg (xL 8)))))) (sQ (sI (cV (fun x => r_eq x 0) (xL 12)) (sV) sK) (sQ (sS 13 (xB o_iadd (xC 10) (xD zmod (xL 5) (xC 10)))) (sQ (sEo o_lmul 42 2 (xC 0) (xI (cV (fun x => r_gt x 0) (xL 12)) (xL 13) (xC 10))) (sEo o_lmul 42 2 (xC 1) (xI (cV (fun x => r_gt x 0) (xL 12)) (xC 10) (xL 13))))))) [37, kd, f, wt, c, w, 42, ro, co, far, n, 0, 0, 0, 0] (zput (zput σ 42 0 (zU kd * wt)) 42 1 Dn)).bind fun r => if r.1 = 0 then sV r.2.1 r.2.2 else some r := by
    unfold d_L_loud
    rw [sQ_e]
    congr 1
    rw [sQ_s (e1 := [37, kd, f, wt, c, w, 42, ro, 0, 0, 0, 0, 0, 0, 0]) (σ1 := σ) (by simp [xC_e, xL_e, xU_e, xB_e, xD_e, xF_e, xG_e, xA_e, xE_e, xH_e, xI_e, xZ_e, xK_e, aN_e, aC_e, cR_e, cV_e, cA_e, cO_e, cN_e, bs_e, bn_e, zg_0, zg_S, sS_e, sX_e, sF_e, sG_e, sA_e, sE_e, sEo_e, sK_e, sQ_e, sI_e, sR_e, sV_e, sB_e, sC_e, sD_e, sN_e, st_0, st_S, zc_0, zc_S, g1, W0, e1, e2, e3])]
    rw [sQ_s (e1 := [37, kd, f, wt, c, w, 42, ro, co, 0, 0, 0, 0, 0, 0]) (σ1 := σ) (by simp [xC_e, xL_e, xU_e, xB_e, xD_e, xF_e, xG_e, xA_e, xE_e, xH_e, xI_e, xZ_e, xK_e, aN_e, aC_e, cR_e, cV_e, cA_e, cO_e, cN_e, bs_e, bn_e, zg_0, zg_S, sS_e, sX_e, sF_e, sG_e, sA_e, sE_e, sEo_e, sK_e, sQ_e, sI_e, sR_e, sV_e, sB_e, sC_e, sD_e, sN_e, st_0, st_S, zc_0, zc_S, g1, W0, e4, e5, e6])]
    rw [sQ_s (e1 := [37, kd, f, wt, c, w, 42, ro, co, far, 0, 0, 0, 0, 0]) (σ1 := σ) (by simp [xC_e, xL_e, xU_e, xB_e, xD_e, xF_e, xG_e, xA_e, xE_e, xH_e, xI_e, xZ_e, xK_e, aN_e, aC_e, cR_e, cV_e, cA_e, cO_e, cN_e, bs_e, bn_e, zg_0, zg_S, sS_e, sX_e, sF_e, sG_e, sA_e, sE_e, sEo_e, sK_e, sQ_e, sI_e, sR_e, sV_e, sB_e, sC_e, sD_e, sN_e, st_0, st_S, zc_0, zc_S, e7, e8, e9])]
    rw [sQ_s (e1 := [37, kd, f, wt, c, w, 42, ro, co, far, 0, 0, 0, 0, 0]) (σ1 := zput σ 42 0 (zU kd * wt)) (by
      rw [← U2]
      by_cases q : 0 < kd <;> simp [xC_e, xL_e, xU_e, xB_e, xD_e, xF_e, xG_e, xA_e, xE_e, xH_e, xI_e, xZ_e, xK_e, aN_e, aC_e, cR_e, cV_e, cA_e, cO_e, cN_e, bs_e, bn_e, zg_0, zg_S, sS_e, sX_e, sF_e, sG_e, sA_e, sE_e, sEo_e, sK_e, sQ_e, sI_e, sR_e, sV_e, sB_e, sC_e, sD_e, sN_e, st_0, st_S, zc_0, zc_S, r_eq, r_ne, r_lt, r_le, r_gt, r_ge, rb_ite, rb_0, rb_1, q, e10])]
    rw [sQ_s (e1 := [37, kd, f, wt, c, w, 42, ro, co, far, 0, 0, 0, 0, 0]) (σ1 := zput (zput σ 42 0 (zU kd * wt)) 42 1 (zU kd + far)) (by
      rw [← U3]
      by_cases q : 0 < kd <;> simp [xC_e, xL_e, xU_e, xB_e, xD_e, xF_e, xG_e, xA_e, xE_e, xH_e, xI_e, xZ_e, xK_e, aN_e, aC_e, cR_e, cV_e, cA_e, cO_e, cN_e, bs_e, bn_e, zg_0, zg_S, sS_e, sX_e, sF_e, sG_e, sA_e, sE_e, sEo_e, sK_e, sQ_e, sI_e, sR_e, sV_e, sB_e, sC_e, sD_e, sN_e, st_0, st_S, zc_0, zc_S, r_eq, r_ne, r_lt, r_le, r_gt, r_ge, rb_ite, rb_0, rb_1, q, e11, e12])]
    rw [sQ_s (e1 := [37, kd, f, wt, c, w, 42, ro, co, far, max ro (-ro), 0, 0, 0, 0]) (σ1 := zput (zput σ 42 0 (zU kd * wt)) 42 1 (zU kd + far)) (by
      by_cases q : ro < 0
      · have : max ro (-ro) = -ro := by omega
        simp [xC_e, xL_e, xU_e, xB_e, xD_e, xF_e, xG_e, xA_e, xE_e, xH_e, xI_e, xZ_e, xK_e, aN_e, aC_e, cR_e, cV_e, cA_e, cO_e, cN_e, bs_e, bn_e, zg_0, zg_S, sS_e, sX_e, sF_e, sG_e, sA_e, sE_e, sEo_e, sK_e, sQ_e, sI_e, sR_e, sV_e, sB_e, sC_e, sD_e, sN_e, st_0, st_S, zc_0, zc_S, r_eq, r_ne, r_lt, r_le, r_gt, r_ge, rb_ite, rb_0, rb_1, q, e13, this]
      · have : max ro (-ro) = ro := by omega
        simp [xC_e, xL_e, xU_e, xB_e, xD_e, xF_e, xG_e, xA_e, xE_e, xH_e, xI_e, xZ_e, xK_e, aN_e, aC_e, cR_e, cV_e, cA_e, cO_e, cN_e, bs_e, bn_e, zg_0, zg_S, sS_e, sX_e, sF_e, sG_e, sA_e, sE_e, sEo_e, sK_e, sQ_e, sI_e, sR_e, sV_e, sB_e, sC_e, sD_e, sN_e, st_0, st_S, zc_0, zc_S, r_eq, r_ne, r_lt, r_le, r_gt, r_ge, rb_ite, rb_0, rb_1, q, this])]
    rw [sQ_s (e1 := [37, kd, f, wt, c, w, 42, ro, co, far, n, 0, 0, 0, 0]) (σ1 := zput (zput σ 42 0 (zU kd * wt)) 42 1 (zU kd + far)) (by
      generalize hA : max ro (-ro) = A at *
      by_cases q1 : A < co
      · have e : n = co := by omega
        have q3 : ¬ co < 0 := by omega
        simp [xC_e, xL_e, xU_e, xB_e, xD_e, xF_e, xG_e, xA_e, xE_e, xH_e, xI_e, xZ_e, xK_e, aN_e, aC_e, cR_e, cV_e, cA_e, cO_e, cN_e, bs_e, bn_e, zg_0, zg_S, sS_e, sX_e, sF_e, sG_e, sA_e, sE_e, sEo_e, sK_e, sQ_e, sI_e, sR_e, sV_e, sB_e, sC_e, sD_e, sN_e, st_0, st_S, zc_0, zc_S, r_eq, r_ne, r_lt, r_le, r_gt, r_ge, rb_ite, rb_0, rb_1, q1, q3, e]
      · by_cases q2 : A < -co
        · have e : n = -co := by omega
          have q3 : co < 0 := by omega
          simp [xC_e, xL_e, xU_e, xB_e, xD_e, xF_e, xG_e, xA_e, xE_e, xH_e, xI_e, xZ_e, xK_e, aN_e, aC_e, cR_e, cV_e, cA_e, cO_e, cN_e, bs_e, bn_e, zg_0, zg_S, sS_e, sX_e, sF_e, sG_e, sA_e, sE_e, sEo_e, sK_e, sQ_e, sI_e, sR_e, sV_e, sB_e, sC_e, sD_e, sN_e, st_0, st_S, zc_0, zc_S, r_eq, r_ne, r_lt, r_le, r_gt, r_ge, rb_ite, rb_0, rb_1, q1, q2, q3, e14, e]
        · have e : n = A := by omega
          simp [xC_e, xL_e, xU_e, xB_e, xD_e, xF_e, xG_e, xA_e, xE_e, xH_e, xI_e, xZ_e, xK_e, aN_e, aC_e, cR_e, cV_e, cA_e, cO_e, cN_e, bs_e, bn_e, zg_0, zg_S, sS_e, sX_e, sF_e, sG_e, sA_e, sE_e, sEo_e, sK_e, sQ_e, sI_e, sR_e, sV_e, sB_e, sC_e, sD_e, sN_e, st_0, st_S, zc_0, zc_S, r_eq, r_ne, r_lt, r_le, r_gt, r_ge, rb_ite, rb_0, rb_1, q1, q2, e14, e])]
    rw [sQ_s (e1 := [37, kd, f, wt, c, w, 42, ro, co, far, n, 0, 0, 0, 0]) (σ1 := zput (zput σ 42 0 (zU kd * wt)) 42 1 Dn) (by
      refine (sD_0 (e1 := [37, kd, f, wt, c, w, 42, ro, co, far, n, kk, 0, 0, 0]) ?_).trans rfl
      rw [sQ_s (e1 := [37, kd, f, wt, c, w, 42, ro, co, far, n, n - 1, 0, 0, 0]) (σ1 := zput (zput σ 42 0 (zU kd * wt)) 42 1 (zU kd + far)) (by simp [xC_e, xL_e, xU_e, xB_e, xD_e, xF_e, xG_e, xA_e, xE_e, xH_e, xI_e, xZ_e, xK_e, aN_e, aC_e, cR_e, cV_e, cA_e, cO_e, cN_e, bs_e, bn_e, zg_0, zg_S, sS_e, sX_e, sF_e, sG_e, sA_e, sE_e, sEo_e, sK_e, sQ_e, sI_e, sR_e, sV_e, sB_e, sC_e, sD_e, sN_e, st_0, st_S, zc_0, zc_S, e15])]
      exact hl)]
  generalize zput (zput σ 42 0 (zU kd * wt)) 42 1 Dn = S at *
  have A1 : sS 12 (xI (cV (fun x => r_eq x 0) (xL 11)) (xU zneg (xL 7)) (xI (cR r_eq (xL 11) (xC 1)) (xL 8) (xI (cR r_eq (xL 11) (xC 2)) (xL 7) (xU zneg (xL 8))))) [37, kd, f, wt, c, w, 42, ro, co, far, n, w / 10, 0, 0, 0] S = some (0, [37, kd, f, wt, c, w, 42, ro, co, far, n, w / 10, al, 0, 0], S) := by
    rw [hal]
    by_cases q0 : w / 10 = 0
    · simp [xC_e, xL_e, xU_e, xB_e, xD_e, xF_e, xG_e, xA_e, xE_e, xH_e, xI_e, xZ_e, xK_e, aN_e, aC_e, cR_e, cV_e, cA_e, cO_e, cN_e, bs_e, bn_e, zg_0, zg_S, sS_e, sX_e, sF_e, sG_e, sA_e, sE_e, sEo_e, sK_e, sQ_e, sI_e, sR_e, sV_e, sB_e, sC_e, sD_e, sN_e, st_0, st_S, zc_0, zc_S, r_eq, r_ne, r_lt, r_le, r_gt, r_ge, rb_ite, rb_0, rb_1, q0, e13]
    · by_cases q1 : w / 10 = 1
      · simp [xC_e, xL_e, xU_e, xB_e, xD_e, xF_e, xG_e, xA_e, xE_e, xH_e, xI_e, xZ_e, xK_e, aN_e, aC_e, cR_e, cV_e, cA_e, cO_e, cN_e, bs_e, bn_e, zg_0, zg_S, sS_e, sX_e, sF_e, sG_e, sA_e, sE_e, sEo_e, sK_e, sQ_e, sI_e, sR_e, sV_e, sB_e, sC_e, sD_e, sN_e, st_0, st_S, zc_0, zc_S, r_eq, r_ne, r_lt, r_le, r_gt, r_ge, rb_ite, rb_0, rb_1, q1]
      · by_cases q2 : w / 10 = 2
        · simp [xC_e, xL_e, xU_e, xB_e, xD_e, xF_e, xG_e, xA_e, xE_e, xH_e, xI_e, xZ_e, xK_e, aN_e, aC_e, cR_e, cV_e, cA_e, cO_e, cN_e, bs_e, bn_e, zg_0, zg_S, sS_e, sX_e, sF_e, sG_e, sA_e, sE_e, sEo_e, sK_e, sQ_e, sI_e, sR_e, sV_e, sB_e, sC_e, sD_e, sN_e, st_0, st_S, zc_0, zc_S, r_eq, r_ne, r_lt, r_le, r_gt, r_ge, rb_ite, rb_0, rb_1, q2]
        · simp [xC_e, xL_e, xU_e, xB_e, xD_e, xF_e, xG_e, xA_e, xE_e, xH_e, xI_e, xZ_e, xK_e, aN_e, aC_e, cR_e, cV_e, cA_e, cO_e, cN_e, bs_e, bn_e, zg_0, zg_S, sS_e, sX_e, sF_e, sG_e, sA_e, sE_e, sEo_e, sK_e, sQ_e, sI_e, sR_e, sV_e, sB_e, sC_e, sD_e, sN_e, st_0, st_S, zc_0, zc_S, r_eq, r_ne, r_lt, r_le, r_gt, r_ge, rb_ite, rb_0, rb_1, q0, q1, q2, e14]
  rw [e_L_loud, pre]
  rw [sQ_s (e1 := [37, kd, f, wt, c, w, 42, ro, co, far, n, w / 10, 0, 0, 0]) (σ1 := S) (by simp [xC_e, xL_e, xU_e, xB_e, xD_e, xF_e, xG_e, xA_e, xE_e, xH_e, xI_e, xZ_e, xK_e, aN_e, aC_e, cR_e, cV_e, cA_e, cO_e, cN_e, bs_e, bn_e, zg_0, zg_S, sS_e, sX_e, sF_e, sG_e, sA_e, sE_e, sEo_e, sK_e, sQ_e, sI_e, sR_e, sV_e, sB_e, sC_e, sD_e, sN_e, st_0, st_S, zc_0, zc_S, e16])]
  rw [sQ_s A1]
  by_cases q : al = 0
  · rw [sQ_1 (e1 := [0]) (σ1 := S) (by simp [xC_e, xL_e, xU_e, xB_e, xD_e, xF_e, xG_e, xA_e, xE_e, xH_e, xI_e, xZ_e, xK_e, aN_e, aC_e, cR_e, cV_e, cA_e, cO_e, cN_e, bs_e, bn_e, zg_0, zg_S, sS_e, sX_e, sF_e, sG_e, sA_e, sE_e, sEo_e, sK_e, sQ_e, sI_e, sR_e, sV_e, sB_e, sC_e, sD_e, sN_e, st_0, st_S, zc_0, zc_S, r_eq, r_ne, r_lt, r_le, r_gt, r_ge, rb_ite, rb_0, rb_1, q])]
    refine ⟨S, by simp [bs_e, zg_0], fun a b h => hS0 a b h, ?_, ?_⟩
    · rw [hS1, q]
      unfold zWu
      rw [if_neg (by decide), if_neg (by decide)]
      rw [Int.mul_one, Int.mul_comm]
    · rw [hS2, q]
      unfold zWd
      rw [if_neg (by decide), if_neg (by decide), Int.mul_one]
  · have wb := zWud_b (a := al) hw
    have v1 : zWu al w = if 0 < al then 10 + w % 10 else 10 := by
      unfold zWu
      by_cases p : 0 < al
      · rw [if_pos p, if_pos p]
      · rw [if_neg p, if_neg p, if_pos (by omega)]
    have v2 : zWd al w = if 0 < al then 10 else 10 + w % 10 := by
      unfold zWd
      by_cases p : 0 < al
      · rw [if_pos p, if_pos p]
      · rw [if_neg p, if_neg p, if_pos (by omega)]
    have b1 := zmul_i (x := zU kd) (y := wt) 2 99 (by omega) (by omega)
    have b2 := zmul_i (x := zU kd * wt) (y := zWu al w) 198 19 (by omega) (by omega)
    have b3 := zmul_i (x := Dn) (y := zWd al w) 11008 19 (by omega) (by omega)
    have o1 : o_lmul (zU kd * wt) (zWu al w) = zU kd * wt * zWu al w := w64_id ⟨by omega, by omega⟩
    have o2 : o_lmul Dn (zWd al w) = Dn * zWd al w := w64_id ⟨by omega, by omega⟩
    rw [sQ_s (e1 := [37, kd, f, wt, c, w, 42, ro, co, far, n, w / 10, al, 0, 0]) (σ1 := S) (by simp [xC_e, xL_e, xU_e, xB_e, xD_e, xF_e, xG_e, xA_e, xE_e, xH_e, xI_e, xZ_e, xK_e, aN_e, aC_e, cR_e, cV_e, cA_e, cO_e, cN_e, bs_e, bn_e, zg_0, zg_S, sS_e, sX_e, sF_e, sG_e, sA_e, sE_e, sEo_e, sK_e, sQ_e, sI_e, sR_e, sV_e, sB_e, sC_e, sD_e, sN_e, st_0, st_S, zc_0, zc_S, r_eq, r_ne, r_lt, r_le, r_gt, r_ge, rb_ite, rb_0, rb_1, q])]
    rw [sQ_s (e1 := [37, kd, f, wt, c, w, 42, ro, co, far, n, w / 10, al, 10 + w % 10, 0]) (σ1 := S) (by simp [xC_e, xL_e, xU_e, xB_e, xD_e, xF_e, xG_e, xA_e, xE_e, xH_e, xI_e, xZ_e, xK_e, aN_e, aC_e, cR_e, cV_e, cA_e, cO_e, cN_e, bs_e, bn_e, zg_0, zg_S, sS_e, sX_e, sF_e, sG_e, sA_e, sE_e, sEo_e, sK_e, sQ_e, sI_e, sR_e, sV_e, sB_e, sC_e, sD_e, sN_e, st_0, st_S, zc_0, zc_S, e17])]
    rw [sQ_s (e1 := [37, kd, f, wt, c, w, 42, ro, co, far, n, w / 10, al, 10 + w % 10, 0]) (σ1 := zput S 42 0 (zU kd * wt * zWu al w)) (by
      rw [← o1, v1]
      by_cases p : 0 < al <;> simp [xC_e, xL_e, xU_e, xB_e, xD_e, xF_e, xG_e, xA_e, xE_e, xH_e, xI_e, xZ_e, xK_e, aN_e, aC_e, cR_e, cV_e, cA_e, cO_e, cN_e, bs_e, bn_e, zg_0, zg_S, sS_e, sX_e, sF_e, sG_e, sA_e, sE_e, sEo_e, sK_e, sQ_e, sI_e, sR_e, sV_e, sB_e, sC_e, sD_e, sN_e, st_0, st_S, zc_0, zc_S, r_eq, r_ne, r_lt, r_le, r_gt, r_ge, rb_ite, rb_0, rb_1, p, hS1])]
    have F : sEo o_lmul 42 2 (xC 1) (xI (cV (fun x => r_gt x 0) (xL 12)) (xC 10) (xL 13)) [37, kd, f, wt, c, w, 42, ro, co, far, n, w / 10, al, 10 + w % 10, 0] (zput S 42 0 (zU kd * wt * zWu al w)) = some (0, [37, kd, f, wt, c, w, 42, ro, co, far, n, w / 10, al, 10 + w % 10, 0], zput (zput S 42 0 (zU kd * wt * zWu al w)) 42 1 (Dn * zWd al w)) := by
      have r : zput S 42 0 (zU kd * wt * zWu al w) 42 1 = Dn := by rw [zput_i (by decide)]; exact hS2
      rw [← o2, v2]
      by_cases p : 0 < al <;> simp [xC_e, xL_e, xU_e, xB_e, xD_e, xF_e, xG_e, xA_e, xE_e, xH_e, xI_e, xZ_e, xK_e, aN_e, aC_e, cR_e, cV_e, cA_e, cO_e, cN_e, bs_e, bn_e, zg_0, zg_S, sS_e, sX_e, sF_e, sG_e, sA_e, sE_e, sEo_e, sK_e, sQ_e, sI_e, sR_e, sV_e, sB_e, sC_e, sD_e, sN_e, st_0, st_S, zc_0, zc_S, r_eq, r_ne, r_lt, r_le, r_gt, r_ge, rb_ite, rb_0, rb_1, p, r]
    rw [F]
    refine ⟨zput (zput S 42 0 (zU kd * wt * zWu al w)) 42 1 (Dn * zWd al w), by simp [bs_e, sV_e, zg_0], fun a b h => ?_, ?_, zput_self _ _ _ _⟩
    · rw [zput_o h, zput_o h]
      exact hS0 a b h
    · rw [zput_i (by decide), zput_self]
      ac_rfl
