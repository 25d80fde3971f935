theorem zmul_i {x y : Int} (a b : Nat) (hx : -(a : Int) ≤ x ∧ x ≤ a) (hy : -(b : Int) ≤ y ∧ y ≤ b) : -((a * b : Nat) : Int) ≤ x * y ∧ x * y ≤ ((a * b : Nat) : Int) := by
  have h1 : x.natAbs ≤ a := by omega
  have h2 : y.natAbs ≤ b := by omega
  have h3 := Nat.mul_le_mul h1 h2
  have h4 := Int.natAbs_mul x y
  omega
theorem w_stepsOn {on k n : Int} (hn : n ≤ 5) (h1 : on ≤ n) (h2 : -n ≤ on) (hk : 1 ≤ k) (hk2 : k < n) (σ : zHp) : m_X3_stepsOn [k, on, n] σ = some (zOn on k n, σ) := by
  obtain ⟨p1, p2, -, -⟩ := zOn_i hn h1 h2 hk hk2
  have e1 : o_imul 2 k = 2 * k := w32_id ⟨by omega, by omega⟩
  have b := zmul_i (x := 2 * k) (y := on) 10 5 (by omega) (by omega)
  have e2 : o_imul (2 * k) on = 2 * k * on := w32_id ⟨by omega, by omega⟩
  have e3 : o_isub (2 * k * on) n = 2 * k * on - n := w32_id ⟨by omega, by omega⟩
  have e4 : o_iadd (2 * k * on) n = 2 * k * on + n := w32_id ⟨by omega, by omega⟩
  have e5 : o_imul 2 n = 2 * n := w32_id ⟨by omega, by omega⟩
  have n0 : ¬ 2 * n = 0 := by omega
  have e6 : w32 (zOn on k n) = zOn on k n := by
    refine w32_id ⟨?_, ?_⟩ <;> rcases Int.le_total 0 on with q | q
    · have := p1 q; omega
    · have := p2 q; omega
    · have := p1 q; omega
    · have := p2 q; omega
  by_cases s : 2 * k * on < 0
  · have e7 : zdiv (2 * k * on - n) (2 * n) = zOn on k n := by
      unfold zdiv
      rw [← e6]
      unfold zOn
      rw [if_pos s]
    simp only [e_X3_stepsOn, d_X3_stepsOn, xC_e, xL_e, xU_e, xB_e, xD_e, xF_e, xG_e, xA_e, xE_e, xH_e, xI_e, xZ_e, xK_e, aN_e, aC_e, cR_e, cV_e, cA_e, cO_e, cN_e, bs_e, bn_e, zg_0, zg_S, sS_e, sX_e, sF_e, sG_e, sA_e, sE_e, sEo_e, sK_e, sQ_e, sI_e, sR_e, sV_e, sB_e, sC_e, sD_e, sN_e, st_0, st_S, zc_0, zc_S, r_eq, r_ne, r_lt, r_le, r_gt, r_ge, rb_ite, rb_0, rb_1, e1, e2]
    simp [s, xC_e, xL_e, xU_e, xB_e, xD_e, xF_e, xG_e, xA_e, xE_e, xH_e, xI_e, xZ_e, xK_e, aN_e, aC_e, cR_e, cV_e, cA_e, cO_e, cN_e, bs_e, bn_e, zg_0, zg_S, sS_e, sX_e, sF_e, sG_e, sA_e, sE_e, sEo_e, sK_e, sQ_e, sI_e, sR_e, sV_e, sB_e, sC_e, sD_e, sN_e, st_0, st_S, zc_0, zc_S, e3, e5, n0, e7]
  · have e7 : zdiv (2 * k * on + n) (2 * n) = zOn on k n := by
      unfold zdiv
      rw [← e6]
      unfold zOn
      rw [if_neg s]
    simp only [e_X3_stepsOn, d_X3_stepsOn, xC_e, xL_e, xU_e, xB_e, xD_e, xF_e, xG_e, xA_e, xE_e, xH_e, xI_e, xZ_e, xK_e, aN_e, aC_e, cR_e, cV_e, cA_e, cO_e, cN_e, bs_e, bn_e, zg_0, zg_S, sS_e, sX_e, sF_e, sG_e, sA_e, sE_e, sEo_e, sK_e, sQ_e, sI_e, sR_e, sV_e, sB_e, sC_e, sD_e, sN_e, st_0, st_S, zc_0, zc_S, r_eq, r_ne, r_lt, r_le, r_gt, r_ge, rb_ite, rb_0, rb_1, e1, e2]
    simp [s, xC_e, xL_e, xU_e, xB_e, xD_e, xF_e, xG_e, xA_e, xE_e, xH_e, xI_e, xZ_e, xK_e, aN_e, aC_e, cR_e, cV_e, cA_e, cO_e, cN_e, bs_e, bn_e, zg_0, zg_S, sS_e, sX_e, sF_e, sG_e, sA_e, sE_e, sEo_e, sK_e, sQ_e, sI_e, sR_e, sV_e, sB_e, sC_e, sD_e, sN_e, st_0, st_S, zc_0, zc_S, e4, e5, n0, e7]
/-- the first m cells between, as a set -/
def zWy (σ : zHp) (f t : Int) : Nat → Int
  | 0 => 0
  | m + 1 => zOr (zWy σ f t m) (zShl 1 (zBt σ f t (m + 1)))
theorem r32_Wy (σ : zHp) (f t : Int) : ∀ m, r32 (zWy σ f t m)
  | 0 => (⟨by decide, by decide⟩ : r32 0)
  | _ + 1 => r32_or _ _
theorem o_abs_e {x : Int} (h : -2147483648 < x ∧ x < 2147483648) : o_abs x = max x (-x) := by
  unfold o_abs zneg
  by_cases q : 0 ≤ x
  · rw [if_pos q]; omega
  · rw [if_neg q, w32_id ⟨by omega, by omega⟩]; omega
theorem o_max_e (x y : Int) : o_max x y = max x y := by
  unfold o_max
  split <;> omega
theorem w_betweenBody {σ : zHp} {f t dr dc n w kk r c r1 c1 cell : Int} (f30 : 0 ≤ f ∧ f < 30) (s1 : m_X3_stepsOn [kk, dr, n] σ = some (r1, σ)) (s2 : m_X3_stepsOn [kk, dc, n] σ = some (c1, σ)) (a1 : o_iadd (σ 3 f) r1 = r) (a2 : o_iadd (σ 4 f) c1 = c) (a3 : o_iadd (o_imul r (σ 1 1)) c = cell) :
    lf_X3_between_1 [1, f, t, dr, dc, n, w, kk, 0, 0] σ = some (0, [1, f, t, dr, dc, n, zOr w (zShl 1 cell), kk, 0, 0], σ) := by
  simp [lf_X3_between_1, xC_e, xL_e, xU_e, xB_e, xD_e, xF_e, xG_e, xA_e, xE_e, xH_e, xI_e, xZ_e, xK_e, aN_e, aC_e, cR_e, cV_e, cA_e, cO_e, cN_e, bs_e, bn_e, zg_0, zg_S, sS_e, sX_e, sF_e, sG_e, sA_e, sE_e, sEo_e, sK_e, sQ_e, sI_e, sR_e, sV_e, sB_e, sC_e, sD_e, sN_e, st_0, st_S, zc_0, zc_S, s1, s2, a1, a2, a3, f30]
theorem w_between {σ : zHp} (hL : zIL σ) (hH : zIH σ) {f t : Int} (hf : 0 ≤ f ∧ f < σ 1 2) (ht : 0 ≤ t ∧ t < σ 1 2) : m_X3_between [1, f, t] σ = some (zWy σ f t (zLen σ f t - 1).toNat, σ) := by
  obtain ⟨l1, l2, l3, l4, l5, l6, l7, l8, l9, l10, l11⟩ := zLen_i hL hf ht
  have hN := zN_eq hL
  obtain ⟨-, -, -, f3, f4⟩ := hH f hf.1 hf.2
  obtain ⟨-, -, -, t3, t4⟩ := hH t ht.1 ht.2
  have rf := zRC hL hf
  have rt := zRC hL ht
  have f30 : 0 ≤ f ∧ f < 30 := by omega
  have t30 : 0 ≤ t ∧ t < 30 := by omega
  have er : o_isub (σ 3 t) (σ 3 f) = zRo σ f t := by rw [f3, t3]; exact w32_id ⟨by omega, by omega⟩
  have ec : o_isub (σ 4 t) (σ 4 f) = zCo σ f t := by rw [f4, t4]; exact w32_id ⟨by omega, by omega⟩
  have en : o_max (o_abs (zRo σ f t)) (o_abs (zCo σ f t)) = zLen σ f t := by
    rw [o_max_e, o_abs_e (by omega), o_abs_e (by omega)]; rfl
  have hl := zl_seq (c := lc_X3_between_1) (f := lf_X3_between_1) (s := ls_X3_between_1) (fun k => [1, f, t, zRo σ f t, zCo σ f t, zLen σ f t, zWy σ f t k, ((k + 1 : Nat) : Int), 0, 0]) (fun _ => σ) (zLen σ f t - 1).toNat
    (fun k hk => by
      have : ((k + 1 : Nat) : Int) < zLen σ f t := by omega
      simp only [lc_X3_between_1, xC_e, xL_e, xU_e, xB_e, xD_e, xF_e, xG_e, xA_e, xE_e, xH_e, xI_e, xZ_e, xK_e, aN_e, aC_e, cR_e, cV_e, cA_e, cO_e, cN_e, bs_e, bn_e, zg_0, zg_S, sS_e, sX_e, sF_e, sG_e, sA_e, sE_e, sEo_e, sK_e, sQ_e, sI_e, sR_e, sV_e, sB_e, sC_e, sD_e, sN_e, st_0, st_S, zc_0, zc_S, r_lt]
      rw [decide_eq_true this])
    (fun k hk => by
      refine ⟨0, [1, f, t, zRo σ f t, zCo σ f t, zLen σ f t, zWy σ f t (k + 1), ((k + 1 : Nat) : Int), 0, 0], σ, ?_, Or.inl rfl, ?_⟩
      · have k1 : 1 ≤ ((k + 1 : Nat) : Int) ∧ ((k + 1 : Nat) : Int) < zLen σ f t := by omega
        have s1 := w_stepsOn l6 l7 l8 k1.1 k1.2 σ
        have s2 := w_stepsOn l6 l9 l10 k1.1 k1.2 σ
        obtain ⟨b1, b2, b3, b4⟩ := zBt_i hL hf ht k1
        have a1 : o_iadd (σ 3 f) (zOn (zRo σ f t) ((k + 1 : Nat) : Int) (zLen σ f t)) = f / σ 1 1 + zOn (zRo σ f t) ((k + 1 : Nat) : Int) (zLen σ f t) := by
          rw [f3]; exact w32_id ⟨by omega, by omega⟩
        have a2 : o_iadd (σ 4 f) (zOn (zCo σ f t) ((k + 1 : Nat) : Int) (zLen σ f t)) = f % σ 1 1 + zOn (zCo σ f t) ((k + 1 : Nat) : Int) (zLen σ f t) := by
          rw [f4]; exact w32_id ⟨by omega, by omega⟩
        have bl := zBt_lt hL hf ht k1
        have bm := zmul_i (x := f / σ 1 1 + zOn (zRo σ f t) ((k + 1 : Nat) : Int) (zLen σ f t)) (y := σ 1 1) 5 6 (by omega) (by omega)
        have a3 : o_imul (f / σ 1 1 + zOn (zRo σ f t) ((k + 1 : Nat) : Int) (zLen σ f t)) (σ 1 1) = (f / σ 1 1 + zOn (zRo σ f t) ((k + 1 : Nat) : Int) (zLen σ f t)) * σ 1 1 := w32_id ⟨by omega, by omega⟩
        have a4 : o_iadd ((f / σ 1 1 + zOn (zRo σ f t) ((k + 1 : Nat) : Int) (zLen σ f t)) * σ 1 1) (f % σ 1 1 + zOn (zCo σ f t) ((k + 1 : Nat) : Int) (zLen σ f t)) = zBt σ f t ((k + 1 : Nat) : Int) := by
          have q : (f / σ 1 1 + zOn (zRo σ f t) ((k + 1 : Nat) : Int) (zLen σ f t)) * σ 1 1 + (f % σ 1 1 + zOn (zCo σ f t) ((k + 1 : Nat) : Int) (zLen σ f t)) = zBt σ f t ((k + 1 : Nat) : Int) := by
            unfold zBt
            rw [Int.mul_comm]
            omega
          show w32 _ = _
          rw [q]
          exact w32_id ⟨by omega, by omega⟩
        rw [← a3] at a4
        exact w_betweenBody f30 s1 s2 a1 a2 a4
      · have e := zinc (k := k + 1) (by omega)
        generalize ((k + 1 : Nat) : Int) = kk at e
        simp only [ls_X3_between_1, xC_e, xL_e, xU_e, xB_e, xD_e, xF_e, xG_e, xA_e, xE_e, xH_e, xI_e, xZ_e, xK_e, aN_e, aC_e, cR_e, cV_e, cA_e, cO_e, cN_e, bs_e, bn_e, zg_0, zg_S, sS_e, sX_e, sF_e, sG_e, sA_e, sE_e, sEo_e, sK_e, sQ_e, sI_e, sR_e, sV_e, sB_e, sC_e, sD_e, sN_e, st_0, st_S, zc_0, zc_S, e])
    (by
      have : ¬ ((((zLen σ f t - 1).toNat + 1 : Nat) : Int) < zLen σ f t) ∨ zLen σ f t = 0 := by omega
      have q : ¬ ((((zLen σ f t - 1).toNat + 1 : Nat) : Int) < zLen σ f t) := by omega
      simp only [lc_X3_between_1, xC_e, xL_e, xU_e, xB_e, xD_e, xF_e, xG_e, xA_e, xE_e, xH_e, xI_e, xZ_e, xK_e, aN_e, aC_e, cR_e, cV_e, cA_e, cO_e, cN_e, bs_e, bn_e, zg_0, zg_S, sS_e, sX_e, sF_e, sG_e, sA_e, sE_e, sEo_e, sK_e, sQ_e, sI_e, sR_e, sV_e, sB_e, sC_e, sD_e, sN_e, st_0, st_S, zc_0, zc_S, r_lt]
      rw [decide_eq_false q])
    (zf_lt (by omega))
  have hl2 : sW lc_X3_between_1 lf_X3_between_1 ls_X3_between_1 [1, f, t, zRo σ f t, zCo σ f t, zLen σ f t, 0, 1, 0, 0] σ = some (0, [1, f, t, zRo σ f t, zCo σ f t, zLen σ f t, zWy σ f t (zLen σ f t - 1).toNat, (((zLen σ f t - 1).toNat + 1 : Nat) : Int), 0, 0], σ) := hl
  simp [e_X3_between, d_X3_between, xC_e, xL_e, xU_e, xB_e, xD_e, xF_e, xG_e, xA_e, xE_e, xH_e, xI_e, xZ_e, xK_e, aN_e, aC_e, cR_e, cV_e, cA_e, cO_e, cN_e, bs_e, bn_e, zg_0, zg_S, sS_e, sX_e, sF_e, sG_e, sA_e, sE_e, sEo_e, sK_e, sQ_e, sI_e, sR_e, sV_e, sB_e, sC_e, sD_e, sN_e, st_0, st_S, zc_0, zc_S, f30, t30, er, ec, en, hl2]
