/-! a whole turn -/
section QTURN
variable {L : Nat} {xs : Nat → Int32}
theorem q_lwB6 {x f y1 y2 y3 u1 u2 : zHp} {n C N t t9 cv w c be co k2 k3 k5 : Int} (h9 : o_iadd 9 t = t9) (hc : ∀ s, m_L_cell L xs [0, t9] s = some (cv, s)) (hw : ∀ s, m_L_some [cv, 40] s = some (w, s)) (hs : ∀ s, m_L_some [zShr cv 6, C] s = some (c, s)) (hcap : zct x < zcap) (hf : zfresh x 39 = f)
    (l2 : sW (lc_L_law_2 L xs) (lf_L_law_2 L xs) (ls_L_law_2 L xs) [0, 0, 37, n, C, N, 38, t, w, 39, 0, 0, 0, 0, 0, 0, 0] f = some (0, [0, 0, 37, n, C, N, 38, t, w, 39, k2, 0, 0, 0, 0, 0, 0], y1))
    (l3 : sW (lc_L_law_3 L xs) (lf_L_law_3 L xs) (ls_L_law_3 L xs) [0, 0, 37, n, C, N, 38, t, w, 39, 0, 0, 0, 0, 0, 0, 0] y1 = some (0, [0, 0, 37, n, C, N, 38, t, w, 39, k3, 0, 0, 0, 0, 0, 0], y2))
    (l5 : sW (lc_L_law_5 L xs) (lf_L_law_5 L xs) (ls_L_law_5 L xs) [0, 0, 37, n, C, N, 38, t, w, 39, c, -9, -9, 0, 0, 0, 0] y2 = some (0, [0, 0, 37, n, C, N, 38, t, w, 39, c, be, co, k5, 0, 0, 0], y3))
    (h1 : m_X8_cheapest [0, c, w, 0] y3 = some (be, u1)) (h2 : m_X8_cheapest [0, c, w, 1] u1 = some (co, u2)) :
    lf_L_law_6 L xs [0, 0, 37, n, C, N, 38, t, 0, 0, 0, 0, 0, 0, 0, 0, 0] x = some (0, [0, 0, 37, n, C, N, 38, t, 0, 0, 0, 0, 0, 0, 0, 0, 0], u2) := by
  unfold lf_L_law_6
  refine (sD_0 (e1 := [0, 0, 37, n, C, N, 38, t, w, 39, c, be, co, 0, 0, 0, 0]) ?_).trans rfl
  rw [sQ_s (e1 := [0, 0, 37, n, C, N, 38, t, w, 0, 0, 0, 0, 0, 0, 0, 0]) (σ1 := x) (by simp [xC_e, xL_e, xU_e, xB_e, xD_e, xF_e, xG_e, xA_e, xE_e, xH_e, xI_e, xZ_e, xK_e, aN_e, aC_e, cR_e, cV_e, cA_e, cO_e, cN_e, bs_e, bn_e, zg_0, zg_S, sS_e, sX_e, sF_e, sG_e, sA_e, sE_e, sEo_e, sK_e, sQ_e, sI_e, sR_e, sV_e, sB_e, sC_e, sD_e, sN_e, st_0, st_S, zc_0, zc_S, h9, hc, hw])]
  unfold sNw
  rw [if_pos hcap, show ((39 : Nat) : Int) = 39 from rfl, hf]
  show sQ _ _ [0, 0, 37, n, C, N, 38, t, w, 39, 0, 0, 0, 0, 0, 0, 0] f = _
  rw [sQ_s (e1 := [0, 0, 37, n, C, N, 38, t, w, 39, 0, 0, 0, 0, 0, 0, 0]) (σ1 := y1) (by
    refine (sD_0 (e1 := [0, 0, 37, n, C, N, 38, t, w, 39, k2, 0, 0, 0, 0, 0, 0]) ?_).trans rfl
    rw [sQ_s (e1 := [0, 0, 37, n, C, N, 38, t, w, 39, 0, 0, 0, 0, 0, 0, 0]) (σ1 := f) (by simp [xC_e, xL_e, xU_e, xB_e, xD_e, xF_e, xG_e, xA_e, xE_e, xH_e, xI_e, xZ_e, xK_e, aN_e, aC_e, cR_e, cV_e, cA_e, cO_e, cN_e, bs_e, bn_e, zg_0, zg_S, sS_e, sX_e, sF_e, sG_e, sA_e, sE_e, sEo_e, sK_e, sQ_e, sI_e, sR_e, sV_e, sB_e, sC_e, sD_e, sN_e, st_0, st_S, zc_0, zc_S])]
    exact l2)]
  rw [sQ_s (e1 := [0, 0, 37, n, C, N, 38, t, w, 39, 0, 0, 0, 0, 0, 0, 0]) (σ1 := y2) (by
    refine (sD_0 (e1 := [0, 0, 37, n, C, N, 38, t, w, 39, k3, 0, 0, 0, 0, 0, 0]) ?_).trans rfl
    rw [sQ_s (e1 := [0, 0, 37, n, C, N, 38, t, w, 39, 0, 0, 0, 0, 0, 0, 0]) (σ1 := y1) (by simp [xC_e, xL_e, xU_e, xB_e, xD_e, xF_e, xG_e, xA_e, xE_e, xH_e, xI_e, xZ_e, xK_e, aN_e, aC_e, cR_e, cV_e, cA_e, cO_e, cN_e, bs_e, bn_e, zg_0, zg_S, sS_e, sX_e, sF_e, sG_e, sA_e, sE_e, sEo_e, sK_e, sQ_e, sI_e, sR_e, sV_e, sB_e, sC_e, sD_e, sN_e, st_0, st_S, zc_0, zc_S])]
    exact l3)]
  rw [sQ_s (e1 := [0, 0, 37, n, C, N, 38, t, w, 39, c, 0, 0, 0, 0, 0, 0]) (σ1 := y2) (by simp [xC_e, xL_e, xU_e, xB_e, xD_e, xF_e, xG_e, xA_e, xE_e, xH_e, xI_e, xZ_e, xK_e, aN_e, aC_e, cR_e, cV_e, cA_e, cO_e, cN_e, bs_e, bn_e, zg_0, zg_S, sS_e, sX_e, sF_e, sG_e, sA_e, sE_e, sEo_e, sK_e, sQ_e, sI_e, sR_e, sV_e, sB_e, sC_e, sD_e, sN_e, st_0, st_S, zc_0, zc_S, h9, hc, hs])]
  rw [sQ_s (e1 := [0, 0, 37, n, C, N, 38, t, w, 39, c, -9, 0, 0, 0, 0, 0]) (σ1 := y2) (by simp [xC_e, xL_e, xU_e, xB_e, xD_e, xF_e, xG_e, xA_e, xE_e, xH_e, xI_e, xZ_e, xK_e, aN_e, aC_e, cR_e, cV_e, cA_e, cO_e, cN_e, bs_e, bn_e, zg_0, zg_S, sS_e, sX_e, sF_e, sG_e, sA_e, sE_e, sEo_e, sK_e, sQ_e, sI_e, sR_e, sV_e, sB_e, sC_e, sD_e, sN_e, st_0, st_S, zc_0, zc_S])]
  rw [sQ_s (e1 := [0, 0, 37, n, C, N, 38, t, w, 39, c, -9, -9, 0, 0, 0, 0]) (σ1 := y2) (by simp [xC_e, xL_e, xU_e, xB_e, xD_e, xF_e, xG_e, xA_e, xE_e, xH_e, xI_e, xZ_e, xK_e, aN_e, aC_e, cR_e, cV_e, cA_e, cO_e, cN_e, bs_e, bn_e, zg_0, zg_S, sS_e, sX_e, sF_e, sG_e, sA_e, sE_e, sEo_e, sK_e, sQ_e, sI_e, sR_e, sV_e, sB_e, sC_e, sD_e, sN_e, st_0, st_S, zc_0, zc_S])]
  rw [sQ_s (e1 := [0, 0, 37, n, C, N, 38, t, w, 39, c, be, co, 0, 0, 0, 0]) (σ1 := y3) (by
    refine (sD_0 (e1 := [0, 0, 37, n, C, N, 38, t, w, 39, c, be, co, k5, 0, 0, 0]) ?_).trans rfl
    rw [sQ_s (e1 := [0, 0, 37, n, C, N, 38, t, w, 39, c, -9, -9, 0, 0, 0, 0]) (σ1 := y2) (by simp [xC_e, xL_e, xU_e, xB_e, xD_e, xF_e, xG_e, xA_e, xE_e, xH_e, xI_e, xZ_e, xK_e, aN_e, aC_e, cR_e, cV_e, cA_e, cO_e, cN_e, bs_e, bn_e, zg_0, zg_S, sS_e, sX_e, sF_e, sG_e, sA_e, sE_e, sEo_e, sK_e, sQ_e, sI_e, sR_e, sV_e, sB_e, sC_e, sD_e, sN_e, st_0, st_S, zc_0, zc_S])]
    exact l5)]
  simp [xC_e, xL_e, xU_e, xB_e, xD_e, xF_e, xG_e, xA_e, xE_e, xH_e, xI_e, xZ_e, xK_e, aN_e, aC_e, cR_e, cV_e, cA_e, cO_e, cN_e, bs_e, bn_e, zg_0, zg_S, sS_e, sX_e, sF_e, sG_e, sA_e, sE_e, sEo_e, sK_e, sQ_e, sI_e, sR_e, sV_e, sB_e, sC_e, sD_e, sN_e, st_0, st_S, zc_0, zc_S, r_eq, r_ne, r_lt, r_le, r_gt, r_ge, rb_ite, rb_0, rb_1, h1, h2]
theorem q_lwC6 {υ : zHp} {n C N t a1 a2 a3 a4 a5 a6 a7 a8 a9 : Int} : lc_L_law_6 L xs [0, 0, 37, n, C, N, 38, t, a1, a2, a3, a4, a5, a6, a7, a8, a9] υ = some (decide (t < 3), υ) := by
  simp [lc_L_law_6, xC_e, xL_e, xU_e, xB_e, xD_e, xF_e, xG_e, xA_e, xE_e, xH_e, xI_e, xZ_e, xK_e, aN_e, aC_e, cR_e, cV_e, cA_e, cO_e, cN_e, bs_e, bn_e, zg_0, zg_S, sS_e, sX_e, sF_e, sG_e, sA_e, sE_e, sEo_e, sK_e, sQ_e, sI_e, sR_e, sV_e, sB_e, sC_e, sD_e, sN_e, st_0, st_S, zc_0, zc_S, r_eq, r_ne, r_lt, r_le, r_gt, r_ge, rb_ite, rb_0, rb_1]
theorem qW.fr {σ x : zHp} (h : qW σ x) {k : Nat} (hk : 38 ≤ k ∧ k ≤ 42) (hz : zoc k = 100 ∨ zoc k = 101) (hc : zct x < zcap) : qW σ (zfresh x k) ∧ (∀ b : Int, zfresh x k 37 b = x 37 b) ∧ zct (zfresh x k) = zct x + 1 := by
  refine ⟨h.st (zOk_fresh hz h.1 hc) (fun a b q => zfresh_f (fun z => ?_) (fun z => ?_)), fun b => zfresh_f (by omega) (by decide), zct_fresh x k⟩
  · unfold zfree at q
    have := of_decide_eq_false q
    omega
  · rw [z] at q
    simp [zfree] at q
theorem T_turn {σ x : zHp} (hI : zInv σ) (hq : zGq σ) (h : qW σ x) (hu : qU (zNb σ) (σ 9) x) (h12 : 0 < σ 1 2) {n t : Int} (ht : 0 ≤ t ∧ t < 3) (hcap : zct x + 1300 < zcap) :
    ∃ y, lf_L_law_6 L xs [0, 0, 37, n, (zNc σ : Int), (zNb σ : Int), 38, t, 0, 0, 0, 0, 0, 0, 0, 0, 0] x = some (0, [0, 0, 37, n, (zNc σ : Int), (zNb σ : Int), 38, t, 0, 0, 0, 0, 0, 0, 0, 0, 0], y) ∧ qW σ y ∧ qU (zNb σ) (σ 9) y ∧ zct y ≤ zct x + 1300 := by
  obtain ⟨n1, n2⟩ := zNb_e hI
  obtain ⟨c1, c2⟩ := zNc_e hI
  have h9 : o_iadd 9 t = 9 + t := w32_id ⟨by omega, by omega⟩
  have hc := q_cell L xs (k := 9 + t) (by omega)
  generalize qc L xs (9 + t) = cv at hc
  have hsw := q_some (v := cv) (n := 40) (by decide)
  obtain ⟨w0, w1⟩ := qs_i (v := cv) (n := 40) (by decide)
  generalize qs cv 40 = w at hsw w0 w1
  have hw : 0 ≤ w ∧ w ≤ 39 := ⟨w0, by omega⟩
  have cp : (0 : Int) < (zNc σ : Int) := by omega
  have hsc := q_some (v := zShr cv 6) (n := (zNc σ : Int)) cp
  obtain ⟨a0, a1⟩ := qs_i (v := zShr cv 6) (n := (zNc σ : Int)) cp
  generalize qs (zShr cv 6) (zNc σ : Int) = c at hsc a0 a1
  have hcc : 0 ≤ c ∧ c < σ 1 2 := ⟨a0, by omega⟩
  obtain ⟨f1, f2, f3⟩ := h.fr (k := 39) (by decide) (Or.inl rfl) (show zct x < zcap by omega)
  have f39 : ∀ b, zfresh x ((39 : Nat) : Int) 39 b = 0 := fun b => zfresh_k x 39 b
  generalize hf : zfresh x ((39 : Nat) : Int) = f at f1 f2 f3 f39
  have fu : qU (zNb σ) (σ 9) f := hu.cl f2
  obtain ⟨y, l2, y1, y2, y3, y4⟩ := zfor0 (c := lc_L_law_2 L xs) (f := lf_L_law_2 L xs) (i := 10) (lo := 0) (σ := f) (zNc σ) (fun k => [0, 0, 37, n, (zNc σ : Int), (zNb σ : Int), 38, t, w, 39, 0 + (k : Int), 0, 0, 0, 0, 0, 0])
    (fun k y => qW σ y ∧ qU (zNb σ) (σ 9) y ∧ zct y = zct f + 3 * (k : Int) ∧ ∀ b : Int, 0 ≤ b → b < zNb σ → y 39 b = zSt2 (zRb (zFF σ w) (σ 9) (zGG σ w) (zNb σ) b) k)
    ⟨f1, fu, by omega, fun b b0 b1 => f39 b⟩ (fun k => rfl) (by decide) (by omega)
    (fun k y hk hy => by
      rw [q_lwC2]
      have : (0 + (k : Int) < ((zNc σ : Nat) : Int)) ↔ k < zNc σ := by omega
      simp only [this])
    (fun k y hk hy => by
      obtain ⟨y1, y2, y3, y4⟩ := hy
      obtain ⟨z, z1, z2, z3, z4, z5⟩ := T_cell (L := L) (xs := xs) hI hq y1 y2 (n := n) (t := t) hk hw (by omega) y4
      rw [z0k]
      exact ⟨_, _, _, z1, Or.inl rfl, rfl, rfl, z2, z3, by omega, z5⟩)
  obtain ⟨z, l3, z1, z2, z3, z4⟩ := zfor0 (c := lc_L_law_3 L xs) (f := lf_L_law_3 L xs) (i := 10) (lo := 0) (σ := y) (zNb σ) (fun k => [0, 0, 37, n, (zNc σ : Int), (zNb σ : Int), 38, t, w, 39, 0 + (k : Int), 0, 0, 0, 0, 0, 0])
    (fun k z => qW σ z ∧ qU (zNb σ) (σ 9) z ∧ zct z = zct y ∧ ∀ b : Int, z 39 b = y 39 b)
    ⟨y1, y2, rfl, fun b => rfl⟩ (fun k => rfl) (by decide) (by omega)
    (fun k z hk hz => by
      rw [q_lwC3]
      have : (0 + (k : Int) < ((zNb σ : Nat) : Int)) ↔ k < zNb σ := by omega
      simp only [this])
    (fun k z hk hz => by
      obtain ⟨z1, z2, z3, z4⟩ := hz
      obtain ⟨u, u1, u2, u3⟩ := W_reach hI z1 (b := (k : Int)) (w := w) ⟨by omega, by omega⟩ hw
      rw [z0k]
      refine ⟨_, _, _, q_lwB3 (L := L) (xs := xs) ⟨by omega, by omega⟩ u1 ?_, Or.inl rfl, rfl, rfl, u2, z2.cl (fun b => u3 37 b (by decide) (by omega)), (u3 (-1) 0 (by decide) (by decide)).trans z3, fun b => by rw [u3 39 b (by decide) (by omega)]; exact z4 b⟩
      rw [u3 39 _ (by decide) (by omega), z4]
      exact y4 _ (by omega) (by omega))
  obtain ⟨v, l5, v1, v2, v3⟩ := T_bells (L := L) (xs := xs) hI hq z1 z2 (n := n) (C := (zNc σ : Int)) (t := t) hcc hw (by omega)
  obtain ⟨u, u1, u2, u3⟩ := W_cheap hI v1 hcc hw (q := 0) (by decide)
  obtain ⟨s, s1, s2, s3⟩ := W_cheap hI u2 hcc hw (q := 1) (by decide)
  rw [if_pos rfl] at u1
  rw [if_neg (by decide)] at s1
  have cu : zct u = zct v := u3 (-1) 0 (by decide) (by decide)
  have cs : zct s = zct u := s3 (-1) 0 (by decide) (by decide)
  have su : qU (zNb σ) (σ 9) s := (v2.cl (fun b => u3 37 b (by decide) (by omega))).cl (fun b => s3 37 b (by decide) (by omega))
  exact ⟨s, q_lwB6 h9 hc hsw hsc (by omega) hf l2 l3 l5 u1 s1, s2, su, by omega⟩
theorem T_turns {σ x : zHp} (hI : zInv σ) (hq : zGq σ) (h : qW σ x) (hu : qU (zNb σ) (σ 9) x) (h12 : 0 < σ 1 2) {n : Int} (hcap : zct x + 3900 < zcap) :
    ∃ y, sW (lc_L_law_6 L xs) (lf_L_law_6 L xs) (ls_L_law_6 L xs) [0, 0, 37, n, (zNc σ : Int), (zNb σ : Int), 38, 0, 0, 0, 0, 0, 0, 0, 0, 0, 0] x = some (0, [0, 0, 37, n, (zNc σ : Int), (zNb σ : Int), 38, 3, 0, 0, 0, 0, 0, 0, 0, 0, 0], y) ∧ qW σ y ∧ qU (zNb σ) (σ 9) y ∧ zct y ≤ zct x + 3900 := by
  obtain ⟨y, hl, y1, y2, y3⟩ := zfor0 (c := lc_L_law_6 L xs) (f := lf_L_law_6 L xs) (i := 7) (lo := 0) (σ := x) 3 (fun k => [0, 0, 37, n, (zNc σ : Int), (zNb σ : Int), 38, 0 + (k : Int), 0, 0, 0, 0, 0, 0, 0, 0, 0])
    (fun k y => qW σ y ∧ qU (zNb σ) (σ 9) y ∧ zct y ≤ zct x + 1300 * (k : Int))
    ⟨h, hu, by omega⟩ (fun k => rfl) (by decide) (by decide)
    (fun k y hk hy => by
      rw [q_lwC6]
      have : (0 + (k : Int) < (3 : Int)) ↔ k < 3 := by omega
      simp only [this])
    (fun k y hk hy => by
      obtain ⟨y1, y2, y3⟩ := hy
      obtain ⟨z, z1, z2, z3, z4⟩ := T_turn (L := L) (xs := xs) hI hq y1 y2 h12 (n := n) (t := (k : Int)) ⟨by omega, by omega⟩ (by omega)
      rw [z0k]
      exact ⟨_, _, _, z1, Or.inl rfl, rfl, rfl, z2, z3, by omega⟩)
  exact ⟨y, hl, y1, y2, by omega⟩
end QTURN
