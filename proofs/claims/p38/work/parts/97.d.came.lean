/-! the law comes to its bells, plants and ear -/
section QCOME
variable {L : Nat} {xs : Nat → Int32}
theorem q_cmEv {A y x z : zHp} {C N k k2 x4 a0 x8 t n v e : Int} (ce : o_imul (A 37 0) (A 37 1) = C) (h4 : m_L_cell L xs [0, 4] A = some (x4, A)) (ha : m_L_some [x4, 6] A = some (a0, A)) (ne0 : o_iadd 1 a0 = N)
    (hl1 : sW (lc_L_come_1 L xs) (lf_L_come_1 L xs) (ls_L_come_1 L xs) [0, 0, 4, 6, 37, C, N, 0, 0, 0] A = some (0, [0, 0, 4, 6, 37, C, N, k, 0, 0], y)) (hl2 : sW (lc_L_come_2 L xs) (lf_L_come_2 L xs) (ls_L_come_2 L xs) [0, 0, 4, 6, 37, C, N, 0, 0, 0] y = some (0, [0, 0, 4, 6, 37, C, N, k2, 0, 0], x))
    (i8 : o_iadd 4 4 = 8) (h8 : m_L_cell L xs [0, 8] x = some (x8, x)) (ht : m_L_some [zShr x8 8, 2] x = some (t, x)) (ne : (if t = 0 then 100 else 15) = n) (hv : m_L_some [x8, n] x = some (v, x)) (he : m_X8_ear [0, v] x = some (e, z)) (e2 : z 37 2 = e) :
    m_L_come L xs [0, 0, 4, 6, 37] A = some (1, zput z 37 2 v) := by
  rw [e_L_come]
  unfold d_L_come
  rw [sQ_s (e1 := [0, 0, 4, 6, 37, C, 0, 0, 0, 0]) (σ1 := A) (by simp [xC_e, xL_e, xU_e, xB_e, xD_e, xF_e, xG_e, xA_e, xE_e, xH_e, xI_e, xZ_e, xK_e, aN_e, aC_e, cR_e, cV_e, cA_e, cO_e, cN_e, bs_e, bn_e, zg_0, zg_S, sS_e, sX_e, sF_e, sG_e, sA_e, sE_e, sEo_e, sK_e, sQ_e, sI_e, sR_e, sV_e, sB_e, sC_e, sD_e, sN_e, st_0, st_S, zc_0, zc_S, ce])]
  rw [sQ_s (e1 := [0, 0, 4, 6, 37, C, N, 0, 0, 0]) (σ1 := A) (by simp [xC_e, xL_e, xU_e, xB_e, xD_e, xF_e, xG_e, xA_e, xE_e, xH_e, xI_e, xZ_e, xK_e, aN_e, aC_e, cR_e, cV_e, cA_e, cO_e, cN_e, bs_e, bn_e, zg_0, zg_S, sS_e, sX_e, sF_e, sG_e, sA_e, sE_e, sEo_e, sK_e, sQ_e, sI_e, sR_e, sV_e, sB_e, sC_e, sD_e, sN_e, st_0, st_S, zc_0, zc_S, h4, ha, ne0])]
  rw [sQ_s (e1 := [0, 0, 4, 6, 37, C, N, 0, 0, 0]) (σ1 := y) (by
    refine (sD_0 (e1 := [0, 0, 4, 6, 37, C, N, k, 0, 0]) ?_).trans rfl
    rw [sQ_s (e1 := [0, 0, 4, 6, 37, C, N, 0, 0, 0]) (σ1 := A) (by simp [xC_e, xL_e, xU_e, xB_e, xD_e, xF_e, xG_e, xA_e, xE_e, xH_e, xI_e, xZ_e, xK_e, aN_e, aC_e, cR_e, cV_e, cA_e, cO_e, cN_e, bs_e, bn_e, zg_0, zg_S, sS_e, sX_e, sF_e, sG_e, sA_e, sE_e, sEo_e, sK_e, sQ_e, sI_e, sR_e, sV_e, sB_e, sC_e, sD_e, sN_e, st_0, st_S, zc_0, zc_S])]
    exact hl1)]
  rw [sQ_s (e1 := [0, 0, 4, 6, 37, C, N, 0, 0, 0]) (σ1 := x) (by
    refine (sD_0 (e1 := [0, 0, 4, 6, 37, C, N, k2, 0, 0]) ?_).trans rfl
    rw [sQ_s (e1 := [0, 0, 4, 6, 37, C, N, 0, 0, 0]) (σ1 := y) (by simp [xC_e, xL_e, xU_e, xB_e, xD_e, xF_e, xG_e, xA_e, xE_e, xH_e, xI_e, xZ_e, xK_e, aN_e, aC_e, cR_e, cV_e, cA_e, cO_e, cN_e, bs_e, bn_e, zg_0, zg_S, sS_e, sX_e, sF_e, sG_e, sA_e, sE_e, sEo_e, sK_e, sQ_e, sI_e, sR_e, sV_e, sB_e, sC_e, sD_e, sN_e, st_0, st_S, zc_0, zc_S])]
    exact hl2)]
  rw [sQ_s (e1 := [0, 0, 4, 6, 37, C, N, v, 0, 0]) (σ1 := x) (by
    by_cases p : t = 0
    · rw [if_pos p] at ne
      subst ne
      subst p
      simp [xC_e, xL_e, xU_e, xB_e, xD_e, xF_e, xG_e, xA_e, xE_e, xH_e, xI_e, xZ_e, xK_e, aN_e, aC_e, cR_e, cV_e, cA_e, cO_e, cN_e, bs_e, bn_e, zg_0, zg_S, sS_e, sX_e, sF_e, sG_e, sA_e, sE_e, sEo_e, sK_e, sQ_e, sI_e, sR_e, sV_e, sB_e, sC_e, sD_e, sN_e, st_0, st_S, zc_0, zc_S, r_eq, r_ne, r_lt, r_le, r_gt, r_ge, rb_ite, rb_0, rb_1, i8, h8, ht, hv]
    · rw [if_neg p] at ne
      subst ne
      simp [xC_e, xL_e, xU_e, xB_e, xD_e, xF_e, xG_e, xA_e, xE_e, xH_e, xI_e, xZ_e, xK_e, aN_e, aC_e, cR_e, cV_e, cA_e, cO_e, cN_e, bs_e, bn_e, zg_0, zg_S, sS_e, sX_e, sF_e, sG_e, sA_e, sE_e, sEo_e, sK_e, sQ_e, sI_e, sR_e, sV_e, sB_e, sC_e, sD_e, sN_e, st_0, st_S, zc_0, zc_S, r_eq, r_ne, r_lt, r_le, r_gt, r_ge, rb_ite, rb_0, rb_1, i8, h8, ht, hv, p])]
  rw [sQ_s (e1 := [0, 0, 4, 6, 37, C, N, v, 0, 0]) (σ1 := z) (by simp [xC_e, xL_e, xU_e, xB_e, xD_e, xF_e, xG_e, xA_e, xE_e, xH_e, xI_e, xZ_e, xK_e, aN_e, aC_e, cR_e, cV_e, cA_e, cO_e, cN_e, bs_e, bn_e, zg_0, zg_S, sS_e, sX_e, sF_e, sG_e, sA_e, sE_e, sEo_e, sK_e, sQ_e, sI_e, sR_e, sV_e, sB_e, sC_e, sD_e, sN_e, st_0, st_S, zc_0, zc_S, r_eq, r_ne, r_lt, r_le, r_gt, r_ge, rb_ite, rb_0, rb_1, he, e2])]
  simp [xC_e, xL_e, xU_e, xB_e, xD_e, xF_e, xG_e, xA_e, xE_e, xH_e, xI_e, xZ_e, xK_e, aN_e, aC_e, cR_e, cV_e, cA_e, cO_e, cN_e, bs_e, bn_e, zg_0, zg_S, sS_e, sX_e, sF_e, sG_e, sA_e, sE_e, sEo_e, sK_e, sQ_e, sI_e, sR_e, sV_e, sB_e, sC_e, sD_e, sN_e, st_0, st_S, zc_0, zc_S]
theorem q_come {A : zHp} {C : Int} (hC : 0 < C) (hA : qCm C 0 A) :
    ∃ (N : Nat) (z : zHp), (1 ≤ N ∧ N ≤ 6) ∧ m_L_come L xs [0, 0, 4, 6, 37] A = some (1, z) ∧ zInv z ∧ zGq z ∧ z 1 2 = C ∧ z 6 0 = N ∧ z 37 41 = N ∧ (∀ b : Int, 0 ≤ b → b < N → z 37 (54 + b) = z 9 b) ∧ z (-1) 0 = A (-1) 0 := by
  have hI := hA.1
  have hN := zN_eq hI.2.2.1
  have ce : o_imul (A 37 0) (A 37 1) = C := by
    rw [hA.2.1.1, hA.2.1.2.1]
    exact hN.1.trans hA.2.2.1
  have h4 := q_cell L xs (k := 4) (by decide)
  obtain ⟨a1, a2⟩ := qs_i (v := qc L xs 4) (n := 6) (by decide)
  have ha := q_some (v := qc L xs 4) (n := 6) (by decide) A
  generalize qs (qc L xs 4) 6 = a0 at ha a1 a2
  obtain ⟨N, hNe⟩ : ∃ N : Nat, (N : Int) = 1 + a0 := ⟨(1 + a0).toNat, by omega⟩
  have ne0 : o_iadd 1 a0 = (N : Int) := by rw [hNe]; exact w32_id ⟨by omega, by omega⟩
  have N6 : 1 ≤ N ∧ N ≤ 6 := by omega
  obtain ⟨y, hl1, y1, y2⟩ := zfor0 (c := lc_L_come_1 L xs) (f := lf_L_come_1 L xs) (i := 7) (lo := 0) (σ := A) N (fun k => [0, 0, 4, 6, 37, C, (N : Int), 0 + (k : Int), 0, 0]) (fun k y => qCm C (k : Int) y ∧ y (-1) 0 = A (-1) 0) ⟨hA, rfl⟩ (fun k => rfl) (by decide) (by omega)
    (fun k y hk hy => by
      rw [q_cmC1]
      have : (0 + (k : Int) < (N : Int)) ↔ k < N := by omega
      simp only [this])
    (fun k y hk hy => by
      obtain ⟨z, z1, z2, z3⟩ := q_cm1 (L := L) (xs := xs) (N := (N : Int)) hC ⟨by omega, by omega⟩ hy.1
      rw [z0k]
      exact ⟨_, _, _, z1, Or.inl rfl, rfl, rfl, by rw [show ((k + 1 : Nat) : Int) = (k : Int) + 1 by omega]; exact z2, z3.trans hy.2⟩)
  obtain ⟨m1, m2⟩ := qs_i (v := zShr (qc L xs 4) 3) (n := 6) (by decide)
  obtain ⟨M, hM⟩ : ∃ M : Nat, (M : Int) = qs (zShr (qc L xs 4) 3) 6 := ⟨(qs (zShr (qc L xs 4) 3) 6).toNat, by omega⟩
  obtain ⟨x, hl2, x1, x2⟩ := zfor0 (c := lc_L_come_2 L xs) (f := lf_L_come_2 L xs) (i := 7) (lo := 0) (σ := y) M (fun k => [0, 0, 4, 6, 37, C, (N : Int), 0 + (k : Int), 0, 0]) (fun k y => qCm C (N : Int) y ∧ y (-1) 0 = A (-1) 0) ⟨y1, y2⟩ (fun k => rfl) (by decide) (by omega)
    (fun k y hk hy => by
      rw [q_cmC2 (h4 y) (q_some (v := zShr (qc L xs 4) 3) (n := 6) (by decide) y), ← hM]
      have : (0 + (k : Int) < (M : Int)) ↔ k < M := by omega
      simp only [this])
    (fun k y hk hy => by
      obtain ⟨z, z1, z2, z3⟩ := q_cm2 (L := L) (xs := xs) (N := (N : Int)) (k := (k : Int)) hC ⟨by omega, by omega⟩ ⟨by omega, by omega⟩ hy.1
      rw [z0k]
      exact ⟨_, _, _, z1, Or.inl rfl, rfl, rfl, z2, z3.trans hy.2⟩)
  have hl1a : sW (lc_L_come_1 L xs) (lf_L_come_1 L xs) (ls_L_come_1 L xs) [0, 0, 4, 6, 37, C, (N : Int), 0, 0, 0] A = some (0, [0, 0, 4, 6, 37, C, (N : Int), 0 + (N : Int), 0, 0], y) := hl1
  have hl2a : sW (lc_L_come_2 L xs) (lf_L_come_2 L xs) (ls_L_come_2 L xs) [0, 0, 4, 6, 37, C, (N : Int), 0, 0, 0] y = some (0, [0, 0, 4, 6, 37, C, (N : Int), 0 + (M : Int), 0, 0], x) := hl2
  obtain ⟨hx, hg, h12, h10, h2, h6, h41, hb⟩ := x1
  have h8 := q_cell L xs (k := 8) (by decide) x
  generalize qc L xs 8 = x8 at h8
  have ht := q_some (v := zShr x8 8) (n := 2) (by decide) x
  generalize qs (zShr x8 8) 2 = t at ht
  generalize ne : (if t = 0 then (100 : Int) else 15) = n
  have n0 : 0 < n := by rw [← ne]; split <;> decide
  have n9 : n ≤ 100 := by rw [← ne]; split <;> decide
  have hv := q_some (v := x8) n0 x
  obtain ⟨v1, v2⟩ := qs_i (v := x8) n0
  generalize qs x8 n = v at hv v1 v2
  obtain ⟨e1, e2⟩ := c_ear hx (v := v) ⟨v1, by omega⟩ (by rw [h12]; omega)
  have i8 : o_iadd 4 4 = 8 := w32_id ⟨by decide, by decide⟩
  have hm := q_cmEv (L := L) (xs := xs) ce (h4 A) ha ne0 hl1a hl2a i8 h8 ht ne hv e1 (by rw [zput_o (by decide), h2, h10])
  have zo : ∀ a b : Int, a ≠ 37 → a ≠ 10 → zput (zput x 10 2 v) 37 2 v a b = x a b := fun a b q1 q2 => by rw [zput_o q1, zput_o q2]
  have z7 : ∀ j : Int, j ≠ 2 → zput (zput x 10 2 v) 37 2 v 37 j = x 37 j := fun j q => by rw [zput_i q, zput_o (by decide)]
  have zi := zInv_p37 e2 (i := 2) (v := v) (by decide) ⟨by omega, by omega⟩
  have s2 : zput (zput x 10 2 v) 37 2 v 37 2 = v := zput_self _ _ _ _
  have s10 : zput (zput x 10 2 v) 37 2 v 10 2 = v := by rw [zput_o (by decide), zput_self]
  generalize zput (zput x 10 2 v) 37 2 v = z at hm zo z7 zi s2 s10
  refine ⟨N, z, N6, hm, zi, ⟨?_, ⟨?_, fun b b0 b1 => ?_⟩, ?_⟩, ?_, ?_, ?_, fun b b0 b1 => ?_, ?_⟩
  · exact zGm_s hg (z7 0 (by decide)) (z7 1 (by decide)) (fun j j0 j1 => z7 _ (by omega)) (z7 40 (by decide)) (zN_eq hx.2.2.1).2.2 (fun j => zo 1 j (by decide) (by decide)) (fun j => zo 2 j (by decide) (by decide))
  · rw [z7 41 (by decide), h41, zo 6 0 (by decide) (by decide), h6]
  · rw [zo 6 0 (by decide) (by decide), h6] at b1
    rw [z7 _ (by omega), z7 _ (by omega), zo 7 b (by decide) (by decide), zo 8 b (by decide) (by decide)]
    exact ⟨(hb b b0 b1).1, (hb b b0 b1).2.1⟩
  · rw [s2, s10]
  · rw [zo 1 2 (by decide) (by decide), h12]
  · rw [zo 6 0 (by decide) (by decide), h6]
  · rw [z7 41 (by decide), h41]
  · rw [z7 _ (by omega), zo 9 b (by decide) (by decide)]
    exact (hb b b0 b1).2.2
  · rw [zo (-1) 0 (by decide) (by decide), x2]
end QCOME
