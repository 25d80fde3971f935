/-! the law puts a text together -/
theorem zi2b_s : ∀ v : Nat, v < 128 → zi2b (v : Int) = (v : Int) := by decide +kernel
theorem q_pt {x : zHp} {i v : Int} (h1 : x 29 1 = 1) (h2 : x 29 2 = 0) (h3 : x 29 3 = 50) (hi : 0 ≤ i ∧ i < 50) (hv : 0 ≤ v ∧ v < 128) : m_X8_put [0, 0, i, v] x = some (1, zput (zput x 0 8 0) 30 i v) := by
  have e : zi2b v = v := by
    have := zi2b_s v.toNat (by omega)
    rw [show ((v.toNat : Nat) : Int) = v by omega] at this
    exact this
  exact c_put (k := 0) (by decide) (show x (29 + 2 * 0) 1 = 1 from h1) (show 0 ≤ i ∧ i < x (29 + 2 * 0) 3 by rw [show x (29 + 2 * 0) 3 = 50 from h3]; exact hi) (by rw [show x (29 + 2 * 0) 3 = 50 from h3]; decide) (by rw [if_pos (show x (29 + 2 * 0) 2 = 0 from h2), e])
section QPUT
variable {L : Nat} {xs : Nat → Int32}
theorem q_ptC1 {υ : zHp} {x4 at0 row c q n : Int} (h : υ 37 1 = n) : lc_L_put_1 L xs [0, 0, 0, 37, x4, at0, row, c, q] υ = some (decide (c < n), υ) := by
  simp [lc_L_put_1, xC_e, xL_e, xU_e, xB_e, xD_e, xF_e, xG_e, xA_e, xE_e, xH_e, xI_e, xZ_e, xK_e, aN_e, aC_e, cR_e, cV_e, cA_e, cO_e, cN_e, bs_e, bn_e, zg_0, zg_S, sS_e, sX_e, sF_e, sG_e, sA_e, sE_e, sEo_e, sK_e, sQ_e, sI_e, sR_e, sV_e, sB_e, sC_e, sD_e, sN_e, st_0, st_S, zc_0, zc_S, r_eq, r_ne, r_lt, r_le, r_gt, r_ge, rb_ite, rb_0, rb_1, h]
theorem q_ptC2 {υ : zHp} {x4 at0 row c q n : Int} (h : υ 37 0 = n) : lc_L_put_2 L xs [0, 0, 0, 37, x4, at0, row, c, q] υ = some (decide (row < n), υ) := by
  simp [lc_L_put_2, xC_e, xL_e, xU_e, xB_e, xD_e, xF_e, xG_e, xA_e, xE_e, xH_e, xI_e, xZ_e, xK_e, aN_e, aC_e, cR_e, cV_e, cA_e, cO_e, cN_e, bs_e, bn_e, zg_0, zg_S, sS_e, sX_e, sF_e, sG_e, sA_e, sE_e, sEo_e, sK_e, sQ_e, sI_e, sR_e, sV_e, sB_e, sC_e, sD_e, sN_e, st_0, st_S, zc_0, zc_S, r_eq, r_ne, r_lt, r_le, r_gt, r_ge, rb_ite, rb_0, rb_1, h]
theorem q_ptB1 {x y : zHp} {x4 at0 row c k1 cv sh sv b9 n v ix at1 tv : Int} (k1e : o_iadd (o_iadd 0 1) (zmod row 3) = k1) (hc : m_L_cell L xs [0, k1] x = some (cv, x)) (she : o_iadd (o_imul (zdiv row 3) 15) (o_imul 2 c) = sh) (sve : zShr cv sh = sv) (b9e : m_L_some [zShr x4 9, 2] x = some (b9, x)) (ne : (if b9 = 0 then 10 else 3) = n) (hv : m_L_some [sv, n] x = some (v, x))
    (ixe : o_iadd (o_iadd 3 (o_imul (x 37 1) row)) c = ix) (ix60 : 0 ≤ ix ∧ ix < 60) (at1e : o_iadd at0 1 = at1) (ate : o_isub at1 1 = at0) (tve : o_iadd 48 v = tv) (hp : m_X8_put [0, 0, at0, tv] (zput x 37 ix v) = some (1, y)) :
    lf_L_put_1 L xs [0, 0, 0, 37, x4, at0, row, c, 0] x = some (0, [0, 0, 0, 37, x4, at1, row, c, 0], y) := by
  unfold lf_L_put_1
  refine (sD_0 (e1 := [0, 0, 0, 37, x4, at1, row, c, v]) ?_).trans rfl
  rw [sQ_s (e1 := [0, 0, 0, 37, x4, at0, row, c, v]) (σ1 := x) (by
    by_cases p : b9 = 0
    · rw [if_pos p] at ne
      subst ne
      subst p
      simp [xC_e, xL_e, xU_e, xB_e, xD_e, xF_e, xG_e, xA_e, xE_e, xH_e, xI_e, xZ_e, xK_e, aN_e, aC_e, cR_e, cV_e, cA_e, cO_e, cN_e, bs_e, bn_e, zg_0, zg_S, sS_e, sX_e, sF_e, sG_e, sA_e, sE_e, sEo_e, sK_e, sQ_e, sI_e, sR_e, sV_e, sB_e, sC_e, sD_e, sN_e, st_0, st_S, zc_0, zc_S, r_eq, r_ne, r_lt, r_le, r_gt, r_ge, rb_ite, rb_0, rb_1, k1e, hc, she, sve, b9e, hv]
    · rw [if_neg p] at ne
      subst ne
      simp [xC_e, xL_e, xU_e, xB_e, xD_e, xF_e, xG_e, xA_e, xE_e, xH_e, xI_e, xZ_e, xK_e, aN_e, aC_e, cR_e, cV_e, cA_e, cO_e, cN_e, bs_e, bn_e, zg_0, zg_S, sS_e, sX_e, sF_e, sG_e, sA_e, sE_e, sEo_e, sK_e, sQ_e, sI_e, sR_e, sV_e, sB_e, sC_e, sD_e, sN_e, st_0, st_S, zc_0, zc_S, r_eq, r_ne, r_lt, r_le, r_gt, r_ge, rb_ite, rb_0, rb_1, k1e, hc, she, sve, b9e, hv, p])]
  rw [sQ_s (e1 := [0, 0, 0, 37, x4, at0, row, c, v]) (σ1 := zput x 37 ix v) (by simp [xC_e, xL_e, xU_e, xB_e, xD_e, xF_e, xG_e, xA_e, xE_e, xH_e, xI_e, xZ_e, xK_e, aN_e, aC_e, cR_e, cV_e, cA_e, cO_e, cN_e, bs_e, bn_e, zg_0, zg_S, sS_e, sX_e, sF_e, sG_e, sA_e, sE_e, sEo_e, sK_e, sQ_e, sI_e, sR_e, sV_e, sB_e, sC_e, sD_e, sN_e, st_0, st_S, zc_0, zc_S, ixe, ix60])]
  rw [sQ_s (e1 := [0, 0, 0, 37, x4, at1, row, c, v]) (σ1 := zput x 37 ix v) (by simp [xC_e, xL_e, xU_e, xB_e, xD_e, xF_e, xG_e, xA_e, xE_e, xH_e, xI_e, xZ_e, xK_e, aN_e, aC_e, cR_e, cV_e, cA_e, cO_e, cN_e, bs_e, bn_e, zg_0, zg_S, sS_e, sX_e, sF_e, sG_e, sA_e, sE_e, sEo_e, sK_e, sQ_e, sI_e, sR_e, sV_e, sB_e, sC_e, sD_e, sN_e, st_0, st_S, zc_0, zc_S, at1e])]
  simp [xC_e, xL_e, xU_e, xB_e, xD_e, xF_e, xG_e, xA_e, xE_e, xH_e, xI_e, xZ_e, xK_e, aN_e, aC_e, cR_e, cV_e, cA_e, cO_e, cN_e, bs_e, bn_e, zg_0, zg_S, sS_e, sX_e, sF_e, sG_e, sA_e, sE_e, sEo_e, sK_e, sQ_e, sI_e, sR_e, sV_e, sB_e, sC_e, sD_e, sN_e, st_0, st_S, zc_0, zc_S, r_eq, r_ne, r_lt, r_le, r_gt, r_ge, rb_ite, rb_0, rb_1, ate, tve, hp]
theorem q_ptB2 {x y z : zHp} {x4 at0 row at1 at2 k : Int} (at1e : o_iadd at0 1 = at1) (ate : o_isub at1 1 = at0) (hp : m_X8_put [0, 0, at0, 59] x = some (1, y))
    (hl : sW (lc_L_put_1 L xs) (lf_L_put_1 L xs) (ls_L_put_1 L xs) [0, 0, 0, 37, x4, at1, row, 0, 0] y = some (0, [0, 0, 0, 37, x4, at2, row, k, 0], z)) :
    lf_L_put_2 L xs [0, 0, 0, 37, x4, at0, row, 0, 0] x = some (0, [0, 0, 0, 37, x4, at2, row, 0, 0], z) := by
  unfold lf_L_put_2
  rw [sQ_s (e1 := [0, 0, 0, 37, x4, at1, row, 0, 0]) (σ1 := y) (by
    rw [sQ_s (e1 := [0, 0, 0, 37, x4, at1, row, 0, 0]) (σ1 := x) (by simp [xC_e, xL_e, xU_e, xB_e, xD_e, xF_e, xG_e, xA_e, xE_e, xH_e, xI_e, xZ_e, xK_e, aN_e, aC_e, cR_e, cV_e, cA_e, cO_e, cN_e, bs_e, bn_e, zg_0, zg_S, sS_e, sX_e, sF_e, sG_e, sA_e, sE_e, sEo_e, sK_e, sQ_e, sI_e, sR_e, sV_e, sB_e, sC_e, sD_e, sN_e, st_0, st_S, zc_0, zc_S, at1e])]
    simp [xC_e, xL_e, xU_e, xB_e, xD_e, xF_e, xG_e, xA_e, xE_e, xH_e, xI_e, xZ_e, xK_e, aN_e, aC_e, cR_e, cV_e, cA_e, cO_e, cN_e, bs_e, bn_e, zg_0, zg_S, sS_e, sX_e, sF_e, sG_e, sA_e, sE_e, sEo_e, sK_e, sQ_e, sI_e, sR_e, sV_e, sB_e, sC_e, sD_e, sN_e, st_0, st_S, zc_0, zc_S, r_eq, r_ne, r_lt, r_le, r_gt, r_ge, rb_ite, rb_0, rb_1, ate, hp])]
  refine (sD_0 (e1 := [0, 0, 0, 37, x4, at2, row, k, 0]) ?_).trans rfl
  rw [sQ_s (e1 := [0, 0, 0, 37, x4, at1, row, 0, 0]) (σ1 := y) (by simp [xC_e, xL_e, xU_e, xB_e, xD_e, xF_e, xG_e, xA_e, xE_e, xH_e, xI_e, xZ_e, xK_e, aN_e, aC_e, cR_e, cV_e, cA_e, cO_e, cN_e, bs_e, bn_e, zg_0, zg_S, sS_e, sX_e, sF_e, sG_e, sA_e, sE_e, sEo_e, sK_e, sQ_e, sI_e, sR_e, sV_e, sB_e, sC_e, sD_e, sN_e, st_0, st_S, zc_0, zc_S])]
  exact hl
end QPUT
/-- a row of the text, its first m codes: codes from A on, heights from B on -/
def qRw (x : zHp) (A B : Int) (m : Nat) : Prop := x 30 A = 59 ∧ ∀ k : Int, 0 ≤ k → k < m → (0 ≤ x 37 (B + k) ∧ x 37 (B + k) ≤ 9) ∧ x 30 (A + 1 + k) = 48 + x 37 (B + k)
/-- what stays while the text is put together -/
def qPb (σ x : zHp) : Prop := (∀ a b : Int, a ≠ 30 → a ≠ 37 → ¬ (a = 0 ∧ b = 8) → x a b = σ a b) ∧ (∀ j : Int, ¬ (3 ≤ j ∧ j < 40) → x 37 j = σ 37 j) ∧ ∀ j : Int, j < 3 → x 30 j = σ 30 j
theorem qPb.rf (σ : zHp) : qPb σ σ := ⟨fun _ _ _ _ _ => rfl, fun _ _ => rfl, fun _ _ => rfl⟩
theorem qPb.p08 {σ x : zHp} (h : qPb σ x) (v : Int) : qPb σ (zput x 0 8 v) := ⟨fun a b h1 h2 h3 => by rw [zput_n h3]; exact h.1 a b h1 h2 h3, fun j hj => by rw [zput_o (by decide)]; exact h.2.1 j hj, fun j hj => by rw [zput_o (by decide)]; exact h.2.2 j hj⟩
theorem qPb.p30 {σ x : zHp} (h : qPb σ x) {i : Int} (hi : 3 ≤ i) (v : Int) : qPb σ (zput x 30 i v) := ⟨fun a b h1 h2 h3 => by rw [zput_o h1]; exact h.1 a b h1 h2 h3, fun j hj => by rw [zput_o (by decide)]; exact h.2.1 j hj, fun j hj => by rw [zput_i (by omega)]; exact h.2.2 j hj⟩
theorem qPb.p37 {σ x : zHp} (h : qPb σ x) {i : Int} (hi : 3 ≤ i ∧ i < 40) (v : Int) : qPb σ (zput x 37 i v) := ⟨fun a b h1 h2 h3 => by rw [zput_o h2]; exact h.1 a b h1 h2 h3, fun j hj => by rw [zput_i (by omega)]; exact h.2.1 j hj, fun j hj => by rw [zput_o (by decide)]; exact h.2.2 j hj⟩
/-- a row's first codes stay when places behind are written -/
theorem qRw.keep {x y : zHp} {A B : Int} {m : Nat} (h : qRw x A B m) (e0 : y 30 A = x 30 A) (e30 : ∀ k : Int, 0 ≤ k → k < m → y 30 (A + 1 + k) = x 30 (A + 1 + k)) (e37 : ∀ k : Int, 0 ≤ k → k < m → y 37 (B + k) = x 37 (B + k)) : qRw y A B m :=
  ⟨by rw [e0]; exact h.1, fun k k0 k1 => by rw [e37 k k0 k1, e30 k k0 k1]; exact h.2 k k0 k1⟩
theorem qRw.put {x : zHp} {A B i j u v w : Int} {m : Nat} (h : qRw x A B m) (hi : ¬ (A ≤ i ∧ i ≤ A + m)) (hj : ¬ (B ≤ j ∧ j < B + m)) : qRw (zput (zput (zput x 37 j u) 0 8 v) 30 i w) A B m :=
  h.keep (by rw [zput_i (by omega), zput_o (by decide), zput_o (by decide)]) (fun k k0 k1 => by rw [zput_i (by omega), zput_o (by decide), zput_o (by decide)]) (fun k k0 k1 => by rw [zput_o (by decide), zput_o (by decide), zput_i (by omega)])
theorem qRw.put2 {x : zHp} {A B i v w : Int} {m : Nat} (h : qRw x A B m) (hi : ¬ (A ≤ i ∧ i ≤ A + m)) : qRw (zput (zput x 0 8 v) 30 i w) A B m :=
  h.keep (by rw [zput_i (by omega), zput_o (by decide)]) (fun k k0 k1 => by rw [zput_i (by omega), zput_o (by decide)]) (fun k k0 k1 => by rw [zput_o (by decide), zput_o (by decide)])
theorem qRw.one {x : zHp} {A B v w : Int} {m : Nat} (h : qRw x A B m) (v0 : 0 ≤ v) (v9 : v ≤ 9) : qRw (zput (zput (zput x 37 (B + (m : Int)) v) 0 8 w) 30 (A + 1 + (m : Int)) (48 + v)) A B (m + 1) := by
  have kk := h.put (i := A + 1 + (m : Int)) (j := B + (m : Int)) (u := v) (v := w) (w := 48 + v) (by omega) (by omega)
  refine ⟨kk.1, fun k k0 k1 => ?_⟩
  by_cases q : k = (m : Int)
  · subst q
    have f1 : zput (zput (zput x 37 (B + (m : Int)) v) 0 8 w) 30 (A + 1 + (m : Int)) (48 + v) 37 (B + (m : Int)) = v := by rw [zput_o (by decide), zput_o (by decide), zput_self]
    rw [f1, zput_self]
    exact ⟨⟨v0, v9⟩, rfl⟩
  · exact kk.2 k k0 (by omega)
/-- one code of a row -/
theorem q_putOne {L : Nat} {xs : Nat → Int32} {σ y : zHp} {x4 r A B : Int} {W c : Nat} (y1 : qPb σ y) (Sy : y 37 1 = W) (St : ∀ z, qPb σ z → z 29 1 = 1 ∧ z 29 2 = 0 ∧ z 29 3 = 50) (r4 : 0 ≤ r ∧ r ≤ 4) (A3 : 3 ≤ A ∧ A ≤ 31) (B3 : 3 ≤ B ∧ B ≤ 27) (h6 : W ≤ 6) (hc : c < W) (hB : o_iadd 3 (o_imul (W : Int) r) = B) :
    ∃ v, (0 ≤ v ∧ v ≤ 9) ∧ lf_L_put_1 L xs [0, 0, 0, 37, x4, A + 1 + (c : Int), r, (c : Int), 0] y = some (0, [0, 0, 0, 37, x4, A + 1 + ((c + 1 : Nat) : Int), r, (c : Int), 0], zput (zput (zput y 37 (B + (c : Int)) v) 0 8 0) 30 (A + 1 + (c : Int)) (48 + v)) := by
  have m3 : zmod r 3 = r % 3 := zmod_e (by omega)
  have k0 : 0 ≤ 1 + r % 3 := by omega
  have k1e : o_iadd (o_iadd 0 1) (zmod r 3) = 1 + r % 3 := by
    rw [m3]
    have : o_iadd 0 1 = 1 := w32_id ⟨by decide, by decide⟩
    rw [this]
    exact w32_id ⟨by omega, by omega⟩
  have hn : (0 : Int) < (if qs (zShr x4 9) 2 = 0 then 10 else 3) := by split <;> decide
  have hn2 : (if qs (zShr x4 9) 2 = 0 then (10 : Int) else 3) ≤ 10 := by split <;> decide
  obtain ⟨v0, v1⟩ := qs_i (v := zShr (qc L xs (1 + r % 3)) (o_iadd (o_imul (zdiv r 3) 15) (o_imul 2 (c : Int)))) hn
  have hsv := q_some (v := zShr (qc L xs (1 + r % 3)) (o_iadd (o_imul (zdiv r 3) 15) (o_imul 2 (c : Int)))) hn y
  generalize qs (zShr (qc L xs (1 + r % 3)) (o_iadd (o_imul (zdiv r 3) 15) (o_imul 2 (c : Int)))) (if qs (zShr x4 9) 2 = 0 then 10 else 3) = v at v0 v1 hsv
  have v9 : v ≤ 9 := by omega
  have ixe : o_iadd (o_iadd 3 (o_imul (y 37 1) r)) (c : Int) = B + (c : Int) := by
    rw [Sy, hB]
    exact w32_id ⟨by omega, by omega⟩
  have e1 : o_iadd (A + 1 + (c : Int)) 1 = A + 1 + ((c + 1 : Nat) : Int) := by
    have : o_iadd (A + 1 + (c : Int)) 1 = A + 1 + (c : Int) + 1 := w32_id ⟨by omega, by omega⟩
    omega
  have e2 : o_isub (A + 1 + ((c + 1 : Nat) : Int)) 1 = A + 1 + (c : Int) := by
    have : o_isub (A + 1 + ((c + 1 : Nat) : Int)) 1 = A + 1 + ((c + 1 : Nat) : Int) - 1 := w32_id ⟨by omega, by omega⟩
    omega
  have tve : o_iadd 48 v = 48 + v := w32_id ⟨by omega, by omega⟩
  have y1' : qPb σ (zput y 37 (B + (c : Int)) v) := y1.p37 ⟨by omega, by omega⟩ v
  have Sy' := St _ y1'
  have pt := q_pt (x := zput y 37 (B + (c : Int)) v) (i := A + 1 + (c : Int)) (v := 48 + v) Sy'.1 Sy'.2.1 Sy'.2.2 ⟨by omega, by omega⟩ ⟨by omega, by omega⟩
  exact ⟨v, ⟨v0, v9⟩, q_ptB1 (L := L) (xs := xs) (x4 := x4) (row := r) (c := (c : Int)) k1e (q_cell L xs k0 y) rfl rfl (q_some (v := zShr x4 9) (n := 2) (by decide) y) rfl hsv ixe ⟨by omega, by omega⟩ e1 e2 tve pt⟩
theorem q_putRow {L : Nat} {xs : Nat → Int32} {σ x : zHp} {x4 r A B : Int} {W m : Nat} {fA fB : Nat → Int} (hb : qPb σ x) (s1 : σ 29 1 = 1) (s2 : σ 29 2 = 0) (s3 : σ 29 3 = 50) (g1 : σ 37 1 = W) (h6 : W ≤ 6) (r4 : 0 ≤ r ∧ r ≤ 4) (A3 : 3 ≤ A ∧ A ≤ 31) (B3 : 3 ≤ B ∧ B ≤ 27) (hB : o_iadd 3 (o_imul (W : Int) r) = B)
    (hf : ∀ r2, r2 < m → fA r2 + W + 1 ≤ A ∧ fB r2 + W ≤ B) (hx : ∀ r2, r2 < m → qRw x (fA r2) (fB r2) W) :
    ∃ z, lf_L_put_2 L xs [0, 0, 0, 37, x4, A, r, 0, 0] x = some (0, [0, 0, 0, 37, x4, A + 1 + (W : Int), r, 0, 0], z) ∧ qPb σ z ∧ (∀ r2, r2 < m → qRw z (fA r2) (fB r2) W) ∧ qRw z A B W := by
  have St : ∀ y, qPb σ y → y 29 1 = 1 ∧ y 29 2 = 0 ∧ y 29 3 = 50 := fun y hy => ⟨by rw [hy.1 29 1 (by decide) (by decide) (by decide), s1], by rw [hy.1 29 2 (by decide) (by decide) (by decide), s2], by rw [hy.1 29 3 (by decide) (by decide) (by decide), s3]⟩
  have SW : ∀ y, qPb σ y → y 37 1 = W := fun y hy => by rw [hy.2.1 1 (by decide), g1]
  have Sx := St x hb
  have p0 := q_pt (x := x) (i := A) (v := 59) Sx.1 Sx.2.1 Sx.2.2 ⟨by omega, by omega⟩ ⟨by decide, by decide⟩
  have hb0 : qPb σ (zput (zput x 0 8 0) 30 A 59) := (hb.p08 0).p30 (by omega) 59
  have i0 : (∀ r2, r2 < m → qRw (zput (zput x 0 8 0) 30 A 59) (fA r2) (fB r2) W) := fun r2 h2 => by
    have := hf r2 h2
    exact (hx r2 h2).put2 (by omega)
  have i1 : qRw (zput (zput x 0 8 0) 30 A 59) A B 0 := ⟨zput_self _ _ _ _, fun k k0 k1 => by omega⟩
  obtain ⟨z, hl, z1, z2, z3⟩ := zfor0 (c := lc_L_put_1 L xs) (f := lf_L_put_1 L xs) (i := 7) (lo := 0) (σ := zput (zput x 0 8 0) 30 A 59) W (fun c => [0, 0, 0, 37, x4, A + 1 + (c : Int), r, 0 + (c : Int), 0]) (fun c y => qPb σ y ∧ (∀ r2, r2 < m → qRw y (fA r2) (fB r2) W) ∧ qRw y A B c)
    ⟨hb0, i0, i1⟩ (fun k => rfl) (by decide) (by omega)
    (fun c y hc hy => by
      rw [q_ptC1 (SW y hy.1)]
      have : (0 + (c : Int) < (W : Int)) ↔ c < W := by omega
      simp only [this])
    (fun c y hc hy => by
      obtain ⟨y1, y2, y3⟩ := hy
      obtain ⟨v, v9, body⟩ := q_putOne (L := L) (xs := xs) (x4 := x4) y1 (SW y y1) St r4 A3 B3 h6 hc hB
      rw [z0k]
      refine ⟨_, _, _, body, Or.inl rfl, rfl, rfl, ((y1.p37 ⟨by omega, by omega⟩ v).p08 0).p30 (by omega) _, fun r2 h2 => ?_, y3.one v9.1 v9.2⟩
      have := hf r2 h2
      exact (y2 r2 h2).put (by omega) (by omega))
  have e1 : o_iadd A 1 = A + 1 + ((0 : Nat) : Int) := by
    have : o_iadd A 1 = A + 1 := w32_id ⟨by omega, by omega⟩
    omega
  have e2 : o_isub (A + 1 + ((0 : Nat) : Int)) 1 = A := by
    have : o_isub (A + 1 + ((0 : Nat) : Int)) 1 = A + 1 + ((0 : Nat) : Int) - 1 := w32_id ⟨by omega, by omega⟩
    omega
  have hl2 : sW (lc_L_put_1 L xs) (lf_L_put_1 L xs) (ls_L_put_1 L xs) [0, 0, 0, 37, x4, A + 1 + ((0 : Nat) : Int), r, 0, 0] (zput (zput x 0 8 0) 30 A 59) = some (0, [0, 0, 0, 37, x4, A + 1 + (W : Int), r, 0 + (W : Int), 0], z) := hl
  exact ⟨z, q_ptB2 (L := L) (xs := xs) e1 e2 p0 hl2, z1, z2, z3⟩
