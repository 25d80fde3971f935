/-! by what weight a bell wins: the law tries them from 99 down -/
theorem sQ_t {f g : zS} {e e1 : List Int} {σ σ1 : zHp} {t : Nat} (ht : t ≠ 0) (h : f e σ = some (t, e1, σ1)) : sQ f g e σ = some (t, e1, σ1) := by
  rw [sQ_e, h]
  exact if_neg ht
theorem sD_t {f : zS} {ks : List Nat} {e e1 : List Int} {σ σ1 : zHp} {t : Nat} (ht : t ≠ 1) (h : f e σ = some (t, e1, σ1)) : sD ks f e σ = some (t, zclr ks e1, σ1) := by
  rw [sD_e, h]
  exact if_neg ht
def qDn (p : Nat → Bool) : Nat → Int
  | 0 => -9
  | m + 1 => if p (98 - m) = true then 99 - (m : Int) else qDn p m
theorem qDn_S (p : Nat → Bool) (m : Nat) : qDn p (m + 1) = if p (98 - m) = true then 99 - (m : Int) else qDn p m := rfl
theorem qDn_i (p : Nat → Bool) : ∀ m : Nat, m ≤ 99 → (qDn p m = -9 ∧ ∀ k, 99 - m ≤ k → k < 99 → p k = false) ∨ ∃ k : Nat, 99 - m ≤ k ∧ k < 99 ∧ qDn p m = (k : Int) + 1 ∧ p k = true ∧ ∀ j, 99 - m ≤ j → j < k → p j = false
  | 0, _ => Or.inl ⟨rfl, fun k h1 h2 => by omega⟩
  | m + 1, h => by
    rw [qDn_S]
    by_cases q : p (98 - m) = true
    · rw [if_pos q]
      exact Or.inr ⟨98 - m, by omega, by omega, by omega, q, fun j h1 h2 => by omega⟩
    · rw [if_neg q]
      have qf : p (98 - m) = false := Bool.eq_false_iff.mpr q
      rcases qDn_i p m (by omega) with ⟨h1, h2⟩ | ⟨k, k1, k2, k3, k4, k5⟩
      · refine Or.inl ⟨h1, fun k q1 q2 => ?_⟩
        by_cases e : k = 98 - m
        · rw [e]; exact qf
        · exact h2 k (by omega) q2
      · refine Or.inr ⟨k, by omega, k2, k3, k4, fun j q1 q2 => ?_⟩
        by_cases e : j = 98 - m
        · rw [e]; exact qf
        · exact k5 j (by omega) q2
theorem qDn_99 (p : Nat → Bool) : qDn p 99 = zFst p 99 := by
  rcases qDn_i p 99 (by decide) with ⟨h1, h2⟩ | ⟨k, k1, k2, k3, k4, k5⟩
  · rw [h1, zFst_n 99 (fun k hk => h2 k (by omega) hk)]
  · rw [k3, zFst_y (fun j hj => k5 j (by omega) hj) k4 99 k2]
section QLEAST
variable {L : Nat} {xs : Nat → Int32}
theorem q_lwC4 {υ : zHp} {n C N t w c be le d v r i : Int} : lc_L_law_4 L xs [0, 0, 37, n, C, N, 38, t, w, 39, c, be, le, d, v, r, i] υ = some (decide (0 < i), υ) := by
  simp [lc_L_law_4, xC_e, xL_e, xU_e, xB_e, xD_e, xF_e, xG_e, xA_e, xE_e, xH_e, xI_e, xZ_e, xK_e, aN_e, aC_e, cR_e, cV_e, cA_e, cO_e, cN_e, bs_e, bn_e, zg_0, zg_S, sS_e, sX_e, sF_e, sG_e, sA_e, sE_e, sEo_e, sK_e, sQ_e, sI_e, sR_e, sV_e, sB_e, sC_e, sD_e, sN_e, st_0, st_S, zc_0, zc_S, r_eq, r_ne, r_lt, r_le, r_gt, r_ge, rb_ite, rb_0, rb_1]
theorem q_lwS4 {υ : zHp} {n C N t w c be le d v r i i1 : Int} (h : o_iadd i (-1) = i1) : ls_L_law_4 L xs [0, 0, 37, n, C, N, 38, t, w, 39, c, be, le, d, v, r, i] υ = some (0, [0, 0, 37, n, C, N, 38, t, w, 39, c, be, le, d, v, r, i1], υ) := by
  simp [ls_L_law_4, xC_e, xL_e, xU_e, xB_e, xD_e, xF_e, xG_e, xA_e, xE_e, xH_e, xI_e, xZ_e, xK_e, aN_e, aC_e, cR_e, cV_e, cA_e, cO_e, cN_e, bs_e, bn_e, zg_0, zg_S, sS_e, sX_e, sF_e, sG_e, sA_e, sE_e, sEo_e, sK_e, sQ_e, sI_e, sR_e, sV_e, sB_e, sC_e, sD_e, sN_e, st_0, st_S, zc_0, zc_S, h]
theorem q_lwB4 {x y : zHp} {n C N t w c be le d v r i j q : Int} (je : o_iadd 54 d = j) (j6 : 0 ≤ j ∧ j < 60) (h : m_L_whose [37, c, w] (zput x 37 j i) = some (q, y)) : lf_L_law_4 L xs [0, 0, 37, n, C, N, 38, t, w, 39, c, be, le, d, v, r, i] x = some (0, [0, 0, 37, n, C, N, 38, t, w, 39, c, be, le, d, v, if q = d then i else r, i], y) := by
  unfold lf_L_law_4
  rw [sQ_s (e1 := [0, 0, 37, n, C, N, 38, t, w, 39, c, be, le, d, v, r, i]) (σ1 := zput x 37 j i) (by simp [xC_e, xL_e, xU_e, xB_e, xD_e, xF_e, xG_e, xA_e, xE_e, xH_e, xI_e, xZ_e, xK_e, aN_e, aC_e, cR_e, cV_e, cA_e, cO_e, cN_e, bs_e, bn_e, zg_0, zg_S, sS_e, sX_e, sF_e, sG_e, sA_e, sE_e, sEo_e, sK_e, sQ_e, sI_e, sR_e, sV_e, sB_e, sC_e, sD_e, sN_e, st_0, st_S, zc_0, zc_S, je, j6])]
  by_cases p : q = d
  · subst p
    simp [xC_e, xL_e, xU_e, xB_e, xD_e, xF_e, xG_e, xA_e, xE_e, xH_e, xI_e, xZ_e, xK_e, aN_e, aC_e, cR_e, cV_e, cA_e, cO_e, cN_e, bs_e, bn_e, zg_0, zg_S, sS_e, sX_e, sF_e, sG_e, sA_e, sE_e, sEo_e, sK_e, sQ_e, sI_e, sR_e, sV_e, sB_e, sC_e, sD_e, sN_e, st_0, st_S, zc_0, zc_S, r_eq, r_ne, r_lt, r_le, r_gt, r_ge, rb_ite, rb_0, rb_1, h]
  · simp [xC_e, xL_e, xU_e, xB_e, xD_e, xF_e, xG_e, xA_e, xE_e, xH_e, xI_e, xZ_e, xK_e, aN_e, aC_e, cR_e, cV_e, cA_e, cO_e, cN_e, bs_e, bn_e, zg_0, zg_S, sS_e, sX_e, sF_e, sG_e, sA_e, sE_e, sEo_e, sK_e, sQ_e, sI_e, sR_e, sV_e, sB_e, sC_e, sD_e, sN_e, st_0, st_S, zc_0, zc_S, r_eq, r_ne, r_lt, r_le, r_gt, r_ge, rb_ite, rb_0, rb_1, h, p]
theorem qW.w37 {σ x : zHp} (h : qW σ x) {b v : Int} (hb : 0 ≤ b ∧ b < 6) (hv : r32 v) : qW σ (zput x 37 (54 + b) v) := by
  refine ⟨zOk_37 h.1 ⟨by omega, by omega⟩ hv, zIS_c h.2.1 (fun o h1 h2 => zput_o (by omega) 3), fun a j q1 q2 q3 => ?_⟩
  rw [zput_n (fun z => q3 ⟨z.1, by omega⟩)]
  exact h.2.2 a j q1 q2 q3
theorem T_least {σ x : zHp} (hI : zInv σ) (hq : zGq σ) (h : qW σ x) (hu : qU (zNb σ) (σ 9) x) {n C N t w c be le d v : Int} (hc : 0 ≤ c ∧ c < σ 1 2) (hw : 0 ≤ w ∧ w ≤ 39) (hd : 0 ≤ d ∧ d < zNb σ) (hcap : zct x + 198 < zcap) :
    ∃ y, sW (lc_L_law_4 L xs) (lf_L_law_4 L xs) (ls_L_law_4 L xs) [0, 0, 37, n, C, N, 38, t, w, 39, c, be, le, d, v, -9, 99] x = some (0, [0, 0, 37, n, C, N, 38, t, w, 39, c, be, le, d, v, zFst (zWn (zFF σ w) (σ 9) (zGG σ w) (zNb σ) d c) 99, 0], y) ∧ qW σ y ∧ (∀ b : Int, 0 ≤ b → b < zNb σ → b ≠ d → y 37 (54 + b) = σ 9 b) ∧ zct y = zct x + 198 := by
  obtain ⟨n1, n2⟩ := zNb_e hI
  obtain ⟨c1, c2⟩ := zNc_e hI
  have gb := (zPc_I hI hw).2.2.2.2.2 d c hd.1 hd.2 hc.1 (by omega)
  generalize hp : zWn (zFF σ w) (σ 9) (zGG σ w) (zNb σ) d c = p
  obtain ⟨t2, e2, y, hl, hy⟩ := zl_m (c := lc_L_law_4 L xs) (f := lf_L_law_4 L xs) (s := ls_L_law_4 L xs) (e := [0, 0, 37, n, C, N, 38, t, w, 39, c, be, le, d, v, -9, 99]) (σ := x)
    (fun m e y => m ≤ 99 ∧ e = [0, 0, 37, n, C, N, 38, t, w, 39, c, be, le, d, v, qDn p m, 99 - (m : Int)] ∧ qW σ y ∧ (∀ b : Int, 0 ≤ b → b < zNb σ → b ≠ d → y 37 (54 + b) = σ 9 b) ∧ zct y = zct x + 2 * (m : Int))
    (fun t2 e y => t2 = 0 ∧ e = [0, 0, 37, n, C, N, 38, t, w, 39, c, be, le, d, v, qDn p 99, 0] ∧ qW σ y ∧ (∀ b : Int, 0 ≤ b → b < zNb σ → b ≠ d → y 37 (54 + b) = σ 9 b) ∧ zct y = zct x + 198) 99
    ⟨by decide, rfl, h, fun b b0 b1 _ => hu b b0 b1, by omega⟩
    (fun m e y hj => by
      obtain ⟨m9, rfl, y1, y2, y3⟩ := hj
      by_cases z : m = 99
      · subst z
        exact Or.inl ⟨y, by rw [q_lwC4]; rfl, rfl, rfl, y1, y2, by omega⟩
      · have y4 := y1.w37 (b := d) (v := 99 - (m : Int)) ⟨by omega, by omega⟩ ⟨by omega, by omega⟩
        have u4 : qU (zNb σ) (zWs (σ 9) d (99 - (m : Int))) (zput y 37 (54 + d) (99 - (m : Int))) := fun b b0 b1 => by
          by_cases q : b = d
          · rw [q, zput_self, zWs_b]
          · rw [zput_i (by omega), zWs_n q]
            exact y2 b b0 b1 q
        have c4 : zct (zput y 37 (54 + d) (99 - (m : Int))) = zct y := zct_put (o := 37)
        obtain ⟨u, u1, u2, u3, u4⟩ := W_whoseL hI hq y4 (V := zWs (σ 9) d (99 - (m : Int))) u4 (zWs_W (zWt_I hI) ⟨by omega, by omega⟩) hc hw (by omega)
        refine Or.inr ⟨by omega, y, by rw [q_lwC4, decide_eq_true (by omega)], 0, _, u, q_lwB4 (w32_id ⟨by omega, by omega⟩) ⟨by omega, by omega⟩ u1, Or.inr ⟨Or.inl rfl, _, u, q_lwS4 (i1 := 99 - ((m + 1 : Nat) : Int)) ?_, by omega, ?_, u2, fun b b0 b1 bd => ?_, by omega⟩⟩
        · have : o_iadd (99 - (m : Int)) (-1) = 99 - (m : Int) + -1 := w32_id ⟨by omega, by omega⟩
          omega
        · have own : zWh (zFF σ w) (zLd (zWs (σ 9) d (99 - (m : Int))) (zGG σ w) c) (zNb σ) = d ↔ p (98 - m) = true := by
            rw [zWh_own ⟨hd.1, hd.2⟩, zOwn_br (by omega) (by omega), ← hp]
            unfold zWn
            rw [decide_eq_true_eq, show (1 : Int) + ((98 - m : Nat) : Int) = 99 - (m : Int) by omega]
          rw [qDn_S]
          by_cases q : p (98 - m) = true
          · rw [if_pos q, if_pos (own.mpr q)]
          · rw [if_neg q, if_neg (fun z => q (own.mp z))]
        · rw [u3 37 _ (by decide) (by decide) (by decide), zput_i (by omega)]
          exact y2 b b0 b1 bd)
    (by unfold zfuel; omega)
  obtain ⟨rfl, rfl, y1, y2, y3⟩ := hy
  rw [qDn_99] at hl
  exact ⟨y, hl, y1, y2, y3⟩
end QLEAST
