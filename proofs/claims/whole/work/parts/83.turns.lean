theorem zIt_le {cl : Nat → Nat → Bool} {cnt n : Nat} : ∀ k : Nat, (zIt cl cnt n k).1 ≤ cnt
  | 0 => by show (0 : Int) ≤ cnt; omega
  | k + 1 => by
    have ih := zIt_le (cl := cl) (cnt := cnt) (n := n) k
    have S := zIt_S cl cnt n k
    unfold zStp at S
    rw [S]
    split
    · split
      · show (zIt cl cnt n k).1 - 1 ≤ _
        omega
      · show (zIt cl cnt n k).1 + 1 ≤ _
        omega
    · exact ih
/-- the fewest turns -/
theorem zFw {p : Nat → Prop} : ∀ m : Nat, p m → ∃ f, f ≤ m ∧ p f ∧ ∀ j, j < f → ¬ p j
  | 0, h => ⟨0, Nat.le_refl _, h, fun j hj => by omega⟩
  | m + 1, h => by
    by_cases q : ∃ j, j ≤ m ∧ p j
    · have key : ∀ d : Nat, ∀ j : Nat, j ≤ d → p j → ∃ f, f ≤ j ∧ p f ∧ ∀ i, i < f → ¬ p i := by
        intro d
        induction d with
        | zero =>
          intro j hj hp
          exact ⟨j, Nat.le_refl _, hp, fun i hi => by omega⟩
        | succ d ih =>
          intro j hj hp
          by_cases r : ∃ i, i < j ∧ p i
          · obtain ⟨i, i1, i2⟩ := r
            obtain ⟨f, f1, f2, f3⟩ := ih i (by omega) i2
            exact ⟨f, by omega, f2, f3⟩
          · exact ⟨j, Nat.le_refl _, hp, fun i hi hpi => r ⟨i, hi, hpi⟩⟩
      obtain ⟨j, j1, j2⟩ := q
      obtain ⟨f, f1, f2, f3⟩ := key j j (Nat.le_refl _) j2
      exact ⟨f, by omega, f2, f3⟩
    · exact ⟨m + 1, Nat.le_refl _, h, fun j hj hp => q ⟨j, by omega, hp⟩⟩
theorem w_fw1Body {υ : zHp} {b s : Int} (b6 : 0 ≤ b ∧ b < 6) (h : m_X0_heardIn [10, b] υ = some (s, υ)) : lf_X5_fewest_1 [22, b] υ = some (0, [22, b], zput υ 23 b s) := by
  simp [lf_X5_fewest_1, xC_e, xL_e, xU_e, xB_e, xD_e, xF_e, xG_e, xA_e, xE_e, xH_e, xI_e, xZ_e, xK_e, aN_e, aC_e, cR_e, cV_e, cA_e, cO_e, cN_e, bs_e, bn_e, zg_0, zg_S, sS_e, sX_e, sF_e, sG_e, sA_e, sE_e, sEo_e, sK_e, sQ_e, sI_e, sR_e, sV_e, sB_e, sC_e, sD_e, sN_e, sP_e, sY_e, st_0, st_S, zc_0, zc_S, b6, h]
theorem w_fw2Body {υ τ : zHp} {n : Int} {x : Bool} (h : m_X5_findFirstRow [22, n] υ = some (if x = true then 1 else 0, τ)) : lf_X5_fewest_2 [22, n] υ = if x = true then some (1, [n], τ) else some (0, [22, n], τ) := by
  cases x <;> simp at h <;> simp [lf_X5_fewest_2, xC_e, xL_e, xU_e, xB_e, xD_e, xF_e, xG_e, xA_e, xE_e, xH_e, xI_e, xZ_e, xK_e, aN_e, aC_e, cR_e, cV_e, cA_e, cO_e, cN_e, bs_e, bn_e, zg_0, zg_S, sS_e, sX_e, sF_e, sG_e, sA_e, sE_e, sEo_e, sK_e, sQ_e, sI_e, sR_e, sV_e, sB_e, sC_e, sD_e, sN_e, sP_e, sY_e, st_0, st_S, zc_0, zc_S, h, rb_0, rb_1]
theorem w_fwEval1 {υ τ τ2 : zHp} {n k : Int} (h1 : sW lc_X5_fewest_1 lf_X5_fewest_1 ls_X5_fewest_1 [22, 0] υ = some (0, [22, k], τ)) (h2 : sW lc_X5_fewest_2 lf_X5_fewest_2 ls_X5_fewest_2 [22, 0] τ = some (1, [n], τ2)) : m_X5_fewest [22] υ = some (n, τ2) := by
  simp [e_X5_fewest, d_X5_fewest, xC_e, xL_e, xU_e, xB_e, xD_e, xF_e, xG_e, xA_e, xE_e, xH_e, xI_e, xZ_e, xK_e, aN_e, aC_e, cR_e, cV_e, cA_e, cO_e, cN_e, bs_e, bn_e, zg_0, zg_S, sS_e, sX_e, sF_e, sG_e, sA_e, sE_e, sEo_e, sK_e, sQ_e, sI_e, sR_e, sV_e, sB_e, sC_e, sD_e, sN_e, sP_e, sY_e, st_0, st_S, zc_0, zc_S, h1, h2]
theorem w_fwEval2 {υ τ τ2 τ3 : zHp} {n k k2 x : Int} (h1 : sW lc_X5_fewest_1 lf_X5_fewest_1 ls_X5_fewest_1 [22, 0] υ = some (0, [22, k], τ)) (h2 : sW lc_X5_fewest_2 lf_X5_fewest_2 ls_X5_fewest_2 [22, 0] τ = some (0, [22, k2], τ2)) (h6 : τ2 6 0 = n) (h3 : m_X5_findFirstRow [22, n] τ2 = some (x, τ3)) (h7 : τ3 6 0 = n) : m_X5_fewest [22] υ = some (n, τ3) := by
  simp [e_X5_fewest, d_X5_fewest, xC_e, xL_e, xU_e, xB_e, xD_e, xF_e, xG_e, xA_e, xE_e, xH_e, xI_e, xZ_e, xK_e, aN_e, aC_e, cR_e, cV_e, cA_e, cO_e, cN_e, bs_e, bn_e, zg_0, zg_S, sS_e, sX_e, sF_e, sG_e, sA_e, sE_e, sEo_e, sK_e, sQ_e, sI_e, sR_e, sV_e, sB_e, sC_e, sD_e, sN_e, sP_e, sY_e, st_0, st_S, zc_0, zc_S, h1, h2, h6, h3, h7]
theorem w_fw {σ : zHp} {cnt C : Nat} {F : Int} {W : Int → Int} {G : Int → Int → Int} (hC : zCp σ cnt C F W G) (hQ : zCq cnt C F G) (hW : zWt cnt W) {f : Nat} (f1 : f ≤ cnt) (f2 : (zEd (zCh2 F W G C) cnt f).1 = cnt) (f3 : ∀ j, j < f → ¬ (zEd (zCh2 F W G C) cnt j).1 = cnt) : ∃ τ, m_X5_fewest [22] σ = some ((f : Int), τ) ∧ (∀ a b : Int, a ≠ 23 → a ≠ 24 → τ a b = σ a b) ∧ ∀ a : Nat, a < cnt → τ 24 a = (zEd (zCh2 F W G C) cnt f).2 a := by
  have n6 := hQ.1
  obtain ⟨τ, l1, z1, z2⟩ := zfor0 (c := lc_X5_fewest_1) (f := lf_X5_fewest_1) (i := 1) (lo := 0) (σ := σ) cnt (fun k => [22, 0 + (k : Int)]) (fun k x => (∀ a b : Int, a ≠ 23 → x a b = σ a b) ∧ ∀ b : Nat, b < k → x 23 b = zSt2 (zHd F W G b) C) ⟨fun _ _ _ => rfl, fun b hb => by omega⟩ (fun k => rfl) (by decide) (by omega)
    (fun k x hk hx => zc_lt (i := 1) (x := 0 + (k : Int)) rfl (zx_G (N := cnt) (by rw [hx.1 6 0 (by decide)]; exact hC.1)) (by omega))
    (fun k x hk hx => by
      have hCx := zCp_k (υ := x) hC (hx.1 6 0 (by omega)) (hx.1 1 2 (by omega)) (hx.1 10 5 (by omega)) (fun k => hx.1 9 k (by omega)) (fun k => hx.1 12 k (by omega))
      have body := w_fw1Body (by omega) (w_hi hCx hQ hW hk)
      rw [z0k, z0k]
      refine ⟨_, _, _, body, Or.inl rfl, rfl, rfl, fun a b h => by rw [zput_o h]; exact hx.1 a b h, fun b hb => ?_⟩
      by_cases z : b = k
      · rw [z, zput_self]
      · rw [zput_i (by omega)]
        exact hx.2 b (by omega))
  have l1b : sW lc_X5_fewest_1 lf_X5_fewest_1 ls_X5_fewest_1 [22, 0] σ = some (0, [22, 0 + (cnt : Int)], τ) := l1
  have hl := zfor (c := lc_X5_fewest_2) (f := lf_X5_fewest_2) (i := 1) (lo := 0) (σ := τ) cnt (fun k => [22, 0 + (k : Int)]) (fun k x => (∀ a b : Int, a ≠ 24 → x a b = τ a b) ∧ k ≤ f)
    (fun t e x => (∀ a b : Int, a ≠ 24 → x a b = τ a b) ∧ ((t = 1 ∧ e = [(f : Int)] ∧ ∀ a : Nat, a < cnt → x 24 a = (zEd (zCh2 F W G C) cnt f).2 a) ∨ (t = 0 ∧ f = cnt ∧ e = [22, 0 + (cnt : Int)]))) ⟨fun _ _ _ => rfl, Nat.zero_le _⟩ (fun k => rfl) (by decide) (by omega)
    (fun k x hk hx => zc_lt (i := 1) (x := 0 + (k : Int)) rfl (zx_G (N := cnt) (by rw [hx.1 6 0 (by decide), z1 6 0 (by decide)]; exact hC.1)) (by omega))
    (fun k x hk hx => by
      obtain ⟨x1, x2⟩ := hx
      obtain ⟨y, y1, y2, y3⟩ := w_ff (σ := x) (n := k) n6 hQ.2.1 (by rw [x1 6 0 (by decide), z1 6 0 (by decide)]; exact hC.1) (F := F) (W := W) (G := G) (fun b hb => by rw [x1 23 b (by decide)]; exact z2 b hb) (by omega)
      have body := w_fw2Body (τ := y) (x := decide ((zEd (zCh2 F W G C) cnt k).1 = cnt)) (by rw [y1]; simp only [decide_eq_true_eq])
      rw [z0k, z0k, body]
      by_cases p : k = f
      · subst p
        rw [if_pos (decide_eq_true f2)]
        exact Or.inl ⟨_, _, rfl, fun a b h => by rw [y2 a b h]; exact x1 a b h, Or.inl ⟨rfl, rfl, y3 f2⟩⟩
      · rw [if_neg (by rw [decide_eq_false (f3 k (by omega))]; decide)]
        exact Or.inr ⟨_, _, _, rfl, Or.inl rfl, rfl, rfl, fun a b h => by rw [y2 a b h]; exact x1 a b h, by omega⟩)
    (fun x hx => ⟨hx.1, Or.inr ⟨rfl, by omega, rfl⟩⟩)
  obtain ⟨t, e, x, hl, x1, hq⟩ := hl
  have hl2 : sW lc_X5_fewest_2 lf_X5_fewest_2 ls_X5_fewest_2 [22, 0] τ = some (t, e, x) := hl
  rcases hq with ⟨rfl, rfl, q3⟩ | ⟨rfl, rfl, rfl⟩
  · exact ⟨x, w_fwEval1 l1b hl2, fun a b h1 h2 => by rw [x1 a b h2, z1 a b h1], q3⟩
  · obtain ⟨y, y1, y2, y3⟩ := w_ff (σ := x) (n := f) n6 hQ.2.1 (by rw [x1 6 0 (by decide), z1 6 0 (by decide)]; exact hC.1) (F := F) (W := W) (G := G) (fun b hb => by rw [x1 23 b (by decide)]; exact z2 b hb) (by omega)
    exact ⟨y, w_fwEval2 l1b hl2 (by rw [x1 6 0 (by decide), z1 6 0 (by decide)]; exact hC.1) y1 (by rw [y2 6 0 (by decide), x1 6 0 (by decide), z1 6 0 (by decide)]; exact hC.1), fun a b h1 h2 => by rw [y2 a b h2, x1 a b h2, z1 a b h1], y3 f2⟩
/-! the reference's clashes -/
theorem v_lc1C {υ : zHp} {a b s k C : Int} (hC : w32 (υ 37 5 * υ 37 6) = C) : lc_X9_layClashes_1 [37, a, b, s, k] υ = some (decide (k < C ∧ a ≠ b), υ) := by
  by_cases p : k < C
  · by_cases q : a = b <;> simp [lc_X9_layClashes_1, xC_e, xL_e, xU_e, xB_e, xD_e, xF_e, xG_e, xA_e, xE_e, xH_e, xI_e, xZ_e, xK_e, aN_e, aC_e, cR_e, cV_e, cA_e, cO_e, cN_e, bs_e, bn_e, zg_0, zg_S, sS_e, sX_e, sF_e, sG_e, sA_e, sE_e, sEo_e, sK_e, sQ_e, sI_e, sR_e, sV_e, sB_e, sC_e, sD_e, sN_e, sP_e, sY_e, st_0, st_S, zc_0, zc_S, r_eq, r_ne, r_lt, r_le, r_gt, r_ge, rb_ite, rb_0, rb_1, v_all, hC, p, q]
  · simp [lc_X9_layClashes_1, xC_e, xL_e, xU_e, xB_e, xD_e, xF_e, xG_e, xA_e, xE_e, xH_e, xI_e, xZ_e, xK_e, aN_e, aC_e, cR_e, cV_e, cA_e, cO_e, cN_e, bs_e, bn_e, zg_0, zg_S, sS_e, sX_e, sF_e, sG_e, sA_e, sE_e, sEo_e, sK_e, sQ_e, sI_e, sR_e, sV_e, sB_e, sC_e, sD_e, sN_e, sP_e, sY_e, st_0, st_S, zc_0, zc_S, r_eq, r_ne, r_lt, r_le, r_gt, r_ge, rb_ite, rb_0, rb_1, v_all, hC, p]
theorem v_lc1Body {υ : zHp} {a b k : Int} {s x y : Bool} (h1 : m_X9_isHeard [37, a, k] υ = some (if x = true then 1 else 0, υ)) (h2 : m_X9_isHeard [37, b, k] υ = some (if y = true then 1 else 0, υ)) : lf_X9_layClashes_1 [37, a, b, if s = true then 1 else 0, k] υ = some (0, [37, a, b, if (s || (x && y)) = true then 1 else 0, k], υ) := by
  cases s <;> cases x <;> simp at h1 <;> cases y <;> simp at h2 <;> simp [lf_X9_layClashes_1, xC_e, xL_e, xU_e, xB_e, xD_e, xF_e, xG_e, xA_e, xE_e, xH_e, xI_e, xZ_e, xK_e, aN_e, aC_e, cR_e, cV_e, cA_e, cO_e, cN_e, bs_e, bn_e, zg_0, zg_S, sS_e, sX_e, sF_e, sG_e, sA_e, sE_e, sEo_e, sK_e, sQ_e, sI_e, sR_e, sV_e, sB_e, sC_e, sD_e, sN_e, sP_e, sY_e, st_0, st_S, zc_0, zc_S, h1, h2, rb_0, rb_1]
theorem v_lc2Body {υ : zHp} {a b s k x : Int} (hl : sW lc_X9_layClashes_1 lf_X9_layClashes_1 ls_X9_layClashes_1 [37, a, b, 0, 0] υ = some (0, [37, a, b, s, k], υ)) (hx : o_iadd (o_imul 6 a) b = x) (i : 0 ≤ x ∧ x < 36) : lf_X9_layClashes_2 [37, a, b, 0, 0] υ = some (0, [37, a, b, 0, 0], zput υ 54 x s) := by
  simp [lf_X9_layClashes_2, xC_e, xL_e, xU_e, xB_e, xD_e, xF_e, xG_e, xA_e, xE_e, xH_e, xI_e, xZ_e, xK_e, aN_e, aC_e, cR_e, cV_e, cA_e, cO_e, cN_e, bs_e, bn_e, zg_0, zg_S, sS_e, sX_e, sF_e, sG_e, sA_e, sE_e, sEo_e, sK_e, sQ_e, sI_e, sR_e, sV_e, sB_e, sC_e, sD_e, sN_e, sP_e, sY_e, st_0, st_S, zc_0, zc_S, hl, hx, i]
theorem v_lc3Body {υ τ : zHp} {a k : Int} (hl : sW lc_X9_layClashes_2 lf_X9_layClashes_2 ls_X9_layClashes_2 [37, a, 0, 0, 0] υ = some (0, [37, a, k, 0, 0], τ)) : lf_X9_layClashes_3 [37, a, 0, 0, 0] υ = some (0, [37, a, 0, 0, 0], τ) := by
  simp [lf_X9_layClashes_3, xC_e, xL_e, xU_e, xB_e, xD_e, xF_e, xG_e, xA_e, xE_e, xH_e, xI_e, xZ_e, xK_e, aN_e, aC_e, cR_e, cV_e, cA_e, cO_e, cN_e, bs_e, bn_e, zg_0, zg_S, sS_e, sX_e, sF_e, sG_e, sA_e, sE_e, sEo_e, sK_e, sQ_e, sI_e, sR_e, sV_e, sB_e, sC_e, sD_e, sN_e, sP_e, sY_e, st_0, st_S, zc_0, zc_S, hl]
theorem v_lcEval {υ τ : zHp} {k : Int} (hl : sW lc_X9_layClashes_3 lf_X9_layClashes_3 ls_X9_layClashes_3 [37, 0, 0, 0, 0] υ = some (0, [37, k, 0, 0, 0], τ)) : m_X9_layClashes [37] υ = some (0, τ) := by
  simp [e_X9_layClashes, d_X9_layClashes, xC_e, xL_e, xU_e, xB_e, xD_e, xF_e, xG_e, xA_e, xE_e, xH_e, xI_e, xZ_e, xK_e, aN_e, aC_e, cR_e, cV_e, cA_e, cO_e, cN_e, bs_e, bn_e, zg_0, zg_S, sS_e, sX_e, sF_e, sG_e, sA_e, sE_e, sEo_e, sK_e, sQ_e, sI_e, sR_e, sV_e, sB_e, sC_e, sD_e, sN_e, sP_e, sY_e, st_0, st_S, zc_0, zc_S, hl]
theorem v_lc1 {σ : zHp} {n C : Nat} {K F ea : Int} {W : Int → Int} {P Q G : Int → Int → Int} (hR : zRp σ n C ea W P Q) (hP : zPc n C K F ea P Q G) (hW : zWt n W) {a b : Nat} (ha : a < n) (hb : b < n) (hab : a ≠ b) : sW lc_X9_layClashes_1 lf_X9_layClashes_1 ls_X9_layClashes_1 [37, (a : Int), (b : Int), 0, 0] σ = some (0, [37, (a : Int), (b : Int), if zCh2 F W G C a b = true then 1 else 0, 0 + (C : Int)], σ) := by
  have c30 := hP.2.1
  refine zforP (c := lc_X9_layClashes_1) (f := lf_X9_layClashes_1) (i := 4) (lo := 0) (σ := σ) C (fun k => [37, (a : Int), (b : Int), if zCh2 F W G k a b = true then 1 else 0, 0 + (k : Int)]) (fun k => rfl) (by decide) (by omega)
    (fun k hk => by
      rw [v_lc1C hR.2.1]
      have : (0 + (k : Int) < (C : Int) ∧ (a : Int) ≠ (b : Int)) ↔ k < C := by omega
      simp only [this])
    (fun k hk => by
      have body := v_lc1Body (a := (a : Int)) (b := (b : Int)) (k := (k : Int)) (s := zCh2 F W G k a b) (x := zHd F W G a k) (y := zHd F W G b k) (by rw [v_hd hR hP hW (by omega) (by omega)]; unfold zHd; simp only [decide_eq_true_eq]) (by rw [v_hd hR hP hW (by omega) (by omega)]; unfold zHd; simp only [decide_eq_true_eq])
      rw [z0k, z0k]
      have e : zCh2 F W G (k + 1) a b = (zCh2 F W G k a b || (zHd F W G a k && zHd F W G b k)) := by
        show (!(zAll (fun c => !(zHd F W G a c && zHd F W G b c)) k && !(zHd F W G a k && zHd F W G b k))) = _
        rw [Bool.not_and, Bool.not_not]
        rfl
      rw [e]
      exact ⟨_, _, body, Or.inl rfl, rfl, rfl⟩)
theorem v_lc1e {σ : zHp} {C a : Int} (hC : w32 (σ 37 5 * σ 37 6) = C) : sW lc_X9_layClashes_1 lf_X9_layClashes_1 ls_X9_layClashes_1 [37, a, a, 0, 0] σ = some (0, [37, a, a, 0, 0], σ) := by
  obtain ⟨t, e, τ, h1, h2, h3, h4⟩ := zl_m (c := lc_X9_layClashes_1) (f := lf_X9_layClashes_1) (s := ls_X9_layClashes_1) (fun k e x => k = 0 ∧ e = [37, a, a, 0, 0] ∧ x = σ) (fun t e x => t = 0 ∧ e = [37, a, a, 0, 0] ∧ x = σ) 1 (e := [37, a, a, 0, 0]) (σ := σ) ⟨rfl, rfl, rfl⟩
    (by
      rintro k e x ⟨rfl, rfl, rfl⟩
      exact Or.inl ⟨x, by rw [v_lc1C hC, decide_eq_false (by omega)], rfl, rfl, rfl⟩) (zf_lt (by decide))
  rw [h1, h2, h3, h4]
theorem v_lc {σ : zHp} {n C : Nat} {K F ea : Int} {W : Int → Int} {P Q G : Int → Int → Int} (hR : zRp σ n C ea W P Q) (hP : zPc n C K F ea P Q G) (hW : zWt n W) (n6 : n ≤ 6) : ∃ τ, m_X9_layClashes [37] σ = some (0, τ) ∧ (∀ a b : Int, a ≠ 54 → τ a b = σ a b) ∧ ∀ a b : Nat, a < b → b < n → τ 54 (6 * (a : Int) + (b : Int)) = if zCh2 F W G C a b = true then 1 else 0 := by
  have rk : ∀ x : zHp, (∀ a b : Int, a ≠ 54 → x a b = σ a b) → zRp x n C ea W P Q := fun x hx => zRp_k hR (hx 37 14 (by decide)) (hx 37 5 (by decide)) (hx 37 6 (by decide)) (hx 37 7 (by decide)) (fun k => hx 46 k (by decide)) (fun k => hx 47 k (by decide)) (fun k => hx 48 k (by decide))
  have ix : ∀ a b : Nat, a < n → b < n → o_iadd (o_imul 6 (a : Int)) (b : Int) = 6 * (a : Int) + (b : Int) := fun a b h1 h2 => by
    have : o_imul 6 (a : Int) = 6 * (a : Int) := w32_id ⟨by omega, by omega⟩
    rw [this]
    exact w32_id ⟨by omega, by omega⟩
  obtain ⟨τ, l, z1, z2⟩ := zfor0 (c := lc_X9_layClashes_3) (f := lf_X9_layClashes_3) (i := 1) (lo := 0) (σ := σ) n (fun k => [37, 0 + (k : Int), 0, 0, 0]) (fun k x => (∀ a b : Int, a ≠ 54 → x a b = σ a b) ∧ ∀ a b : Nat, a < k → a < b → b < n → x 54 (6 * (a : Int) + (b : Int)) = if zCh2 F W G C a b = true then 1 else 0) ⟨fun _ _ _ => rfl, fun a b h => by omega⟩ (fun k => rfl) (by decide) (by omega)
    (fun k x hk hx => zc_lt (i := 1) (x := 0 + (k : Int)) rfl (zx_G (N := n) (rk x hx.1).1) (by omega))
    (fun k x hk hx => by
      obtain ⟨y, y1, y2, y3⟩ := zfor0 (c := lc_X9_layClashes_2) (f := lf_X9_layClashes_2) (i := 2) (lo := 0) (σ := x) n (fun j => [37, (k : Int), 0 + (j : Int), 0, 0]) (fun j u => (∀ a b : Int, ¬ (a = 54 ∧ 6 * (k : Int) ≤ b ∧ b < 6 * (k : Int) + 6) → u a b = x a b) ∧ ∀ b : Nat, b < j → k < b → u 54 (6 * (k : Int) + (b : Int)) = if zCh2 F W G C k b = true then 1 else 0) ⟨fun _ _ _ => rfl, fun b h => by omega⟩ (fun k => rfl) (by decide) (by omega)
        (fun j u hj hu => zc_lt (i := 2) (x := 0 + (j : Int)) rfl (zx_G (N := n) (by rw [hu.1 37 14 (by omega)]; exact (rk x hx.1).1)) (by omega))
        (fun j u hj hu => by
          have hRu := rk u (fun a b h => by rw [hu.1 a b (by omega)]; exact hx.1 a b h)
          by_cases p : k = j
          · subst p
            have body := v_lc2Body (v_lc1e (a := (k : Int)) hRu.2.1) (ix k k hk hk) (by omega)
            rw [z0k, z0k]
            refine ⟨_, _, _, body, Or.inl rfl, rfl, rfl, fun a b h => by rw [zput_n (by omega)]; exact hu.1 a b h, fun b hb hkb => by omega⟩
          · have body := v_lc2Body (v_lc1 hRu hP hW hk hj p) (ix k j hk hj) (by omega)
            rw [z0k, z0k]
            refine ⟨_, _, _, body, Or.inl rfl, rfl, rfl, fun a b h => by rw [zput_n (by omega)]; exact hu.1 a b h, fun b hb hkb => ?_⟩
            by_cases z : b = j
            · rw [z, zput_self]
            · rw [zput_i (by omega)]
              exact hu.2 b (by omega) hkb)
      have y1b : sW lc_X9_layClashes_2 lf_X9_layClashes_2 ls_X9_layClashes_2 [37, (k : Int), 0, 0, 0] x = some (0, [37, (k : Int), 0 + (n : Int), 0, 0], y) := y1
      have body := v_lc3Body y1b
      rw [z0k, z0k]
      refine ⟨_, _, _, body, Or.inl rfl, rfl, rfl, fun a b h => by rw [y2 a b (by omega)]; exact hx.1 a b h, fun a b ha hab hb => ?_⟩
      by_cases z : a = k
      · subst z
        exact y3 b hb hab
      · rw [y2 54 _ (by omega)]
        exact hx.2 a b (by omega) hab hb)
  exact ⟨τ, v_lcEval l, z1, fun a b hab hb => z2 a b (by omega) hab hb⟩
theorem v_mrBody {υ : zHp} {b t a u x i : Int} (a6 : 0 ≤ a ∧ a < 6) (h1 : υ 55 a = u) (hi : o_iadd (o_imul 6 a) b = i) (i36 : 0 ≤ i ∧ i < 36) (h2 : υ 54 i = x) : lf_X9_mayRing_1 [37, b, t, a] υ = if u = t ∧ x ≠ 0 then some (1, [0], υ) else some (0, [37, b, t, a], υ) := by
  by_cases p : u = t
  · subst p
    by_cases q : x = 0 <;> simp [lf_X9_mayRing_1, xC_e, xL_e, xU_e, xB_e, xD_e, xF_e, xG_e, xA_e, xE_e, xH_e, xI_e, xZ_e, xK_e, aN_e, aC_e, cR_e, cV_e, cA_e, cO_e, cN_e, bs_e, bn_e, zg_0, zg_S, sS_e, sX_e, sF_e, sG_e, sA_e, sE_e, sEo_e, sK_e, sQ_e, sI_e, sR_e, sV_e, sB_e, sC_e, sD_e, sN_e, sP_e, sY_e, st_0, st_S, zc_0, zc_S, r_eq, r_ne, r_lt, r_le, r_gt, r_ge, rb_ite, rb_0, rb_1, rb, a6, h1, hi, i36, h2, q]
  · simp [lf_X9_mayRing_1, xC_e, xL_e, xU_e, xB_e, xD_e, xF_e, xG_e, xA_e, xE_e, xH_e, xI_e, xZ_e, xK_e, aN_e, aC_e, cR_e, cV_e, cA_e, cO_e, cN_e, bs_e, bn_e, zg_0, zg_S, sS_e, sX_e, sF_e, sG_e, sA_e, sE_e, sEo_e, sK_e, sQ_e, sI_e, sR_e, sV_e, sB_e, sC_e, sD_e, sN_e, sP_e, sY_e, st_0, st_S, zc_0, zc_S, r_eq, r_ne, r_lt, r_le, r_gt, r_ge, rb_ite, rb_0, rb_1, a6, h1, p]
theorem v_mrEval {υ : zHp} {b t x : Int} {tt : Nat} {e : List Int} (hl : sW lc_X9_mayRing_1 lf_X9_mayRing_1 ls_X9_mayRing_1 [37, b, t, 0] υ = some (tt, e, υ)) (hq : (tt = 1 ∧ e = [0] ∧ x = 0) ∨ (tt = 0 ∧ x = 1)) : m_X9_mayRing [37, b, t] υ = some (x, υ) := by
  rcases hq with ⟨rfl, rfl, rfl⟩ | ⟨rfl, rfl⟩
  · simp [e_X9_mayRing, d_X9_mayRing, xC_e, xL_e, xU_e, xB_e, xD_e, xF_e, xG_e, xA_e, xE_e, xH_e, xI_e, xZ_e, xK_e, aN_e, aC_e, cR_e, cV_e, cA_e, cO_e, cN_e, bs_e, bn_e, zg_0, zg_S, sS_e, sX_e, sF_e, sG_e, sA_e, sE_e, sEo_e, sK_e, sQ_e, sI_e, sR_e, sV_e, sB_e, sC_e, sD_e, sN_e, sP_e, sY_e, st_0, st_S, zc_0, zc_S, hl]
  · simp [e_X9_mayRing, d_X9_mayRing, xC_e, xL_e, xU_e, xB_e, xD_e, xF_e, xG_e, xA_e, xE_e, xH_e, xI_e, xZ_e, xK_e, aN_e, aC_e, cR_e, cV_e, cA_e, cO_e, cN_e, bs_e, bn_e, zg_0, zg_S, sS_e, sX_e, sF_e, sG_e, sA_e, sE_e, sEo_e, sK_e, sQ_e, sI_e, sR_e, sV_e, sB_e, sC_e, sD_e, sN_e, sP_e, sY_e, st_0, st_S, zc_0, zc_S, hl]
def zC54 (σ : zHp) (cnt : Nat) (cl : Nat → Nat → Bool) : Prop := ∀ a b : Nat, a < b → b < cnt → σ 54 (6 * (a : Int) + (b : Int)) = if cl a b = true then 1 else 0
theorem v_mr {σ : zHp} {cnt : Nat} {cl : Nat → Nat → Bool} (hn : cnt ≤ 6) (h54 : zC54 σ cnt cl) {T : Int → Int} {b : Nat} (hb : b < cnt) (hT : ∀ a : Nat, a < b → σ 55 a = T a) (t : Int) : m_X9_mayRing [37, (b : Int), t] σ = some (if zMr cl T b t = true then 1 else 0, σ) := by
  have hl := zfor (c := lc_X9_mayRing_1) (f := lf_X9_mayRing_1) (i := 3) (lo := 0) b (fun k => [37, (b : Int), t, 0 + (k : Int)]) (fun k τ => τ = σ ∧ ∀ a : Nat, a < k → (!(decide (T a = t) && cl a b)) = true)
    (fun tt e τ => τ = σ ∧ ((tt = 1 ∧ e = [0] ∧ zMr cl T b t = false) ∨ (tt = 0 ∧ zMr cl T b t = true))) (σ := σ) ⟨rfl, fun a ha => by omega⟩ (fun k => rfl) (by decide) (by omega)
    (fun k τ hk h => zc_lt (i := 3) (x := 0 + (k : Int)) (N := (b : Int)) rfl (xL_e _ _ _) (by omega))
    (fun k τ hk h => by
      obtain ⟨rfl, h2⟩ := h
      have ix : o_iadd (o_imul 6 (k : Int)) (b : Int) = 6 * (k : Int) + (b : Int) := by
        have : o_imul 6 (k : Int) = 6 * (k : Int) := w32_id ⟨by omega, by omega⟩
        rw [this]
        exact w32_id ⟨by omega, by omega⟩
      have body := v_mrBody (υ := τ) (b := (b : Int)) (t := t) (a := (k : Int)) (by omega) (hT k hk) ix (by omega) (h54 k b hk hb)
      rw [z0k, z0k, body]
      have e : ((if cl k b = true then (1 : Int) else 0) ≠ 0) ↔ cl k b = true := by
        cases cl k b <;> simp
      by_cases p : T k = t ∧ (if cl k b = true then (1 : Int) else 0) ≠ 0
      · rw [if_pos p]
        exact Or.inl ⟨_, _, rfl, rfl, Or.inl ⟨rfl, rfl, zAll_f (k := k) (by rw [decide_eq_true p.1, e.mp p.2]; rfl) b hk⟩⟩
      · rw [if_neg p]
        refine Or.inr ⟨_, _, _, rfl, Or.inl rfl, rfl, rfl, rfl, fun a ha => ?_⟩
        by_cases z : a = k
        · subst z
          by_cases q : T a = t
          · have : cl a b = false := Bool.eq_false_iff.mpr (fun y => p ⟨q, e.mpr y⟩)
            rw [this, Bool.and_false]
            rfl
          · rw [decide_eq_false q]
            rfl
        · exact h2 a (by omega))
    (fun τ h => ⟨h.1, Or.inr ⟨rfl, zAll_t b h.2⟩⟩)
  obtain ⟨tt, e, τ, hl, rfl, hq⟩ := hl
  refine v_mrEval hl ?_
  rcases hq with ⟨q1, q2, q3⟩ | ⟨q1, q2⟩
  · exact Or.inl ⟨q1, q2, by rw [q3]; rfl⟩
  · exact Or.inr ⟨q1, by rw [q2]; rfl⟩
theorem v_at1C {υ : zHp} {n b t : Int} {x : Bool} (b6 : 0 ≤ b ∧ b < 6) (ht : υ 55 b = t) (h : m_X9_mayRing [37, b, t] υ = some (if x = true then 1 else 0, υ)) : lc_X9_areTurns_1 [37, n, b] υ = some (decide (t < n ∧ (!x) = true), υ) := by
  cases x <;> simp at h <;> by_cases p : t < n <;> simp [lc_X9_areTurns_1, xC_e, xL_e, xU_e, xB_e, xD_e, xF_e, xG_e, xA_e, xE_e, xH_e, xI_e, xZ_e, xK_e, aN_e, aC_e, cR_e, cV_e, cA_e, cO_e, cN_e, bs_e, bn_e, zg_0, zg_S, sS_e, sX_e, sF_e, sG_e, sA_e, sE_e, sEo_e, sK_e, sQ_e, sI_e, sR_e, sV_e, sB_e, sC_e, sD_e, sN_e, sP_e, sY_e, st_0, st_S, zc_0, zc_S, r_eq, r_ne, r_lt, r_le, r_gt, r_ge, rb_ite, rb_0, rb_1, b6, ht, h, p, rb_0, rb_1]
theorem v_at1Body {υ : zHp} {n b t t2 : Int} (b6 : 0 ≤ b ∧ b < 6) (ht : υ 55 b = t) (h : o_iadd t 1 = t2) : lf_X9_areTurns_1 [37, n, b] υ = some (0, [37, n, b], zput υ 55 b t2) := by
  simp [lf_X9_areTurns_1, xC_e, xL_e, xU_e, xB_e, xD_e, xF_e, xG_e, xA_e, xE_e, xH_e, xI_e, xZ_e, xK_e, aN_e, aC_e, cR_e, cV_e, cA_e, cO_e, cN_e, bs_e, bn_e, zg_0, zg_S, sS_e, sX_e, sF_e, sG_e, sA_e, sE_e, sEo_e, sK_e, sQ_e, sI_e, sR_e, sV_e, sB_e, sC_e, sD_e, sN_e, sP_e, sY_e, st_0, st_S, zc_0, zc_S, b6, ht, h]
theorem v_at1 {σ : zHp} {cnt : Nat} {cl : Nat → Nat → Bool} (hn : cnt ≤ 6) (h54 : zC54 σ cnt cl) {T : Int → Int} {b : Nat} (hb : b < cnt) (hT : ∀ a : Nat, a < b → σ 55 a = T a) {u : Int} {n : Nat} (hu : 0 ≤ u ∧ u ≤ 7) (n6 : n ≤ 6) : sW lc_X9_areTurns_1 lf_X9_areTurns_1 ls_X9_areTurns_1 [37, (n : Int), (b : Int)] (zput σ 55 b u) = some (0, [37, (n : Int), (b : Int)], zput σ 55 b (zNx (fun t => !zMr cl T b t) n 8 u)) := by
  have hl := zl_m (c := lc_X9_areTurns_1) (f := lf_X9_areTurns_1) (s := ls_X9_areTurns_1) (fun k e τ => τ = zput σ 55 b (u + (k : Int)) ∧ k ≤ 8 ∧ e = [37, (n : Int), (b : Int)] ∧ zNx (fun t => !zMr cl T b t) n 8 u = zNx (fun t => !zMr cl T b t) n (8 - k) (u + (k : Int)))
    (fun t e τ => τ = zput σ 55 b (zNx (fun t => !zMr cl T b t) n 8 u) ∧ t = 0 ∧ e = [37, (n : Int), (b : Int)]) 8 (e := [37, (n : Int), (b : Int)]) (σ := zput σ 55 b u) ⟨by simp, by decide, rfl, by simp⟩
    (by
      rintro k e τ ⟨rfl, hk, rfl, h2⟩
      have mr := v_mr (σ := zput σ 55 b (u + (k : Int))) hn (fun a b h1 h2 => by rw [zput_o (by decide)]; exact h54 a b h1 h2) hb (T := T) (fun a ha => by rw [zput_i (by omega)]; exact hT a ha) (u + (k : Int))
      have c := v_at1C (n := (n : Int)) (by omega) (zput_self σ 55 b (u + (k : Int))) mr
      by_cases g : u + (k : Int) < n ∧ (!zMr cl T b (u + (k : Int))) = true
      · refine Or.inr ⟨by omega, _, by rw [c, decide_eq_true g], ?_⟩
        have body := v_at1Body (υ := zput σ 55 b (u + (k : Int))) (n := (n : Int)) (b := (b : Int)) (t2 := u + ((k + 1 : Nat) : Int)) (by omega) (zput_self σ 55 b (u + (k : Int))) (by
          have : o_iadd (u + (k : Int)) 1 = u + (k : Int) + 1 := w32_id ⟨by omega, by omega⟩
          omega)
        rw [zput_put] at body
        refine ⟨0, _, _, body, Or.inr ⟨Or.inl rfl, _, _, rfl, rfl, by omega, rfl, ?_⟩⟩
        rw [h2, show 8 - k = (8 - (k + 1)) + 1 by omega, zNx_S, if_pos g, show u + (k : Int) + 1 = u + ((k + 1 : Nat) : Int) by omega]
      · refine Or.inl ⟨_, by rw [c, decide_eq_false g], ?_, rfl, rfl⟩
        have : zNx (fun t => !zMr cl T b t) n (8 - k) (u + (k : Int)) = u + (k : Int) := by
          rcases (show 8 - k = 0 ∨ ∃ j, 8 - k = j + 1 from by
            rcases Nat.eq_zero_or_pos (8 - k) with z | z
            · exact Or.inl z
            · exact Or.inr ⟨8 - k - 1, by omega⟩) with z | ⟨j, z⟩
          · rw [z]; rfl
          · rw [z, zNx_S, if_neg g]
        rw [h2, this])
    (zf_lt (by decide))
  obtain ⟨t, e, τ, hl, rfl, rfl, rfl⟩ := hl
  exact hl
theorem v_at2C {υ : zHp} {n b cnt : Int} (h : υ 37 14 = cnt) : lc_X9_areTurns_2 [37, n, b] υ = some (decide (0 ≤ b ∧ b < cnt), υ) := by
  by_cases p2 : 0 ≤ b
  · by_cases p3 : b < cnt <;> simp [lc_X9_areTurns_2, xC_e, xL_e, xU_e, xB_e, xD_e, xF_e, xG_e, xA_e, xE_e, xH_e, xI_e, xZ_e, xK_e, aN_e, aC_e, cR_e, cV_e, cA_e, cO_e, cN_e, bs_e, bn_e, zg_0, zg_S, sS_e, sX_e, sF_e, sG_e, sA_e, sE_e, sEo_e, sK_e, sQ_e, sI_e, sR_e, sV_e, sB_e, sC_e, sD_e, sN_e, sP_e, sY_e, st_0, st_S, zc_0, zc_S, r_eq, r_ne, r_lt, r_le, r_gt, r_ge, rb_ite, rb_0, rb_1, p2, p3, h]
  · simp [lc_X9_areTurns_2, xC_e, xL_e, xU_e, xB_e, xD_e, xF_e, xG_e, xA_e, xE_e, xH_e, xI_e, xZ_e, xK_e, aN_e, aC_e, cR_e, cV_e, cA_e, cO_e, cN_e, bs_e, bn_e, zg_0, zg_S, sS_e, sX_e, sF_e, sG_e, sA_e, sE_e, sEo_e, sK_e, sQ_e, sI_e, sR_e, sV_e, sB_e, sC_e, sD_e, sN_e, sP_e, sY_e, st_0, st_S, zc_0, zc_S, r_eq, r_ne, r_lt, r_le, r_gt, r_ge, rb_ite, rb_0, rb_1, p2]
theorem v_at2Body {υ : zHp} {n b cnt tb u t : Int} (b6 : 0 ≤ b ∧ b < 6) (hb : υ 55 b = tb) (hu : o_iadd tb 1 = u) (hl : sW lc_X9_areTurns_1 lf_X9_areTurns_1 ls_X9_areTurns_1 [37, n, b] (zput υ 55 b u) = some (0, [37, n, b], zput υ 55 b t)) (h6 : υ 37 14 = cnt) (c6 : cnt ≤ 6) : lf_X9_areTurns_2 [37, n, b] υ = some (0, [37, n, if t ≥ n then b - 1 else b + 1], if t ≥ n then zput υ 55 b t else if b + 1 < cnt then zput (zput υ 55 b t) 55 (b + 1) (-1) else zput υ 55 b t) := by
  have e1 : o_iadd b (-1) = b - 1 := by
    have : o_iadd b (-1) = b + -1 := w32_id ⟨by omega, by omega⟩
    omega
  have e2 : o_iadd b 1 = b + 1 := w32_id ⟨by omega, by omega⟩
  have e3 : zput υ 55 b t 55 b = t := zput_self _ _ _ _
  have e4 : zput υ 55 b t 37 14 = cnt := by rw [zput_o (by decide)]; exact h6
  by_cases p : n ≤ t
  · simp [lf_X9_areTurns_2, xC_e, xL_e, xU_e, xB_e, xD_e, xF_e, xG_e, xA_e, xE_e, xH_e, xI_e, xZ_e, xK_e, aN_e, aC_e, cR_e, cV_e, cA_e, cO_e, cN_e, bs_e, bn_e, zg_0, zg_S, sS_e, sX_e, sF_e, sG_e, sA_e, sE_e, sEo_e, sK_e, sQ_e, sI_e, sR_e, sV_e, sB_e, sC_e, sD_e, sN_e, sP_e, sY_e, st_0, st_S, zc_0, zc_S, r_eq, r_ne, r_lt, r_le, r_gt, r_ge, rb_ite, rb_0, rb_1, b6, hb, hu, hl, e3, p, e1]
  · by_cases q : b + 1 < cnt
    · have b7 : 0 ≤ b + 1 ∧ b + 1 < 6 := by omega
      simp [lf_X9_areTurns_2, xC_e, xL_e, xU_e, xB_e, xD_e, xF_e, xG_e, xA_e, xE_e, xH_e, xI_e, xZ_e, xK_e, aN_e, aC_e, cR_e, cV_e, cA_e, cO_e, cN_e, bs_e, bn_e, zg_0, zg_S, sS_e, sX_e, sF_e, sG_e, sA_e, sE_e, sEo_e, sK_e, sQ_e, sI_e, sR_e, sV_e, sB_e, sC_e, sD_e, sN_e, sP_e, sY_e, st_0, st_S, zc_0, zc_S, r_eq, r_ne, r_lt, r_le, r_gt, r_ge, rb_ite, rb_0, rb_1, b6, hb, hu, hl, e3, p, e2, e4, q, b7]
    · simp [lf_X9_areTurns_2, xC_e, xL_e, xU_e, xB_e, xD_e, xF_e, xG_e, xA_e, xE_e, xH_e, xI_e, xZ_e, xK_e, aN_e, aC_e, cR_e, cV_e, cA_e, cO_e, cN_e, bs_e, bn_e, zg_0, zg_S, sS_e, sX_e, sF_e, sG_e, sA_e, sE_e, sEo_e, sK_e, sQ_e, sI_e, sR_e, sV_e, sB_e, sC_e, sD_e, sN_e, sP_e, sY_e, st_0, st_S, zc_0, zc_S, r_eq, r_ne, r_lt, r_le, r_gt, r_ge, rb_ite, rb_0, rb_1, b6, hb, hu, hl, e3, p, e2, e4, q]
theorem v_atEval {υ τ : zHp} {n b cnt : Int} (hl : sW lc_X9_areTurns_2 lf_X9_areTurns_2 ls_X9_areTurns_2 [37, n, 0] (zput υ 55 0 (-1)) = some (0, [37, n, b], τ)) (h6 : τ 37 14 = cnt) : m_X9_areTurns [37, n] υ = some (if b ≥ cnt then 1 else 0, τ) := by
  by_cases p : cnt ≤ b <;> simp [e_X9_areTurns, d_X9_areTurns, xC_e, xL_e, xU_e, xB_e, xD_e, xF_e, xG_e, xA_e, xE_e, xH_e, xI_e, xZ_e, xK_e, aN_e, aC_e, cR_e, cV_e, cA_e, cO_e, cN_e, bs_e, bn_e, zg_0, zg_S, sS_e, sX_e, sF_e, sG_e, sA_e, sE_e, sEo_e, sK_e, sQ_e, sI_e, sR_e, sV_e, sB_e, sC_e, sD_e, sN_e, sP_e, sY_e, st_0, st_S, zc_0, zc_S, r_eq, r_ne, r_lt, r_le, r_gt, r_ge, rb_ite, rb_0, rb_1, hl, h6, p]
theorem v_at {σ : zHp} {cnt : Nat} {cl : Nat → Nat → Bool} (hn : cnt ≤ 6) (h14 : σ 37 14 = cnt) (h54 : zC54 σ cnt cl) {n : Nat} (n6 : n ≤ 6) : ∃ τ, m_X9_areTurns [37, (n : Int)] σ = some (if (zEd cl cnt n).1 = cnt then 1 else 0, τ) ∧ (∀ a b : Int, a ≠ 55 → τ a b = σ a b) ∧ ((zEd cl cnt n).1 = cnt → ∀ a : Nat, a < cnt → τ 55 a = (zEd cl cnt n).2 a) := by
  have hl := zl_m (c := lc_X9_areTurns_2) (f := lf_X9_areTurns_2) (s := ls_X9_areTurns_2) (fun k e x => k ≤ 262144 ∧ e = [37, (n : Int), (zIt cl cnt n k).1] ∧ (∀ a b : Int, a ≠ 55 → x a b = σ a b) ∧ ∀ a : Nat, (a : Int) ≤ (zIt cl cnt n k).1 → a < cnt → x 55 a = (zIt cl cnt n k).2 a)
    (fun t e x => t = 0 ∧ e = [37, (n : Int), (zEd cl cnt n).1] ∧ (∀ a b : Int, a ≠ 55 → x a b = σ a b) ∧ ∀ a : Nat, (a : Int) ≤ (zEd cl cnt n).1 → a < cnt → x 55 a = (zEd cl cnt n).2 a) 262144 (e := [37, (n : Int), 0]) (σ := zput σ 55 0 (-1))
    ⟨by decide, rfl, fun a b h => zput_o h b, fun a ha _ => by
      have ha2 : (a : Int) ≤ 0 := ha
      have : a = 0 := by omega
      subst this
      exact zput_self _ _ _ _⟩
    (by
      rintro k e x ⟨hk, rfl, hx, hT⟩
      have c := v_at2C (υ := x) (n := (n : Int)) (b := (zIt cl cnt n k).1) (cnt := (cnt : Int)) (by rw [hx 37 14 (by decide)]; exact h14)
      by_cases g : 0 ≤ (zIt cl cnt n k).1 ∧ (zIt cl cnt n k).1 < cnt
      · have lt := zIt_lt hn n6 g
        have dig := (zIt_m hn n6 k g.1 g.2).1
        refine Or.inr ⟨lt, x, by rw [c, decide_eq_true g], ?_⟩
        have S := zIt_S cl cnt n k
        unfold zStp at S
        rw [if_pos g] at S
        generalize zIt cl cnt n k = s at *
        generalize zIt cl cnt n (k + 1) = s2 at *
        obtain ⟨b, T⟩ := s
        dsimp only at *
        have b2 : ((b.toNat : Nat) : Int) = b := by omega
        have d0 := dig b.toNat (by omega)
        rw [b2] at d0
        have xb := hT b.toNat (by omega) (by omega)
        rw [b2] at xb
        have nw := v_at1 (σ := x) (cnt := cnt) (cl := cl) hn (fun a b h1 h2 => by rw [hx 54 _ (by decide)]; exact h54 a b h1 h2) (T := T) (b := b.toNat) (by omega) (fun a ha => hT a (by omega) (by omega)) (u := T b + 1) (n := n) (by omega) n6
        rw [b2] at nw
        have body := v_at2Body (n := (n : Int)) (cnt := (cnt : Int)) (by omega) xb (w32_id (x := T b + 1) ⟨by omega, by omega⟩) nw (by rw [hx 37 14 (by decide)]; exact h14) (by omega)
        generalize zNx (fun t => !zMr cl T b.toNat t) n 8 (T b + 1) = t2 at *
        by_cases p : t2 ≥ (n : Int)
        · rw [if_pos p] at S
          rw [if_pos p, if_pos p] at body
          subst S
          refine ⟨0, _, _, body, Or.inr ⟨Or.inl rfl, _, _, rfl, by omega, rfl, fun a i h => by rw [zput_o h]; exact hx a i h, fun a ha hac => ?_⟩⟩
          dsimp only at ha ⊢
          rw [zput_i (by omega), zWs_n (by omega)]
          exact hT a (by omega) hac
        · rw [if_neg p] at S
          rw [if_neg p, if_neg p] at body
          subst S
          refine ⟨0, _, _, body, Or.inr ⟨Or.inl rfl, _, _, rfl, by omega, rfl, fun a i h => ?_, fun a ha hac => ?_⟩⟩
          · split
            · rw [zput_o h, zput_o h]; exact hx a i h
            · rw [zput_o h]; exact hx a i h
          · dsimp only at ha ⊢
            have key : zput x 55 b t2 55 a = zWs T b t2 a ∨ (a : Int) = b + 1 := by
              by_cases z : (a : Int) = b
              · rw [z, zput_self, zWs_b]; exact Or.inl rfl
              · by_cases z2 : (a : Int) = b + 1
                · exact Or.inr z2
                · rw [zput_i z, zWs_n z]
                  exact Or.inl (hT a (by omega) hac)
            by_cases q : b + 1 < cnt
            · rw [if_pos q, if_pos q]
              by_cases z : (a : Int) = b + 1
              · rw [z, zput_self, zWs_b]
              · rw [zput_i z, zWs_n z]
                exact key.resolve_right z
            · rw [if_neg q, if_neg q]
              exact key.resolve_right (by omega)
      · have e := zEd_e (k := k) hk g
        rw [e]
        exact Or.inl ⟨x, by rw [c, decide_eq_false g], rfl, rfl, hx, hT⟩)
    (zf_lt (by decide))
  obtain ⟨t, e, x, hl, rfl, rfl, hx, hT⟩ := hl
  have le : (zEd cl cnt n).1 ≤ cnt := zIt_le 262144
  have ev := v_atEval hl (cnt := (cnt : Int)) (by rw [hx 37 14 (by decide)]; exact h14)
  refine ⟨x, ?_, hx, fun h a ha => hT a (by omega) ha⟩
  rw [ev]
  by_cases p : (zEd cl cnt n).1 = cnt
  · rw [if_pos p, if_pos (by omega)]
  · rw [if_neg p, if_neg (by omega)]
theorem v_tuC {υ τ : zHp} {w b n : Int} {x : Bool} (h : m_X9_areTurns [37, n] υ = some (if x = true then 1 else 0, τ)) : lc_X9_turns_1 [37, w, b, n] υ = some (!x, τ) := by
  cases x <;> simp at h <;> simp [lc_X9_turns_1, xC_e, xL_e, xU_e, xB_e, xD_e, xF_e, xG_e, xA_e, xE_e, xH_e, xI_e, xZ_e, xK_e, aN_e, aC_e, cR_e, cV_e, cA_e, cO_e, cN_e, bs_e, bn_e, zg_0, zg_S, sS_e, sX_e, sF_e, sG_e, sA_e, sE_e, sEo_e, sK_e, sQ_e, sI_e, sR_e, sV_e, sB_e, sC_e, sD_e, sN_e, sP_e, sY_e, st_0, st_S, zc_0, zc_S, h, rb_0, rb_1]
theorem v_tuBody {υ : zHp} {w b n n2 : Int} (h : o_iadd n 1 = n2) : lf_X9_turns_1 [37, w, b, n] υ = some (0, [37, w, b, n2], υ) := by
  simp only [lf_X9_turns_1, xC_e, xL_e, xU_e, xB_e, xD_e, xF_e, xG_e, xA_e, xE_e, xH_e, xI_e, xZ_e, xK_e, aN_e, aC_e, cR_e, cV_e, cA_e, cO_e, cN_e, bs_e, bn_e, zg_0, zg_S, sS_e, sX_e, sF_e, sG_e, sA_e, sE_e, sEo_e, sK_e, sQ_e, sI_e, sR_e, sV_e, sB_e, sC_e, sD_e, sN_e, sP_e, sY_e, st_0, st_S, zc_0, zc_S, h]
