/-! keep: members of a set -/
theorem zcn_1 {x : Int} : ∀ n : Nat, (0 ≤ x ∧ x < n ∧ zcn (fun i => decide ((i : Int) = x)) n = 1) ∨ (¬ (0 ≤ x ∧ x < n) ∧ zcn (fun i => decide ((i : Int) = x)) n = 0)
  | 0 => Or.inr ⟨by omega, rfl⟩
  | n + 1 => by
    have ih := zcn_1 (x := x) n
    rw [zcn_S]
    by_cases p : (n : Int) = x
    · rw [if_pos (decide_eq_true p)]
      omega
    · rw [if_neg (fun z => p (of_decide_eq_true z))]
      omega
theorem zcn_S3 {x y z : Int} (h1 : x ≠ y ∨ x < 0) (h2 : x ≠ z ∨ x < 0) (h3 : y ≠ z ∨ y < 0) (n : Nat) : zcn (zS3 x y z) n = zcn (fun i => decide ((i : Int) = x)) n + zcn (fun i => decide ((i : Int) = y)) n + zcn (fun i => decide ((i : Int) = z)) n := by
  rw [← zcn_or (f := fun i => decide ((i : Int) = x)) (g := fun i => decide ((i : Int) = y)), ← zcn_or (f := fun i => (decide ((i : Int) = x) || decide ((i : Int) = y)))]
  · refine zcn_c _ (fun i _ => ?_)
    unfold zS3
    rw [← Bool.decide_or, ← Bool.decide_or]
    exact decide_eq_decide.mpr (by omega)
  · intro i _ h
    rw [Bool.or_eq_true, decide_eq_true_eq, decide_eq_true_eq, decide_eq_true_eq] at h
    omega
  · intro i _ h
    rw [decide_eq_true_eq, decide_eq_true_eq] at h
    omega
def zOrd (C n : Nat) (x y z : Int) : Prop := (n = 0 ∧ x = -9 ∧ y = -9 ∧ z = -9) ∨ (n = 1 ∧ 0 ≤ x ∧ x < C ∧ y = -9 ∧ z = -9) ∨ (n = 2 ∧ 0 ≤ x ∧ x < y ∧ y < C ∧ z = -9) ∨ (n = 3 ∧ 0 ≤ x ∧ x < y ∧ y < z ∧ z < C)
theorem zRs_o {p : Nat → Bool} {K : Int → Int → Int → Bool} {C : Nat} {x y z : Int} : ∀ n : Nat, n ≤ 3 → zRs p K C n = some (x, y, z) → zOrd C n x y z
  | 0, _, h => by
    have h : (if K (-9) (-9) (-9) = true then some ((-9 : Int), (-9 : Int), (-9 : Int)) else none) = some (x, y, z) := h
    by_cases g : K (-9) (-9) (-9) = true
    · rw [if_pos g] at h
      cases h
      exact Or.inl ⟨rfl, rfl, rfl, rfl⟩
    · rw [if_neg g] at h
      cases h
  | 1, _, h => by
    obtain ⟨i, i1, i2, h⟩ := zFx_s _ _ (show zFx _ C 0 = some (x, y, z) from h)
    by_cases g : p i = true ∧ K i (-9) (-9) = true
    · rw [if_pos g] at h
      cases h
      exact Or.inr (Or.inl ⟨rfl, by omega, by omega, rfl, rfl⟩)
    · rw [if_neg g] at h
      cases h
  | 2, _, h => by
    obtain ⟨i, i1, i2, h⟩ := zFx_s _ _ (show zFx _ C 0 = some (x, y, z) from h)
    obtain ⟨j, j1, j2, h⟩ := zFx_s _ _ h
    by_cases g : p i = true ∧ p j = true ∧ K i j (-9) = true
    · rw [if_pos g] at h
      cases h
      exact Or.inr (Or.inr (Or.inl ⟨rfl, by omega, by omega, by omega, rfl⟩))
    · rw [if_neg g] at h
      cases h
  | 3, _, h => by
    obtain ⟨i, i1, i2, h⟩ := zFx_s _ _ (show zFx _ C 0 = some (x, y, z) from h)
    obtain ⟨j, j1, j2, h⟩ := zFx_s _ _ h
    obtain ⟨k, k1, k2, h⟩ := zFx_s _ _ h
    by_cases g : p i = true ∧ p j = true ∧ p k = true ∧ K i j k = true
    · rw [if_pos g] at h
      cases h
      exact Or.inr (Or.inr (Or.inr ⟨rfl, by omega, by omega, by omega, by omega⟩))
    · rw [if_neg g] at h
      cases h
theorem zBb_t {C n : Nat} {x y z : Int} (hC : C ≤ 30) (h : zOrd C n x y z) : zt (zBb n (x, y, z)) = zS3 x y z := by
  rcases h with ⟨rfl, rfl, rfl, rfl⟩ | ⟨rfl, h1, h2, rfl, rfl⟩ | ⟨rfl, h1, h2, h3, rfl⟩ | ⟨rfl, h1, h2, h3, h4⟩
  · exact zBt0
  · obtain ⟨i, rfl⟩ : ∃ i : Nat, x = i := ⟨x.toNat, by omega⟩
    exact zBt1 (by omega)
  · obtain ⟨i, rfl⟩ : ∃ i : Nat, x = i := ⟨x.toNat, by omega⟩
    obtain ⟨j, rfl⟩ : ∃ i : Nat, y = i := ⟨y.toNat, by omega⟩
    exact zBt2 (by omega) (by omega)
  · obtain ⟨i, rfl⟩ : ∃ i : Nat, x = i := ⟨x.toNat, by omega⟩
    obtain ⟨j, rfl⟩ : ∃ i : Nat, y = i := ⟨y.toNat, by omega⟩
    obtain ⟨k, rfl⟩ : ∃ i : Nat, z = i := ⟨z.toNat, by omega⟩
    exact zBt3 (by omega) (by omega) (by omega)
def zQth (q : Int) (n : Nat) (x y z : Int) : Int := if q < n then (if q = 0 then x else if q = 1 then y else z) else -9
theorem zBb_n {C n : Nat} {x y z : Int} (hC : C ≤ 30) (h : zOrd C n x y z) : zcnt (zBb n (x, y, z)) = n := by
  unfold zcnt
  rw [zBb_t hC h]
  unfold zOrd at h
  rw [zcn_S3 (by omega) (by omega) (by omega)]
  have c1 := zcn_1 (x := x) 32
  have c2 := zcn_1 (x := y) 32
  have c3 := zcn_1 (x := z) 32
  generalize zcn (fun i => decide ((i : Int) = x)) 32 = d1 at *
  generalize zcn (fun i => decide ((i : Int) = y)) 32 = d2 at *
  generalize zcn (fun i => decide ((i : Int) = z)) 32 = d3 at *
  rcases h with h | h | h | h <;> omega
theorem zOrd_q {C n : Nat} {x y z : Int} (hC : C ≤ 30) (h : zOrd C n x y z) {q : Int} (hq : 0 ≤ q ∧ q < 3) {r : Int} (hr : (∃ i : Nat, i < 30 ∧ r = i ∧ zS3 x y z i = true ∧ (zcn (zS3 x y z) i : Int) = q) ∨ (r = -9 ∧ ∀ i : Nat, i < 30 → zS3 x y z i = true → (zcn (zS3 x y z) i : Int) ≠ q)) : r = zQth q n x y z := by
  unfold zOrd at h
  have cn := fun i => zcn_S3 (x := x) (y := y) (z := z) (by omega) (by omega) (by omega) i
  have at1 : ∀ i : Nat, zS3 x y z i = true ↔ ((i : Int) = x ∨ (i : Int) = y ∨ (i : Int) = z) := fun i => by
    unfold zS3
    exact decide_eq_true_iff
  unfold zQth
  rcases hr with ⟨i, i1, rfl, i2, i3⟩ | ⟨rfl, hr⟩
  · rw [at1] at i2
    rw [cn] at i3
    have c1 := zcn_1 (x := x) i
    have c2 := zcn_1 (x := y) i
    have c3 := zcn_1 (x := z) i
    generalize zcn (fun i => decide ((i : Int) = x)) i = d1 at *
    generalize zcn (fun i => decide ((i : Int) = y)) i = d2 at *
    generalize zcn (fun i => decide ((i : Int) = z)) i = d3 at *
    clear cn at1
    rcases h with h | h | h | h
    · omega
    · split
      · split
        · omega
        · omega
      · omega
    · split
      · split
        · omega
        · split
          · omega
          · omega
      · omega
    · split
      · split
        · omega
        · split
          · omega
          · omega
      · omega
  · have key : ∀ v : Int, 0 ≤ v → v < 30 → (v = x ∨ v = y ∨ v = z) → ∃ d1 d2 d3 : Nat, ((d1 + d2 + d3 : Nat) : Int) ≠ q ∧ ((0 ≤ x ∧ x < v ∧ d1 = 1) ∨ (¬ (0 ≤ x ∧ x < v) ∧ d1 = 0)) ∧ ((0 ≤ y ∧ y < v ∧ d2 = 1) ∨ (¬ (0 ≤ y ∧ y < v) ∧ d2 = 0)) ∧ ((0 ≤ z ∧ z < v ∧ d3 = 1) ∨ (¬ (0 ≤ z ∧ z < v) ∧ d3 = 0)) := fun v v0 v1 hv => by
      obtain ⟨i, rfl⟩ : ∃ i : Nat, v = i := ⟨v.toNat, by omega⟩
      have := hr i (by omega) ((at1 i).mpr hv)
      rw [cn] at this
      exact ⟨_, _, _, this, zcn_1 i, zcn_1 i, zcn_1 i⟩
    clear cn at1 hr
    by_cases g : q < n
    · rw [if_pos g]
      by_cases q0 : q = 0
      · rw [if_pos q0]
        obtain ⟨d1, d2, d3, k1, k2, k3, k4⟩ := key x (by omega) (by omega) (Or.inl rfl)
        rcases h with h | h | h | h <;> omega
      · rw [if_neg q0]
        by_cases q1 : q = 1
        · rw [if_pos q1]
          obtain ⟨d1, d2, d3, k1, k2, k3, k4⟩ := key y (by omega) (by omega) (Or.inr (Or.inl rfl))
          rcases h with h | h | h | h <;> omega
        · rw [if_neg q1]
          obtain ⟨d1, d2, d3, k1, k2, k3, k4⟩ := key z (by omega) (by omega) (Or.inr (Or.inr rfl))
          rcases h with h | h | h | h <;> omega
    · rw [if_neg g]
theorem w_mbBody {τ : zHp} {s q a k : Int} {b : Bool} (hb : zAnd (zShr s k) 1 = if b = true then 1 else 0) (ha : o_iadd a 1 = a + 1) : lf_X8_memberOf_1 [s, q, a, k] τ = if b = true then (if a = q then some (1, [k], τ) else some (0, [s, q, a + 1, k], τ)) else some (3, [s, q, a, k], τ) := by
  cases b
  · simp at hb
    simp [lf_X8_memberOf_1, xC_e, xL_e, xU_e, xB_e, xD_e, xF_e, xG_e, xA_e, xE_e, xH_e, xI_e, xZ_e, xK_e, aN_e, aC_e, cR_e, cV_e, cA_e, cO_e, cN_e, bs_e, bn_e, zg_0, zg_S, sS_e, sX_e, sF_e, sG_e, sA_e, sE_e, sEo_e, sK_e, sQ_e, sI_e, sR_e, sV_e, sB_e, sC_e, sD_e, sN_e, sP_e, sY_e, st_0, st_S, zc_0, zc_S, r_eq, r_ne, r_lt, r_le, r_gt, r_ge, rb_ite, rb_0, rb_1, hb]
  · simp at hb
    by_cases p : a = q <;> simp [lf_X8_memberOf_1, xC_e, xL_e, xU_e, xB_e, xD_e, xF_e, xG_e, xA_e, xE_e, xH_e, xI_e, xZ_e, xK_e, aN_e, aC_e, cR_e, cV_e, cA_e, cO_e, cN_e, bs_e, bn_e, zg_0, zg_S, sS_e, sX_e, sF_e, sG_e, sA_e, sE_e, sEo_e, sK_e, sQ_e, sI_e, sR_e, sV_e, sB_e, sC_e, sD_e, sN_e, sP_e, sY_e, st_0, st_S, zc_0, zc_S, r_eq, r_ne, r_lt, r_le, r_gt, r_ge, rb_ite, rb_0, rb_1, hb, ha, p]
theorem w_mb (τ : zHp) (s q : Int) : ∃ r, m_X8_memberOf [s, q] τ = some (r, τ) ∧ ((∃ i : Nat, i < 30 ∧ r = i ∧ zt s i = true ∧ (zcn (zt s) i : Int) = q) ∨ (r = -9 ∧ ∀ i : Nat, i < 30 → zt s i = true → (zcn (zt s) i : Int) ≠ q)) := by
  have hl := zfor (c := lc_X8_memberOf_1) (f := lf_X8_memberOf_1) (i := 3) (lo := 0) (σ := τ) 30 (fun k => [s, q, (zcn (zt s) k : Nat), 0 + (k : Int)]) (fun k x => x = τ ∧ ∀ i : Nat, i < k → zt s i = true → (zcn (zt s) i : Int) ≠ q)
    (fun t e x => x = τ ∧ ((t = 1 ∧ ∃ i : Nat, i < 30 ∧ e = [(i : Int)] ∧ zt s i = true ∧ (zcn (zt s) i : Int) = q) ∨ (t = 0 ∧ ∀ i : Nat, i < 30 → zt s i = true → (zcn (zt s) i : Int) ≠ q))) ⟨rfl, fun i h => by omega⟩ (fun k => rfl) (by decide) (by decide)
    (fun k x hk hx => zc_lt (i := 3) (x := 0 + (k : Int)) rfl (show xC 30 _ x = some (30, x) from rfl) (by omega))
    (fun k x hk hx => by
      obtain ⟨rfl, hx⟩ := hx
      have le := zcn_le (zt s) k
      have body := w_mbBody (τ := x) (q := q) (a := (zcn (zt s) k : Nat)) (zbit (c := k) (by omega) s) (w32_id ⟨by omega, by omega⟩)
      rw [z0k, z0k, body]
      by_cases p : zt s k = true
      · rw [if_pos p]
        by_cases g : ((zcn (zt s) k : Nat) : Int) = q
        · rw [if_pos g]
          exact Or.inl ⟨_, _, rfl, rfl, Or.inl ⟨rfl, k, hk, rfl, p, g⟩⟩
        · rw [if_neg g]
          refine Or.inr ⟨_, _, _, rfl, Or.inl rfl, rfl, ?_, rfl, fun i hi h => ?_⟩
          · have e : ((zcn (zt s) (k + 1) : Nat) : Int) = ((zcn (zt s) k : Nat) : Int) + 1 := by
              rw [zcn_S, if_pos p]
              omega
            rw [e]
            rfl
          · by_cases z : i = k
            · rw [z]; exact g
            · exact hx i (by omega) h
      · rw [if_neg p]
        refine Or.inr ⟨_, _, _, rfl, Or.inr rfl, rfl, ?_, rfl, fun i hi h => ?_⟩
        · have e : zcn (zt s) (k + 1) = zcn (zt s) k := by
            rw [zcn_S, if_neg p]
            omega
          rw [e]
          rfl
        · by_cases z : i = k
          · rw [z] at h
            exact absurd h p
          · exact hx i (by omega) h)
    (fun x hx => ⟨hx.1, Or.inr ⟨rfl, hx.2⟩⟩)
  obtain ⟨t, e, x, hl, rfl, hq⟩ := hl
  have hl2 : sW lc_X8_memberOf_1 lf_X8_memberOf_1 ls_X8_memberOf_1 [s, q, 0, 0] x = some (t, e, x) := hl
  rcases hq with ⟨rfl, i, i1, rfl, i2, i3⟩ | ⟨rfl, h⟩
  · refine ⟨i, ?_, Or.inl ⟨i, i1, rfl, i2, i3⟩⟩
    simp [e_X8_memberOf, d_X8_memberOf, xC_e, xL_e, xU_e, xB_e, xD_e, xF_e, xG_e, xA_e, xE_e, xH_e, xI_e, xZ_e, xK_e, aN_e, aC_e, cR_e, cV_e, cA_e, cO_e, cN_e, bs_e, bn_e, zg_0, zg_S, sS_e, sX_e, sF_e, sG_e, sA_e, sE_e, sEo_e, sK_e, sQ_e, sI_e, sR_e, sV_e, sB_e, sC_e, sD_e, sN_e, sP_e, sY_e, st_0, st_S, zc_0, zc_S, hl2]
  · refine ⟨-9, ?_, Or.inr ⟨rfl, h⟩⟩
    simp [e_X8_memberOf, d_X8_memberOf, xC_e, xL_e, xU_e, xB_e, xD_e, xF_e, xG_e, xA_e, xE_e, xH_e, xI_e, xZ_e, xK_e, aN_e, aC_e, cR_e, cV_e, cA_e, cO_e, cN_e, bs_e, bn_e, zg_0, zg_S, sS_e, sX_e, sF_e, sG_e, sA_e, sE_e, sEo_e, sK_e, sQ_e, sI_e, sR_e, sV_e, sB_e, sC_e, sD_e, sN_e, sP_e, sY_e, st_0, st_S, zc_0, zc_S, hl2]
/-! keep: the fewest -/
theorem w_flBody {υ : zHp} {b c us k r : Int} (h : m_X7_firstSet [19, 0, k, 0] υ = some (r, υ)) : lf_X7_fewestToKeep_2 [19, b, c, us, k, 0] υ = if r = -9 then some (0, [19, b, c, us, k, 0], υ) else some (1, [r], υ) := by
  by_cases p : r = -9 <;> simp [lf_X7_fewestToKeep_2, xC_e, xL_e, xU_e, xB_e, xD_e, xF_e, xG_e, xA_e, xE_e, xH_e, xI_e, xZ_e, xK_e, aN_e, aC_e, cR_e, cV_e, cA_e, cO_e, cN_e, bs_e, bn_e, zg_0, zg_S, sS_e, sX_e, sF_e, sG_e, sA_e, sE_e, sEo_e, sK_e, sQ_e, sI_e, sR_e, sV_e, sB_e, sC_e, sD_e, sN_e, sP_e, sY_e, st_0, st_S, zc_0, zc_S, r_eq, r_ne, r_lt, r_le, r_gt, r_ge, rb_ite, rb_0, rb_1, h, p]
theorem w_fl {υ : zHp} {b c us : Int} {R : Nat → Option Int} (H : ∀ n : Nat, n ≤ 3 → m_X7_firstSet [19, 0, (n : Int), 0] υ = some (zVal (R n), υ)) (R9 : ∀ (n : Nat) (r : Int), n ≤ 3 → R n = some r → r ≠ -9) : ∃ t e, sW lc_X7_fewestToKeep_2 lf_X7_fewestToKeep_2 ls_X7_fewestToKeep_2 [19, b, c, us, 0, 0] υ = some (t, e, υ) ∧ ((t = 1 ∧ ∃ (n : Nat) (r : Int), n ≤ 3 ∧ R n = some r ∧ (∀ j, j < n → R j = none) ∧ e = [r]) ∨ (t = 0 ∧ ∀ j, j ≤ 3 → R j = none)) := by
  have hl := zfor (c := lc_X7_fewestToKeep_2) (f := lf_X7_fewestToKeep_2) (i := 4) (lo := 0) (σ := υ) 4 (fun k => [19, b, c, us, 0 + (k : Int), 0]) (fun k x => x = υ ∧ ∀ j, j < k → R j = none)
    (fun t e x => x = υ ∧ ((t = 1 ∧ ∃ (n : Nat) (r : Int), n ≤ 3 ∧ R n = some r ∧ (∀ j, j < n → R j = none) ∧ e = [r]) ∨ (t = 0 ∧ ∀ j, j ≤ 3 → R j = none))) ⟨rfl, fun j h => by omega⟩ (fun k => rfl) (by decide) (by decide)
    (fun k x hk hx => zc_le (i := 4) (x := 0 + (k : Int)) rfl (show xC 3 _ x = some (3, x) from rfl) (by omega))
    (fun k x hk hx => by
      obtain ⟨rfl, hx⟩ := hx
      have h := H k (by omega)
      rw [z0k, z0k, w_flBody h]
      cases hR : R k with
      | some r =>
        have r9 := R9 k r (by omega) hR
        rw [if_neg (show ¬ zVal (some r) = -9 from r9)]
        exact Or.inl ⟨_, _, rfl, rfl, Or.inl ⟨rfl, k, r, by omega, hR, hx, rfl⟩⟩
      | none =>
        rw [if_pos (show zVal none = -9 from rfl)]
        refine Or.inr ⟨_, _, _, rfl, Or.inl rfl, rfl, rfl, rfl, fun j hj => ?_⟩
        by_cases z : j = k
        · rw [z]; exact hR
        · exact hx j (by omega))
    (fun x hx => ⟨hx.1, Or.inr ⟨rfl, fun j hj => hx.2 j (by omega)⟩⟩)
  obtain ⟨t, e, x, hl, rfl, hq⟩ := hl
  exact ⟨t, e, hl, hq⟩
