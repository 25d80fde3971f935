/-! turns: the class -/
def zHd (F : Int) (W : Int → Int) (G : Int → Int → Int) (b : Nat) (c : Nat) : Bool := decide (F ≤ zLd W G c b)
def zCh2 (F : Int) (W : Int → Int) (G : Int → Int → Int) (C : Nat) (a b : Nat) : Bool := !(zAll (fun c => !(zHd F W G a c && zHd F W G b c)) C)
theorem w_hiBody {υ : zHp} {b s k x F : Int} (h1 : m_X0_loudness [10, b, k] υ = some (x, υ)) (hF : υ 10 5 = F) : lf_X0_heardIn_1 [10, b, s, k] υ = some (0, [10, b, if F ≤ x then zOr s (zShl 1 k) else s, k], υ) := by
  by_cases p : F ≤ x <;> simp [lf_X0_heardIn_1, xC_e, xL_e, xU_e, xB_e, xD_e, xF_e, xG_e, xA_e, xE_e, xH_e, xI_e, xZ_e, xK_e, aN_e, aC_e, cR_e, cV_e, cA_e, cO_e, cN_e, bs_e, bn_e, zg_0, zg_S, sS_e, sX_e, sF_e, sG_e, sA_e, sE_e, sEo_e, sK_e, sQ_e, sI_e, sR_e, sV_e, sB_e, sC_e, sD_e, sN_e, sP_e, sY_e, st_0, st_S, zc_0, zc_S, r_eq, r_ne, r_lt, r_le, r_gt, r_ge, rb_ite, rb_0, rb_1, h1, hF, p]
theorem w_hiEval {υ : zHp} {b s k : Int} (hl : sW lc_X0_heardIn_1 lf_X0_heardIn_1 ls_X0_heardIn_1 [10, b, 0, 0] υ = some (0, [10, b, s, k], υ)) : m_X0_heardIn [10, b] υ = some (s, υ) := by
  simp [e_X0_heardIn, d_X0_heardIn, xC_e, xL_e, xU_e, xB_e, xD_e, xF_e, xG_e, xA_e, xE_e, xH_e, xI_e, xZ_e, xK_e, aN_e, aC_e, cR_e, cV_e, cA_e, cO_e, cN_e, bs_e, bn_e, zg_0, zg_S, sS_e, sX_e, sF_e, sG_e, sA_e, sE_e, sEo_e, sK_e, sQ_e, sI_e, sR_e, sV_e, sB_e, sC_e, sD_e, sN_e, sP_e, sY_e, st_0, st_S, zc_0, zc_S, hl]
theorem w_hi {σ : zHp} {n C : Nat} {F : Int} {W : Int → Int} {G : Int → Int → Int} (hC : zCp σ n C F W G) (hQ : zCq n C F G) (hW : zWt n W) {b : Nat} (hb : b < n) : m_X0_heardIn [10, (b : Int)] σ = some (zSt2 (zHd F W G b) C, σ) := by
  have c30 := hQ.2.1
  refine w_hiEval (k := 0 + (C : Int)) (zforP (c := lc_X0_heardIn_1) (f := lf_X0_heardIn_1) (i := 3) (lo := 0) C (fun k => [10, (b : Int), zSt2 (zHd F W G b) k, 0 + (k : Int)]) (fun k => rfl) (by decide) (by omega)
    (fun k hk => zc_lt (i := 3) (x := 0 + (k : Int)) rfl (zx_G (N := C) hC.2.1) (by omega)) (fun k hk => ?_))
  have body := w_hiBody (s := zSt2 (zHd F W G b) k) (w_ld hC hQ hW (b := (b : Int)) (c := (k : Int)) (by omega) (by omega)) hC.2.2.1
  rw [z0k, z0k]
  rw [zSt2_S (f := zHd F W G b) rfl] at body
  exact ⟨_, _, body, Or.inl rfl, rfl, rfl⟩
theorem zAnd_h (F : Int) (W : Int → Int) (G : Int → Int → Int) {C : Nat} (hC : C ≤ 31) (a b : Nat) : zAnd (zSt2 (zHd F W G a) C) (zSt2 (zHd F W G b) C) ≠ 0 ↔ zCh2 F W G C a b = true := by
  unfold zCh2
  rw [Bool.not_eq_true']
  constructor
  · intro h
    cases hz : zAll (fun c => !(zHd F W G a c && zHd F W G b c)) C with
    | false => rfl
    | true =>
      exfalso
      refine h (zt_ext (r32_and _ _) r32_0 (fun i hi => ?_))
      rw [zt_and, zt_St2 _ C (by omega), zt_St2 _ C (by omega), zbt0]
      by_cases q : i < C
      · have key : ∀ m : Nat, m ≤ C → zAll (fun c => !(zHd F W G a c && zHd F W G b c)) m = true → ∀ i, i < m → (!(zHd F W G a i && zHd F W G b i)) = true := by
          intro m
          induction m with
          | zero => intro _ _ i hi; omega
          | succ m ih =>
            intro hm h i hi
            have h2 : (zAll (fun c => !(zHd F W G a c && zHd F W G b c)) m && !(zHd F W G a m && zHd F W G b m)) = true := h
            rw [Bool.and_eq_true] at h2
            by_cases z : i = m
            · rw [z]; exact h2.2
            · exact ih (by omega) h2.1 i (by omega)
        have := key C (Nat.le_refl _) hz i q
        rw [decide_eq_true q, Bool.true_and, Bool.true_and]
        rw [Bool.not_eq_true'] at this
        exact this
      · rw [decide_eq_false q, Bool.false_and, Bool.false_and]
  · intro h e
    have : zAll (fun c => !(zHd F W G a c && zHd F W G b c)) C = true := zAll_t C (fun i hi => by
      have t : zt (zAnd (zSt2 (zHd F W G a) C) (zSt2 (zHd F W G b) C)) i = false := by rw [e, zbt0]
      rw [zt_and, zt_St2 _ C (by omega), zt_St2 _ C (by omega), decide_eq_true hi, Bool.true_and, Bool.true_and] at t
      rw [t]
      rfl)
    rw [this] at h
    cases h
theorem w_ciBody {υ : zHp} {b t a u x y z : Int} (a6 : 0 ≤ a ∧ a < 6) (b6 : 0 ≤ b ∧ b < 6) (h1 : υ 24 a = u) (h2 : υ 23 a = x) (h3 : υ 23 b = y) (h4 : zAnd x y = z) : lf_X5_clashesIn_1 [22, b, t, a] υ = if u = t ∧ z ≠ 0 then some (1, [1], υ) else some (0, [22, b, t, a], υ) := by
  by_cases p : u = t
  · subst p
    by_cases q : z = 0 <;> simp [lf_X5_clashesIn_1, xC_e, xL_e, xU_e, xB_e, xD_e, xF_e, xG_e, xA_e, xE_e, xH_e, xI_e, xZ_e, xK_e, aN_e, aC_e, cR_e, cV_e, cA_e, cO_e, cN_e, bs_e, bn_e, zg_0, zg_S, sS_e, sX_e, sF_e, sG_e, sA_e, sE_e, sEo_e, sK_e, sQ_e, sI_e, sR_e, sV_e, sB_e, sC_e, sD_e, sN_e, sP_e, sY_e, st_0, st_S, zc_0, zc_S, r_eq, r_ne, r_lt, r_le, r_gt, r_ge, rb_ite, rb_0, rb_1, a6, b6, h1, h2, h3, h4, q]
  · simp [lf_X5_clashesIn_1, xC_e, xL_e, xU_e, xB_e, xD_e, xF_e, xG_e, xA_e, xE_e, xH_e, xI_e, xZ_e, xK_e, aN_e, aC_e, cR_e, cV_e, cA_e, cO_e, cN_e, bs_e, bn_e, zg_0, zg_S, sS_e, sX_e, sF_e, sG_e, sA_e, sE_e, sEo_e, sK_e, sQ_e, sI_e, sR_e, sV_e, sB_e, sC_e, sD_e, sN_e, sP_e, sY_e, st_0, st_S, zc_0, zc_S, r_eq, r_ne, r_lt, r_le, r_gt, r_ge, rb_ite, rb_0, rb_1, a6, b6, h1, p]
theorem w_ciEval {υ : zHp} {b t x : Int} {tt : Nat} {e : List Int} (hl : sW lc_X5_clashesIn_1 lf_X5_clashesIn_1 ls_X5_clashesIn_1 [22, b, t, 0] υ = some (tt, e, υ)) (hq : (tt = 1 ∧ e = [1] ∧ x = 1) ∨ (tt = 0 ∧ x = 0)) : m_X5_clashesIn [22, b, t] υ = some (x, υ) := by
  rcases hq with ⟨rfl, rfl, rfl⟩ | ⟨rfl, rfl⟩
  · simp [e_X5_clashesIn, d_X5_clashesIn, xC_e, xL_e, xU_e, xB_e, xD_e, xF_e, xG_e, xA_e, xE_e, xH_e, xI_e, xZ_e, xK_e, aN_e, aC_e, cR_e, cV_e, cA_e, cO_e, cN_e, bs_e, bn_e, zg_0, zg_S, sS_e, sX_e, sF_e, sG_e, sA_e, sE_e, sEo_e, sK_e, sQ_e, sI_e, sR_e, sV_e, sB_e, sC_e, sD_e, sN_e, sP_e, sY_e, st_0, st_S, zc_0, zc_S, hl]
  · simp [e_X5_clashesIn, d_X5_clashesIn, xC_e, xL_e, xU_e, xB_e, xD_e, xF_e, xG_e, xA_e, xE_e, xH_e, xI_e, xZ_e, xK_e, aN_e, aC_e, cR_e, cV_e, cA_e, cO_e, cN_e, bs_e, bn_e, zg_0, zg_S, sS_e, sX_e, sF_e, sG_e, sA_e, sE_e, sEo_e, sK_e, sQ_e, sI_e, sR_e, sV_e, sB_e, sC_e, sD_e, sN_e, sP_e, sY_e, st_0, st_S, zc_0, zc_S, hl]
/-- bells' sets of hearing lie ready -/
def zH23 (σ : zHp) (cnt C : Nat) (F : Int) (W : Int → Int) (G : Int → Int → Int) : Prop := ∀ b : Nat, b < cnt → σ 23 b = zSt2 (zHd F W G b) C
theorem w_ci {σ : zHp} {cnt C : Nat} {F : Int} {W : Int → Int} {G : Int → Int → Int} (hn : cnt ≤ 6) (hC : C ≤ 30) (h23 : zH23 σ cnt C F W G) {T : Int → Int} {b : Nat} (hb : b < cnt) (hT : ∀ a : Nat, a < b → σ 24 a = T a) (t : Int) : m_X5_clashesIn [22, (b : Int), t] σ = some (if (!zMr (zCh2 F W G C) T b t) = true then 1 else 0, σ) := by
  have hl := zfor (c := lc_X5_clashesIn_1) (f := lf_X5_clashesIn_1) (i := 3) (lo := 0) b (fun k => [22, (b : Int), t, 0 + (k : Int)]) (fun k τ => τ = σ ∧ ∀ a : Nat, a < k → (!(decide (T a = t) && zCh2 F W G C a b)) = true)
    (fun tt e τ => τ = σ ∧ ((tt = 1 ∧ e = [1] ∧ zMr (zCh2 F W G C) T b t = false) ∨ (tt = 0 ∧ zMr (zCh2 F W G C) T b t = true))) (σ := σ) ⟨rfl, fun a ha => by omega⟩ (fun k => rfl) (by decide) (by omega)
    (fun k τ hk h => zc_lt (i := 3) (x := 0 + (k : Int)) (N := (b : Int)) rfl (xL_e _ _ _) (by omega))
    (fun k τ hk h => by
      obtain ⟨rfl, h2⟩ := h
      have body := w_ciBody (υ := τ) (b := (b : Int)) (t := t) (a := (k : Int)) (by omega) (by omega) (hT k hk) (h23 k (by omega)) (h23 b hb) rfl
      have e := zAnd_h F W G (C := C) (by omega) k b
      rw [z0k, z0k, body]
      by_cases p : T k = t ∧ zAnd (zSt2 (zHd F W G k) C) (zSt2 (zHd F W G b) C) ≠ 0
      · rw [if_pos p]
        exact Or.inl ⟨_, _, rfl, rfl, Or.inl ⟨rfl, rfl, zAll_f (k := k) (by rw [decide_eq_true p.1, e.mp p.2]; rfl) b hk⟩⟩
      · rw [if_neg p]
        refine Or.inr ⟨_, _, _, rfl, Or.inl rfl, rfl, rfl, rfl, fun a ha => ?_⟩
        by_cases z : a = k
        · subst z
          by_cases q : T a = t
          · have : zCh2 F W G C a b = false := Bool.eq_false_iff.mpr (fun y => p ⟨q, e.mpr y⟩)
            rw [this, Bool.and_false]
            rfl
          · rw [decide_eq_false q]
            rfl
        · exact h2 a (by omega))
    (fun τ h => ⟨h.1, Or.inr ⟨rfl, zAll_t b h.2⟩⟩)
  obtain ⟨tt, e, τ, hl, rfl, hq⟩ := hl
  refine w_ciEval hl ?_
  rcases hq with ⟨q1, q2, q3⟩ | ⟨q1, q2⟩
  · exact Or.inl ⟨q1, q2, by rw [q3]; rfl⟩
  · exact Or.inr ⟨q1, by rw [q2]; rfl⟩
theorem w_nwC {υ : zHp} {b u n t : Int} {x : Bool} (h : m_X5_clashesIn [22, b, t] υ = some (if x = true then 1 else 0, υ)) : lc_X5_nextWithoutClash_1 [22, b, u, n, t] υ = some (decide (t < n ∧ x = true), υ) := by
  cases x <;> simp at h <;> by_cases p : t < n <;> simp [lc_X5_nextWithoutClash_1, xC_e, xL_e, xU_e, xB_e, xD_e, xF_e, xG_e, xA_e, xE_e, xH_e, xI_e, xZ_e, xK_e, aN_e, aC_e, cR_e, cV_e, cA_e, cO_e, cN_e, bs_e, bn_e, zg_0, zg_S, sS_e, sX_e, sF_e, sG_e, sA_e, sE_e, sEo_e, sK_e, sQ_e, sI_e, sR_e, sV_e, sB_e, sC_e, sD_e, sN_e, sP_e, sY_e, st_0, st_S, zc_0, zc_S, r_eq, r_ne, r_lt, r_le, r_gt, r_ge, rb_ite, rb_0, rb_1, h, p, rb_0, rb_1]
theorem w_nwBody {υ : zHp} {b u n t t2 : Int} (h : o_iadd t 1 = t2) : lf_X5_nextWithoutClash_1 [22, b, u, n, t] υ = some (0, [22, b, u, n, t2], υ) := by
  simp only [lf_X5_nextWithoutClash_1, xC_e, xL_e, xU_e, xB_e, xD_e, xF_e, xG_e, xA_e, xE_e, xH_e, xI_e, xZ_e, xK_e, aN_e, aC_e, cR_e, cV_e, cA_e, cO_e, cN_e, bs_e, bn_e, zg_0, zg_S, sS_e, sX_e, sF_e, sG_e, sA_e, sE_e, sEo_e, sK_e, sQ_e, sI_e, sR_e, sV_e, sB_e, sC_e, sD_e, sN_e, sP_e, sY_e, st_0, st_S, zc_0, zc_S, h]
theorem w_nwEval {υ : zHp} {b u n t : Int} (hl : sW lc_X5_nextWithoutClash_1 lf_X5_nextWithoutClash_1 ls_X5_nextWithoutClash_1 [22, b, u, n, u] υ = some (0, [22, b, u, n, t], υ)) : m_X5_nextWithoutClash [22, b, u, n] υ = some (t, υ) := by
  simp [e_X5_nextWithoutClash, d_X5_nextWithoutClash, xC_e, xL_e, xU_e, xB_e, xD_e, xF_e, xG_e, xA_e, xE_e, xH_e, xI_e, xZ_e, xK_e, aN_e, aC_e, cR_e, cV_e, cA_e, cO_e, cN_e, bs_e, bn_e, zg_0, zg_S, sS_e, sX_e, sF_e, sG_e, sA_e, sE_e, sEo_e, sK_e, sQ_e, sI_e, sR_e, sV_e, sB_e, sC_e, sD_e, sN_e, sP_e, sY_e, st_0, st_S, zc_0, zc_S, hl]
theorem w_nw {σ : zHp} {cnt C : Nat} {F : Int} {W : Int → Int} {G : Int → Int → Int} (hn : cnt ≤ 6) (hC : C ≤ 30) (h23 : zH23 σ cnt C F W G) {T : Int → Int} {b : Nat} (hb : b < cnt) (hT : ∀ a : Nat, a < b → σ 24 a = T a) {u : Int} {n : Nat} (hu : 0 ≤ u ∧ u ≤ 7) (n6 : n ≤ 6) : m_X5_nextWithoutClash [22, (b : Int), u, (n : Int)] σ = some (zNx (fun t => !zMr (zCh2 F W G C) T b t) n 8 u, σ) := by
  have hl := zl_m (c := lc_X5_nextWithoutClash_1) (f := lf_X5_nextWithoutClash_1) (s := ls_X5_nextWithoutClash_1) (fun k e τ => τ = σ ∧ k ≤ 8 ∧ e = [22, (b : Int), u, (n : Int), u + (k : Int)] ∧ zNx (fun t => !zMr (zCh2 F W G C) T b t) n 8 u = zNx (fun t => !zMr (zCh2 F W G C) T b t) n (8 - k) (u + (k : Int)))
    (fun t e τ => τ = σ ∧ t = 0 ∧ e = [22, (b : Int), u, (n : Int), zNx (fun t => !zMr (zCh2 F W G C) T b t) n 8 u]) 8 (e := [22, (b : Int), u, (n : Int), u]) (σ := σ) ⟨rfl, by decide, by simp, by simp⟩
    (by
      rintro k e τ ⟨rfl, hk, rfl, h2⟩
      have c := w_nwC (u := u) (n := (n : Int)) (w_ci hn hC h23 hb hT (u + (k : Int)))
      by_cases g : u + (k : Int) < n ∧ (!zMr (zCh2 F W G C) T b (u + (k : Int))) = true
      · have k7 : k < 7 := by omega
        refine Or.inr ⟨by omega, τ, by rw [c, decide_eq_true g], ?_⟩
        refine ⟨0, _, τ, w_nwBody (t2 := u + ((k + 1 : Nat) : Int)) ?_, Or.inr ⟨Or.inl rfl, _, τ, rfl, rfl, by omega, rfl, ?_⟩⟩
        · have : o_iadd (u + (k : Int)) 1 = u + (k : Int) + 1 := w32_id ⟨by omega, by omega⟩
          omega
        · rw [h2, show 8 - k = (8 - (k + 1)) + 1 by omega, zNx_S, if_pos g, show u + (k : Int) + 1 = u + ((k + 1 : Nat) : Int) by omega]
      · refine Or.inl ⟨τ, by rw [c, decide_eq_false g], rfl, rfl, ?_⟩
        have : zNx (fun t => !zMr (zCh2 F W G C) T b t) n (8 - k) (u + (k : Int)) = u + (k : Int) := by
          rcases (show 8 - k = 0 ∨ ∃ j, 8 - k = j + 1 from by
            rcases Nat.eq_zero_or_pos (8 - k) with z | z
            · exact Or.inl z
            · exact Or.inr ⟨8 - k - 1, by omega⟩) with z | ⟨j, z⟩
          · rw [z]; rfl
          · rw [z, zNx_S, if_neg g]
        rw [h2, this])
    (zf_lt (by decide))
  obtain ⟨t, e, τ, hl, rfl, rfl, rfl⟩ := hl
  exact w_nwEval hl
theorem w_ffC {υ : zHp} {n b k cnt : Int} (h : υ 6 0 = cnt) : lc_X5_findFirstRow_1 [22, n, b, k] υ = some (decide (k < 1000000 ∧ 0 ≤ b ∧ b < cnt), υ) := by
  by_cases p1 : k < 1000000
  · by_cases p2 : 0 ≤ b
    · by_cases p3 : b < cnt <;> simp [lc_X5_findFirstRow_1, xC_e, xL_e, xU_e, xB_e, xD_e, xF_e, xG_e, xA_e, xE_e, xH_e, xI_e, xZ_e, xK_e, aN_e, aC_e, cR_e, cV_e, cA_e, cO_e, cN_e, bs_e, bn_e, zg_0, zg_S, sS_e, sX_e, sF_e, sG_e, sA_e, sE_e, sEo_e, sK_e, sQ_e, sI_e, sR_e, sV_e, sB_e, sC_e, sD_e, sN_e, sP_e, sY_e, st_0, st_S, zc_0, zc_S, r_eq, r_ne, r_lt, r_le, r_gt, r_ge, rb_ite, rb_0, rb_1, p1, p2, p3, h]
    · simp [lc_X5_findFirstRow_1, xC_e, xL_e, xU_e, xB_e, xD_e, xF_e, xG_e, xA_e, xE_e, xH_e, xI_e, xZ_e, xK_e, aN_e, aC_e, cR_e, cV_e, cA_e, cO_e, cN_e, bs_e, bn_e, zg_0, zg_S, sS_e, sX_e, sF_e, sG_e, sA_e, sE_e, sEo_e, sK_e, sQ_e, sI_e, sR_e, sV_e, sB_e, sC_e, sD_e, sN_e, sP_e, sY_e, st_0, st_S, zc_0, zc_S, r_eq, r_ne, r_lt, r_le, r_gt, r_ge, rb_ite, rb_0, rb_1, p1, p2]
  · simp [lc_X5_findFirstRow_1, xC_e, xL_e, xU_e, xB_e, xD_e, xF_e, xG_e, xA_e, xE_e, xH_e, xI_e, xZ_e, xK_e, aN_e, aC_e, cR_e, cV_e, cA_e, cO_e, cN_e, bs_e, bn_e, zg_0, zg_S, sS_e, sX_e, sF_e, sG_e, sA_e, sE_e, sEo_e, sK_e, sQ_e, sI_e, sR_e, sV_e, sB_e, sC_e, sD_e, sN_e, sP_e, sY_e, st_0, st_S, zc_0, zc_S, r_eq, r_ne, r_lt, r_le, r_gt, r_ge, rb_ite, rb_0, rb_1, p1]
theorem w_ffBody {υ : zHp} {n b k cnt tb u t : Int} (b6 : 0 ≤ b ∧ b < 6) (hb : υ 24 b = tb) (hu : o_iadd tb 1 = u) (h : m_X5_nextWithoutClash [22, b, u, n] υ = some (t, υ)) (h6 : υ 6 0 = cnt) (c6 : cnt ≤ 6) : lf_X5_findFirstRow_1 [22, n, b, k] υ = some (0, [22, n, if t ≥ n then b - 1 else b + 1, k], if t ≥ n then zput υ 24 b t else if b + 1 < cnt then zput (zput υ 24 b t) 24 (b + 1) (-1) else zput υ 24 b t) := by
  have e1 : o_iadd b (-1) = b - 1 := by
    have : o_iadd b (-1) = b + -1 := w32_id ⟨by omega, by omega⟩
    omega
  have e2 : o_iadd b 1 = b + 1 := w32_id ⟨by omega, by omega⟩
  have e3 : zput υ 24 b t 24 b = t := zput_self _ _ _ _
  have e4 : zput υ 24 b t 6 0 = cnt := by rw [zput_o (by decide)]; exact h6
  by_cases p : n ≤ t
  · simp [lf_X5_findFirstRow_1, xC_e, xL_e, xU_e, xB_e, xD_e, xF_e, xG_e, xA_e, xE_e, xH_e, xI_e, xZ_e, xK_e, aN_e, aC_e, cR_e, cV_e, cA_e, cO_e, cN_e, bs_e, bn_e, zg_0, zg_S, sS_e, sX_e, sF_e, sG_e, sA_e, sE_e, sEo_e, sK_e, sQ_e, sI_e, sR_e, sV_e, sB_e, sC_e, sD_e, sN_e, sP_e, sY_e, st_0, st_S, zc_0, zc_S, r_eq, r_ne, r_lt, r_le, r_gt, r_ge, rb_ite, rb_0, rb_1, b6, hb, hu, h, e3, p, e1]
  · by_cases q : b + 1 < cnt
    · have b7 : 0 ≤ b + 1 ∧ b + 1 < 6 := by omega
      simp [lf_X5_findFirstRow_1, xC_e, xL_e, xU_e, xB_e, xD_e, xF_e, xG_e, xA_e, xE_e, xH_e, xI_e, xZ_e, xK_e, aN_e, aC_e, cR_e, cV_e, cA_e, cO_e, cN_e, bs_e, bn_e, zg_0, zg_S, sS_e, sX_e, sF_e, sG_e, sA_e, sE_e, sEo_e, sK_e, sQ_e, sI_e, sR_e, sV_e, sB_e, sC_e, sD_e, sN_e, sP_e, sY_e, st_0, st_S, zc_0, zc_S, r_eq, r_ne, r_lt, r_le, r_gt, r_ge, rb_ite, rb_0, rb_1, b6, hb, hu, h, e3, p, e2, e4, q, b7]
    · simp [lf_X5_findFirstRow_1, xC_e, xL_e, xU_e, xB_e, xD_e, xF_e, xG_e, xA_e, xE_e, xH_e, xI_e, xZ_e, xK_e, aN_e, aC_e, cR_e, cV_e, cA_e, cO_e, cN_e, bs_e, bn_e, zg_0, zg_S, sS_e, sX_e, sF_e, sG_e, sA_e, sE_e, sEo_e, sK_e, sQ_e, sI_e, sR_e, sV_e, sB_e, sC_e, sD_e, sN_e, sP_e, sY_e, st_0, st_S, zc_0, zc_S, r_eq, r_ne, r_lt, r_le, r_gt, r_ge, rb_ite, rb_0, rb_1, b6, hb, hu, h, e3, p, e2, e4, q]
theorem w_ffStep {υ : zHp} {n b k k2 : Int} (h : o_iadd k 1 = k2) : ls_X5_findFirstRow_1 [22, n, b, k] υ = some (0, [22, n, b, k2], υ) := by
  simp only [ls_X5_findFirstRow_1, xC_e, xL_e, xU_e, xB_e, xD_e, xF_e, xG_e, xA_e, xE_e, xH_e, xI_e, xZ_e, xK_e, aN_e, aC_e, cR_e, cV_e, cA_e, cO_e, cN_e, bs_e, bn_e, zg_0, zg_S, sS_e, sX_e, sF_e, sG_e, sA_e, sE_e, sEo_e, sK_e, sQ_e, sI_e, sR_e, sV_e, sB_e, sC_e, sD_e, sN_e, sP_e, sY_e, st_0, st_S, zc_0, zc_S, h]
theorem w_ffEval {υ τ : zHp} {n b k cnt : Int} (hl : sW lc_X5_findFirstRow_1 lf_X5_findFirstRow_1 ls_X5_findFirstRow_1 [22, n, 0, 0] (zput υ 24 0 (-1)) = some (0, [22, n, b, k], τ)) (h6 : τ 6 0 = cnt) : m_X5_findFirstRow [22, n] υ = some (if b = cnt then 1 else 0, τ) := by
  by_cases p : b = cnt <;> simp [e_X5_findFirstRow, d_X5_findFirstRow, xC_e, xL_e, xU_e, xB_e, xD_e, xF_e, xG_e, xA_e, xE_e, xH_e, xI_e, xZ_e, xK_e, aN_e, aC_e, cR_e, cV_e, cA_e, cO_e, cN_e, bs_e, bn_e, zg_0, zg_S, sS_e, sX_e, sF_e, sG_e, sA_e, sE_e, sEo_e, sK_e, sQ_e, sI_e, sR_e, sV_e, sB_e, sC_e, sD_e, sN_e, sP_e, sY_e, st_0, st_S, zc_0, zc_S, r_eq, r_ne, r_lt, r_le, r_gt, r_ge, rb_ite, rb_0, rb_1, hl, h6, p]
theorem w_ff {σ : zHp} {cnt C : Nat} {F : Int} {W : Int → Int} {G : Int → Int → Int} (hn : cnt ≤ 6) (hC : C ≤ 30) (h6 : σ 6 0 = cnt) (h23 : zH23 σ cnt C F W G) {n : Nat} (n6 : n ≤ 6) : ∃ τ, m_X5_findFirstRow [22, (n : Int)] σ = some (if (zEd (zCh2 F W G C) cnt n).1 = cnt then 1 else 0, τ) ∧ (∀ a b : Int, a ≠ 24 → τ a b = σ a b) ∧ ((zEd (zCh2 F W G C) cnt n).1 = cnt → ∀ a : Nat, a < cnt → τ 24 a = (zEd (zCh2 F W G C) cnt n).2 a) := by
  generalize hcl : zCh2 F W G C = cl
  have hl := zl_m (c := lc_X5_findFirstRow_1) (f := lf_X5_findFirstRow_1) (s := ls_X5_findFirstRow_1) (fun k e x => k ≤ 262144 ∧ e = [22, (n : Int), (zIt cl cnt n k).1, (k : Int)] ∧ (∀ a b : Int, a ≠ 24 → x a b = σ a b) ∧ ∀ a : Nat, (a : Int) ≤ (zIt cl cnt n k).1 → a < cnt → x 24 a = (zIt cl cnt n k).2 a)
    (fun t e x => t = 0 ∧ (∃ k : Int, e = [22, (n : Int), (zEd cl cnt n).1, k]) ∧ (∀ a b : Int, a ≠ 24 → x a b = σ a b) ∧ ∀ a : Nat, (a : Int) ≤ (zEd cl cnt n).1 → a < cnt → x 24 a = (zEd cl cnt n).2 a) 262144 (e := [22, (n : Int), 0, 0]) (σ := zput σ 24 0 (-1))
    ⟨by decide, rfl, fun a b h => zput_o h b, fun a ha _ => by
      have ha2 : (a : Int) ≤ 0 := ha
      have : a = 0 := by omega
      subst this
      exact zput_self _ _ _ _⟩
    (by
      rintro k e x ⟨hk, rfl, hx, hT⟩
      have c := w_ffC (υ := x) (n := (n : Int)) (b := (zIt cl cnt n k).1) (k := (k : Int)) (cnt := (cnt : Int)) (by rw [hx 6 0 (by decide)]; exact h6)
      by_cases g : 0 ≤ (zIt cl cnt n k).1 ∧ (zIt cl cnt n k).1 < cnt
      · have lt := zIt_lt hn n6 g
        have dig := (zIt_m hn n6 k g.1 g.2).1
        refine Or.inr ⟨lt, x, by rw [c, decide_eq_true ⟨by omega, g.1, g.2⟩], ?_⟩
        have S := zIt_S cl cnt n k
        unfold zStp at S
        rw [if_pos g] at S
        generalize zIt cl cnt n k = s at *
        generalize zIt cl cnt n (k + 1) = s2 at *
        obtain ⟨b, T⟩ := s
        dsimp only at *
        have b2 : ((b.toNat : Nat) : Int) = b := by omega
        have d0 := dig b.toNat (by omega)
        rw [b2] at d0
        have xb := hT b.toNat (by omega) (by omega)
        rw [b2] at xb
        have nw := w_nw (σ := x) (cnt := cnt) (F := F) (W := W) (G := G) hn hC (fun b hb => by rw [hx 23 b (by decide)]; exact h23 b hb) (T := T) (b := b.toNat) (by omega) (fun a ha => hT a (by omega) (by omega)) (u := T b + 1) (n := n) (by omega) n6
        rw [b2, hcl] at nw
        have body := w_ffBody (n := (n : Int)) (k := (k : Int)) (cnt := (cnt : Int)) (by omega) xb (w32_id (x := T b + 1) ⟨by omega, by omega⟩) nw (by rw [hx 6 0 (by decide)]; exact h6) (by omega)
        have inc : o_iadd (k : Int) 1 = ((k + 1 : Nat) : Int) := zinc (by omega)
        generalize zNx (fun t => !zMr cl T b.toNat t) n 8 (T b + 1) = t2 at *
        by_cases p : t2 ≥ (n : Int)
        · rw [if_pos p] at S
          rw [if_pos p, if_pos p] at body
          subst S
          refine ⟨0, _, _, body, Or.inr ⟨Or.inl rfl, _, _, w_ffStep inc, by omega, rfl, fun a i h => by rw [zput_o h]; exact hx a i h, fun a ha hac => ?_⟩⟩
          dsimp only at ha ⊢
          rw [zput_i (by omega), zWs_n (by omega)]
          exact hT a (by omega) hac
        · rw [if_neg p] at S
          rw [if_neg p, if_neg p] at body
          subst S
          refine ⟨0, _, _, body, Or.inr ⟨Or.inl rfl, _, _, w_ffStep inc, by omega, rfl, fun a i h => ?_, fun a ha hac => ?_⟩⟩
          · split
            · rw [zput_o h, zput_o h]; exact hx a i h
            · rw [zput_o h]; exact hx a i h
          · dsimp only at ha ⊢
            have key : zput x 24 b t2 24 a = zWs T b t2 a ∨ (a : Int) = b + 1 := by
              by_cases z : (a : Int) = b
              · rw [z, zput_self, zWs_b]; exact Or.inl rfl
              · by_cases z2 : (a : Int) = b + 1
                · exact Or.inr z2
                · rw [zput_i z, zWs_n z]
                  exact Or.inl (hT a (by omega) hac)
            by_cases q : b + 1 < cnt
            · rw [if_pos q, if_pos q]
              by_cases z : (a : Int) = b + 1
              · rw [z, zput_self, zWs_b]
              · rw [zput_i z, zWs_n z]
                exact key.resolve_right z
            · rw [if_neg q, if_neg q]
              exact key.resolve_right (by omega)
      · have e := zEd_e (k := k) hk g
        rw [e]
        exact Or.inl ⟨x, by rw [c, decide_eq_false (fun z => g z.2)], rfl, ⟨_, rfl⟩, hx, hT⟩)
    (zf_lt (by decide))
  obtain ⟨t, e, x, hl, rfl, ⟨k, rfl⟩, hx, hT⟩ := hl
  refine ⟨x, w_ffEval hl (by rw [hx 6 0 (by decide)]; exact h6), hx, fun h a ha => hT a (by omega) ha⟩
