/-! keep: the class's rows and sets -/
theorem zCp_p {τ : zHp} {n C : Nat} {F : Int} {W : Int → Int} {G : Int → Int → Int} (h : zCp τ n C F W G) {o i v : Int} (ho : o ≠ 6 ∧ o ≠ 1 ∧ o ≠ 10 ∧ o ≠ 9 ∧ o ≠ 12) : zCp (zput τ o i v) n C F W G := by
  obtain ⟨h1, h2, h3, h4, h5⟩ := h
  obtain ⟨o1, o2, o3, o4, o5⟩ := ho
  exact ⟨by rw [zput_o (Ne.symm o1), h1], by rw [zput_o (Ne.symm o2), h2], by rw [zput_o (Ne.symm o3), h3], fun b b0 b1 => by rw [zput_o (Ne.symm o4), h4 b b0 b1], fun b c b0 b1 c0 c1 => by rw [zput_o (Ne.symm o5), h5 b c b0 b1 c0 c1]⟩
def zUs (σ : zHp) (b c : Int) : Nat → Int
  | 0 => 0
  | k + 1 => zOr (zUs σ b c k) (if (k : Int) = b then 0 else zwy σ c k)
theorem zUs_t (σ : zHp) (b c : Int) (u : Nat) : ∀ n : Nat, zt (zUs σ b c n) u = false → ∀ x : Int, 0 ≤ x → x < n → x ≠ b → zt (zwy σ c x) u = false
  | 0, _, x, x0, x1, _ => by omega
  | n + 1, h, x, x0, x1, xb => by
    have h2 : zt (zOr (zUs σ b c n) (if (n : Int) = b then 0 else zwy σ c n)) u = false := h
    rw [zt_or, Bool.or_eq_false_iff] at h2
    by_cases z : x = (n : Int)
    · subst z
      have := h2.2
      rw [if_neg xb] at this
      exact this
    · exact zUs_t σ b c u n h2.1 x x0 (by omega) xb
theorem w_fkBody {υ : zHp} {b c s k g y f : Int} (k6 : 0 ≤ k ∧ k < 6) (h1 : m_X0_loudness [10, k, c] υ = some (g, υ)) (e8 : (zput υ 20 k g) 8 k = f) (h2 : m_X3_between [1, f, c] (zput υ 20 k g) = some (y, zput υ 20 k g)) (e21 : (zput (zput υ 20 k g) 21 k y) 21 k = y) : lf_X7_fewestToKeep_1 [19, b, c, s, k, 0] υ = some (0, [19, b, c, zOr s (if k = b then 0 else y), k, 0], zput (zput υ 20 k g) 21 k y) := by
  by_cases p : k = b
  · subst p
    simp [lf_X7_fewestToKeep_1, xC_e, xL_e, xU_e, xB_e, xD_e, xF_e, xG_e, xA_e, xE_e, xH_e, xI_e, xZ_e, xK_e, aN_e, aC_e, cR_e, cV_e, cA_e, cO_e, cN_e, bs_e, bn_e, zg_0, zg_S, sS_e, sX_e, sF_e, sG_e, sA_e, sE_e, sEo_e, sK_e, sQ_e, sI_e, sR_e, sV_e, sB_e, sC_e, sD_e, sN_e, sP_e, sY_e, st_0, st_S, zc_0, zc_S, r_eq, r_ne, r_lt, r_le, r_gt, r_ge, rb_ite, rb_0, rb_1, k6, h1, e8, h2, e21]
  · simp [lf_X7_fewestToKeep_1, xC_e, xL_e, xU_e, xB_e, xD_e, xF_e, xG_e, xA_e, xE_e, xH_e, xI_e, xZ_e, xK_e, aN_e, aC_e, cR_e, cV_e, cA_e, cO_e, cN_e, bs_e, bn_e, zg_0, zg_S, sS_e, sX_e, sF_e, sG_e, sA_e, sE_e, sEo_e, sK_e, sQ_e, sI_e, sR_e, sV_e, sB_e, sC_e, sD_e, sN_e, sP_e, sY_e, st_0, st_S, zc_0, zc_S, r_eq, r_ne, r_lt, r_le, r_gt, r_ge, rb_ite, rb_0, rb_1, k6, h1, e8, h2, e21, p]
theorem w_fk1 {σ τ : zHp} (hI : zInv σ) {w b c : Int} (hw : 0 ≤ w ∧ w ≤ 39) (hc : 0 ≤ c ∧ c < σ 1 2) (hs : zSame σ τ) (hC : zCp τ (zNb σ) (zNc σ) (zFF σ w) (σ 9) (zGG σ w)) (h5 : τ 19 5 = b) : ∃ υ, sW lc_X7_fewestToKeep_1 lf_X7_fewestToKeep_1 ls_X7_fewestToKeep_1 [19, b, c, 0, 0, 0] τ = some (0, [19, b, c, zUs σ b c (zNb σ), 0 + (zNb σ : Int), 0], υ) ∧ zSame σ υ ∧ zWd2 σ υ w b c := by
  obtain ⟨nb1, nb2⟩ := zNb_e hI
  obtain ⟨nc1, nc2⟩ := zNc_e hI
  have hl := zfor0 (c := lc_X7_fewestToKeep_1) (f := lf_X7_fewestToKeep_1) (i := 4) (lo := 0) (zNb σ) (fun k => [19, b, c, zUs σ b c k, 0 + (k : Int), 0]) (fun k υ => zSame σ υ ∧ zCp υ (zNb σ) (zNc σ) (zFF σ w) (σ 9) (zGG σ w) ∧ υ 19 5 = b ∧ ∀ x : Int, 0 ≤ x → x < k → υ 20 x = zLd (σ 9) (zGG σ w) c x ∧ υ 21 x = zwy σ c x) (σ := τ) ⟨hs, hC, h5, fun x x0 x1 => by omega⟩ (fun k => rfl) (by decide) (by omega)
    (fun k υ hk h => zc_lt (i := 4) (x := 0 + (k : Int)) rfl (zx_G (N := (zNb σ : Nat)) (by rw [h.2.1.1])) (by omega))
    (fun k υ hk h => by
      obtain ⟨a1, a2, a3, a4⟩ := h
      have hf := ((zI3 hI).2.2.2 k (by omega) (by omega)).2.1.2
      have ld := w_ld a2 (zCq_I hI hw) (zWt_I hI) (b := (k : Int)) (c := c) (by omega) (by omega)
      generalize hg : zLd (σ 9) (zGG σ w) c k = g at *
      have s1 : zSame σ (zput υ 20 k g) := a1.put rfl
      have e12 : (zput υ 20 k g) 1 2 = σ 1 2 := s1 1 2 rfl
      have e11 : (zput υ 20 k g) 1 1 = σ 1 1 := s1 1 1 rfl
      have bt := w_between (zIL_s hI.2.2.1 s1) (zIH_s hI.2.2.2.1 s1) (f := σ 8 k) (t := c) (by rw [e12]; exact hf) (by rw [e12]; exact hc)
      rw [zLen_eq e11, zWy_eq e11] at bt
      have body := w_fkBody (b := b) (s := zUs σ b c k) (k := (k : Int)) (y := zwy σ c k) (f := σ 8 k) (by omega) ld (s1 8 k rfl) bt (zput_self _ _ _ _)
      rw [z0k, z0k]
      refine ⟨_, _, _, body, Or.inl rfl, rfl, rfl, s1.put rfl, zCp_p (zCp_p a2 (by decide)) (by decide), ?_, fun x x0 x1 => ?_⟩
      · rw [zput_o (by decide), zput_o (by decide), a3]
      · by_cases z : x = (k : Int)
        · subst z
          rw [zput_o (by decide), zput_self, zput_self, hg]
          exact ⟨rfl, rfl⟩
        · rw [zput_o (by decide), zput_i z, zput_i z, zput_o (by decide)]
          exact a4 x x0 (by omega))
  obtain ⟨υ, h1, h2, h3, h4, h6⟩ := hl
  refine ⟨υ, h1, h2, h2 6 0 rfl, h2 1 2 rfl, h3.2.2.1, h4, h6⟩
def zCw (σ : zHp) : Nat → Int
  | 0 => 0
  | k + 1 => zOr (zCw σ k) (zShl 1 (σ 8 k))
theorem zCw_t {σ : zHp} {u : Nat} : ∀ n : Nat, (∀ x : Int, 0 ≤ x → x < n → 0 ≤ σ 8 x ∧ σ 8 x < 32) → zt (zCw σ n) u = decide (¬ zcn (fun b => decide (σ 8 b = u)) n = 0)
  | 0, _ => by
    show zt 0 u = _
    rw [zbt0]
    rfl
  | n + 1, h => by
    show zt (zOr (zCw σ n) (zShl 1 (σ 8 n))) u = _
    rw [zt_or, zt_bit_i (h n (by omega) (by omega)), zCw_t n (fun x x0 x1 => h x x0 (by omega)), zcn_S]
    by_cases p : σ 8 n = u
    · simp [p]
    · have p2 : ¬ (u : Int) = σ 8 n := fun z => p z.symm
      simp [p, p2]
theorem w_cwBody {υ : zHp} {s k : Int} (k6 : 0 ≤ k ∧ k < 6) : lf_X1_cellsWithBells_1 [6, s, k] υ = some (0, [6, zOr s (zShl 1 (υ 8 k)), k], υ) := by
  simp [lf_X1_cellsWithBells_1, xC_e, xL_e, xU_e, xB_e, xD_e, xF_e, xG_e, xA_e, xE_e, xH_e, xI_e, xZ_e, xK_e, aN_e, aC_e, cR_e, cV_e, cA_e, cO_e, cN_e, bs_e, bn_e, zg_0, zg_S, sS_e, sX_e, sF_e, sG_e, sA_e, sE_e, sEo_e, sK_e, sQ_e, sI_e, sR_e, sV_e, sB_e, sC_e, sD_e, sN_e, sP_e, sY_e, st_0, st_S, zc_0, zc_S, r_eq, r_ne, r_lt, r_le, r_gt, r_ge, rb_ite, rb_0, rb_1, k6]
theorem w_cw {υ : zHp} {n : Nat} (h : υ 6 0 = n) (n6 : n ≤ 6) : m_X1_cellsWithBells [6] υ = some (zCw υ n, υ) := by
  have hl := zforP (c := lc_X1_cellsWithBells_1) (f := lf_X1_cellsWithBells_1) (i := 2) (lo := 0) (σ := υ) n (fun k => [6, zCw υ k, 0 + (k : Int)]) (fun k => rfl) (by decide) (by omega)
    (fun k hk => zc_lt (i := 2) (x := 0 + (k : Int)) rfl (zx_G (N := (n : Int)) h) (by omega))
    (fun k hk => by
      rw [z0k, z0k]
      exact ⟨_, _, w_cwBody (by omega), Or.inl rfl, rfl, rfl⟩)
  have hl2 : sW lc_X1_cellsWithBells_1 lf_X1_cellsWithBells_1 ls_X1_cellsWithBells_1 [6, 0, 0] υ = some (0, [6, zCw υ n, 0 + (n : Int)], υ) := hl
  simp [e_X1_cellsWithBells, d_X1_cellsWithBells, xC_e, xL_e, xU_e, xB_e, xD_e, xF_e, xG_e, xA_e, xE_e, xH_e, xI_e, xZ_e, xK_e, aN_e, aC_e, cR_e, cV_e, cA_e, cO_e, cN_e, bs_e, bn_e, zg_0, zg_S, sS_e, sX_e, sF_e, sG_e, sA_e, sE_e, sEo_e, sK_e, sQ_e, sI_e, sR_e, sV_e, sB_e, sC_e, sD_e, sN_e, sP_e, sY_e, st_0, st_S, zc_0, zc_S, hl2]
theorem zt_m1 : ∀ i : Nat, i < 32 → zt (-1) i = true := by decide
/-! keep: sets as bits -/
theorem zFx_m {α β : Type} (h : α → β) (g : Nat → Option α) : ∀ j f : Nat, zFx (fun x => (g x).map h) j f = (zFx g j f).map h
  | 0, _ => rfl
  | j + 1, f => by
    rw [zFx_S, zFx_S]
    cases hg : g f with
    | some r => rfl
    | none => exact zFx_m h g j (f + 1)
def zRs (p : Nat → Bool) (K : Int → Int → Int → Bool) (C : Nat) : Nat → Option (Int × Int × Int)
  | 0 => zR0 K
  | 1 => zRa p K C
  | 2 => zRbb p K C
  | _ => zRc p K C
def zBb : Nat → Int × Int × Int → Int
  | 0, _ => 0
  | 1, r => zOr 0 (zShl 1 r.1)
  | 2, r => zOr (zOr 0 (zShl 1 r.1)) (zShl 1 r.2.1)
  | _, r => zOr (zOr (zOr 0 (zShl 1 r.1)) (zShl 1 r.2.1)) (zShl 1 r.2.2)
theorem zBt0 : zt (zBb 0 (-9, -9, -9)) = zS3 (-9) (-9) (-9) := by
  funext u
  show zt 0 u = decide _
  rw [zbt0, decide_eq_false (by omega)]
theorem zBt1 {x : Nat} (hx : x < 32) : zt (zOr 0 (zShl 1 (x : Int))) = zS3 x (-9) (-9) := by
  funext u
  show _ = decide _
  rw [zt_or, zbt0, zt_bit hx, Bool.false_or]
  exact decide_eq_decide.mpr (by omega)
theorem zBt2 {x y : Nat} (hx : x < 32) (hy : y < 32) : zt (zOr (zOr 0 (zShl 1 (x : Int))) (zShl 1 (y : Int))) = zS3 x y (-9) := by
  funext u
  show _ = decide _
  rw [zt_or, zt_or, zbt0, zt_bit hx, zt_bit hy, Bool.false_or, ← Bool.decide_or]
  exact decide_eq_decide.mpr (by omega)
theorem zBt3 {x y z : Nat} (hx : x < 32) (hy : y < 32) (hz : z < 32) : zt (zOr (zOr (zOr 0 (zShl 1 (x : Int))) (zShl 1 (y : Int))) (zShl 1 (z : Int))) = zS3 x y z := by
  funext u
  show _ = decide _
  rw [zt_or, zt_or, zt_or, zbt0, zt_bit hx, zt_bit hy, zt_bit hz, Bool.false_or, ← Bool.decide_or, ← Bool.decide_or]
  exact decide_eq_decide.mpr (by omega)
theorem zSr_R {q : Nat → Bool} {K : (Nat → Bool) → Bool} {C : Nat} (hC : C ≤ 30) : ∀ n : Nat, n ≤ 3 → zSr q (fun s => K (zt s)) C n 0 0 = (zRs q (fun x y z => K (zS3 x y z)) C n).map (zBb n) := by
  intro n hn
  have e0 : zt 0 = zS3 (-9) (-9) (-9) := zBt0
  match n, hn with
  | 0, _ =>
    show (if K (zt 0) = true then some (0 : Int) else none) = (if K (zS3 (-9) (-9) (-9)) = true then some ((-9 : Int), (-9 : Int), (-9 : Int)) else none).map (zBb 0)
    rw [e0]
    by_cases g : K (zS3 (-9) (-9) (-9)) = true
    · rw [if_pos g, if_pos g]; rfl
    · rw [if_neg g, if_neg g]; rfl
  | 1, _ =>
    show zFx _ C 0 = (zFx _ C 0).map (zBb 1)
    rw [← zFx_m]
    refine zFx_c _ _ (fun x _ x1 => ?_)
    show (if q x = true then (if K (zt (zOr 0 (zShl 1 (x : Int)))) = true then some (zOr 0 (zShl 1 (x : Int))) else none) else none) = _
    rw [zBt1 (by omega)]
    by_cases g1 : q x = true
    · by_cases g2 : K (zS3 x (-9) (-9)) = true
      · rw [if_pos g1, if_pos g2, if_pos ⟨g1, g2⟩]; rfl
      · rw [if_pos g1, if_neg g2, if_neg (fun z => g2 z.2)]; rfl
    · rw [if_neg g1, if_neg (fun z => g1 z.1)]; rfl
  | 2, _ =>
    show zFx _ C 0 = (zFx _ C 0).map (zBb 2)
    rw [← zFx_m]
    refine zFx_c _ _ (fun x _ x1 => ?_)
    show (if q x = true then zFx (fun y => if q y = true then (if K (zt (zOr (zOr 0 (zShl 1 (x : Int))) (zShl 1 (y : Int)))) = true then some (zOr (zOr 0 (zShl 1 (x : Int))) (zShl 1 (y : Int))) else none) else none) (C - (x + 1)) (x + 1) else none) = (zFx _ (C - (x + 1)) (x + 1)).map (zBb 2)
    rw [← zFx_m]
    by_cases g1 : q x = true
    · rw [if_pos g1]
      refine zFx_c _ _ (fun y _ y1 => ?_)
      rw [zBt2 (by omega) (by omega)]
      by_cases g2 : q y = true
      · by_cases g3 : K (zS3 x y (-9)) = true
        · rw [if_pos g2, if_pos g3, if_pos ⟨g1, g2, g3⟩]; rfl
        · rw [if_pos g2, if_neg g3, if_neg (fun z => g3 z.2.2)]; rfl
      · rw [if_neg g2, if_neg (fun z => g2 z.2.1)]; rfl
    · rw [if_neg g1, zFx_nn]
      intro y _ _
      rw [if_neg (fun z => g1 z.1)]; rfl
  | 3, _ =>
    show zFx _ C 0 = (zFx _ C 0).map (zBb 3)
    rw [← zFx_m]
    refine zFx_c _ _ (fun x _ x1 => ?_)
    show (if q x = true then zFx (fun y => if q y = true then zFx (fun z => if q z = true then (if K (zt (zOr (zOr (zOr 0 (zShl 1 (x : Int))) (zShl 1 (y : Int))) (zShl 1 (z : Int)))) = true then some (zOr (zOr (zOr 0 (zShl 1 (x : Int))) (zShl 1 (y : Int))) (zShl 1 (z : Int))) else none) else none) (C - (y + 1)) (y + 1) else none) (C - (x + 1)) (x + 1) else none) = (zFx _ (C - (x + 1)) (x + 1)).map (zBb 3)
    rw [← zFx_m]
    by_cases g1 : q x = true
    · rw [if_pos g1]
      refine zFx_c _ _ (fun y _ y1 => ?_)
      rw [← zFx_m]
      by_cases g2 : q y = true
      · rw [if_pos g2]
        refine zFx_c _ _ (fun z _ z1 => ?_)
        rw [zBt3 (by omega) (by omega) (by omega)]
        by_cases g3 : q z = true
        · by_cases g4 : K (zS3 x y z) = true
          · rw [if_pos g3, if_pos g4, if_pos ⟨g1, g2, g3, g4⟩]; rfl
          · rw [if_pos g3, if_neg g4, if_neg (fun z => g4 z.2.2.2)]; rfl
        · rw [if_neg g3, if_neg (fun z => g3 z.2.2.1)]; rfl
      · rw [if_neg g2, zFx_nn]
        intro z _ _
        rw [if_neg (fun z => g2 z.2.1)]; rfl
    · rw [if_neg g1, zFx_nn]
      intro y _ _
      rw [zFx_nn]
      · rfl
      · intro z _ _
        rw [if_neg (fun z => g1 z.1)]
