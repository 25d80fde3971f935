/-! what each bell must give, and the cheapest -/
section QBELLS
variable {L : Nat} {xs : Nat → Int32}
theorem q_lwC5 {υ : zHp} {n C N t w c be co d a1 a2 a3 : Int} : lc_L_law_5 L xs [0, 0, 37, n, C, N, 38, t, w, 39, c, be, co, d, a1, a2, a3] υ = some (decide (d < N), υ) := by
  simp [lc_L_law_5, xC_e, xL_e, xU_e, xB_e, xD_e, xF_e, xG_e, xA_e, xE_e, xH_e, xI_e, xZ_e, xK_e, aN_e, aC_e, cR_e, cV_e, cA_e, cO_e, cN_e, bs_e, bn_e, zg_0, zg_S, sS_e, sX_e, sF_e, sG_e, sA_e, sE_e, sEo_e, sK_e, sQ_e, sI_e, sR_e, sV_e, sB_e, sC_e, sD_e, sN_e, st_0, st_S, zc_0, zc_S, r_eq, r_ne, r_lt, r_le, r_gt, r_ge, rb_ite, rb_0, rb_1]
theorem q_lwB5 {x y z z1 : zHp} {n C N t w c be co d v le k j sv : Int} (je : o_iadd 54 d = j) (j6 : 0 ≤ j ∧ j < 60) (hv : x 37 j = v) (hl : sW (lc_L_law_4 L xs) (lf_L_law_4 L xs) (ls_L_law_4 L xs) [0, 0, 37, n, C, N, 38, t, w, 39, c, be, co, d, v, -9, 99] x = some (0, [0, 0, 37, n, C, N, 38, t, w, 39, c, be, co, d, v, le, k], y))
    (hz : zput y 37 j v = z) (h1 : m_X8_wins [0, d, c, w] z = some (le, z1)) (h2 : m_X8_ofBell [0, d, 2] z1 = some (v, z1)) (sve : (if v < le then o_isub le v else 0) = sv) :
    lf_L_law_5 L xs [0, 0, 37, n, C, N, 38, t, w, 39, c, be, co, d, 0, 0, 0] x = if le < 0 ∨ (0 ≤ be ∧ co ≤ sv) then some (3, [0, 0, 37, n, C, N, 38, t, w, 39, c, be, co, d, 0, 0, 0], z1) else some (0, [0, 0, 37, n, C, N, 38, t, w, 39, c, d, sv, d, 0, 0, 0], z1) := by
  have key : ∀ r, (sQ (sS 16 (xI (cR r_gt (xL 15) (xL 14)) (xB o_isub (xL 15) (xL 14)) (xC 0))) (sQ (sI (cO (cV (fun x => r_lt x 0) (xL 15)) (cA (cV (fun x => r_ge x 0) (xL 11)) (cR r_ge (xL 16) (xL 12)))) sC sK) (sQ (sS 11 (xL 13)) (sS 12 (xL 16))))) [0, 0, 37, n, C, N, 38, t, w, 39, c, be, co, d, v, le, 0] z1 = some r → r.1 ≠ 1 → lf_L_law_5 L xs [0, 0, 37, n, C, N, 38, t, w, 39, c, be, co, d, 0, 0, 0] x = some (r.1, zclr [14, 15, 16] r.2.1, r.2.2) := by
    rintro ⟨r1, r2, r3⟩ hr hr1
    unfold lf_L_law_5
    refine sD_t hr1 ?_
    rw [sQ_s (e1 := [0, 0, 37, n, C, N, 38, t, w, 39, c, be, co, d, v, 0, 0]) (σ1 := x) (by simp [xC_e, xL_e, xU_e, xB_e, xD_e, xF_e, xG_e, xA_e, xE_e, xH_e, xI_e, xZ_e, xK_e, aN_e, aC_e, cR_e, cV_e, cA_e, cO_e, cN_e, bs_e, bn_e, zg_0, zg_S, sS_e, sX_e, sF_e, sG_e, sA_e, sE_e, sEo_e, sK_e, sQ_e, sI_e, sR_e, sV_e, sB_e, sC_e, sD_e, sN_e, st_0, st_S, zc_0, zc_S, je, j6, hv])]
    rw [sQ_s (e1 := [0, 0, 37, n, C, N, 38, t, w, 39, c, be, co, d, v, -9, 0]) (σ1 := x) (by simp [xC_e, xL_e, xU_e, xB_e, xD_e, xF_e, xG_e, xA_e, xE_e, xH_e, xI_e, xZ_e, xK_e, aN_e, aC_e, cR_e, cV_e, cA_e, cO_e, cN_e, bs_e, bn_e, zg_0, zg_S, sS_e, sX_e, sF_e, sG_e, sA_e, sE_e, sEo_e, sK_e, sQ_e, sI_e, sR_e, sV_e, sB_e, sC_e, sD_e, sN_e, st_0, st_S, zc_0, zc_S])]
    rw [sQ_s (e1 := [0, 0, 37, n, C, N, 38, t, w, 39, c, be, co, d, v, le, 0]) (σ1 := y) (by
      refine (sD_0 (e1 := [0, 0, 37, n, C, N, 38, t, w, 39, c, be, co, d, v, le, k]) ?_).trans rfl
      rw [sQ_s (e1 := [0, 0, 37, n, C, N, 38, t, w, 39, c, be, co, d, v, -9, 99]) (σ1 := x) (by simp [xC_e, xL_e, xU_e, xB_e, xD_e, xF_e, xG_e, xA_e, xE_e, xH_e, xI_e, xZ_e, xK_e, aN_e, aC_e, cR_e, cV_e, cA_e, cO_e, cN_e, bs_e, bn_e, zg_0, zg_S, sS_e, sX_e, sF_e, sG_e, sA_e, sE_e, sEo_e, sK_e, sQ_e, sI_e, sR_e, sV_e, sB_e, sC_e, sD_e, sN_e, st_0, st_S, zc_0, zc_S])]
      exact hl)]
    rw [sQ_s (e1 := [0, 0, 37, n, C, N, 38, t, w, 39, c, be, co, d, v, le, 0]) (σ1 := z) (by simp [xC_e, xL_e, xU_e, xB_e, xD_e, xF_e, xG_e, xA_e, xE_e, xH_e, xI_e, xZ_e, xK_e, aN_e, aC_e, cR_e, cV_e, cA_e, cO_e, cN_e, bs_e, bn_e, zg_0, zg_S, sS_e, sX_e, sF_e, sG_e, sA_e, sE_e, sEo_e, sK_e, sQ_e, sI_e, sR_e, sV_e, sB_e, sC_e, sD_e, sN_e, st_0, st_S, zc_0, zc_S, je, j6, hz])]
    rw [sQ_s (e1 := [0, 0, 37, n, C, N, 38, t, w, 39, c, be, co, d, v, le, 0]) (σ1 := z1) (by simp [xC_e, xL_e, xU_e, xB_e, xD_e, xF_e, xG_e, xA_e, xE_e, xH_e, xI_e, xZ_e, xK_e, aN_e, aC_e, cR_e, cV_e, cA_e, cO_e, cN_e, bs_e, bn_e, zg_0, zg_S, sS_e, sX_e, sF_e, sG_e, sA_e, sE_e, sEo_e, sK_e, sQ_e, sI_e, sR_e, sV_e, sB_e, sC_e, sD_e, sN_e, st_0, st_S, zc_0, zc_S, r_eq, r_ne, r_lt, r_le, r_gt, r_ge, rb_ite, rb_0, rb_1, h1, h2])]
    exact hr
  have e16 : sS 16 (xI (cR r_gt (xL 15) (xL 14)) (xB o_isub (xL 15) (xL 14)) (xC 0)) [0, 0, 37, n, C, N, 38, t, w, 39, c, be, co, d, v, le, 0] z1 = some (0, [0, 0, 37, n, C, N, 38, t, w, 39, c, be, co, d, v, le, sv], z1) := by
    by_cases q : v < le
    · rw [if_pos q] at sve
      subst sve
      simp [xC_e, xL_e, xU_e, xB_e, xD_e, xF_e, xG_e, xA_e, xE_e, xH_e, xI_e, xZ_e, xK_e, aN_e, aC_e, cR_e, cV_e, cA_e, cO_e, cN_e, bs_e, bn_e, zg_0, zg_S, sS_e, sX_e, sF_e, sG_e, sA_e, sE_e, sEo_e, sK_e, sQ_e, sI_e, sR_e, sV_e, sB_e, sC_e, sD_e, sN_e, st_0, st_S, zc_0, zc_S, r_eq, r_ne, r_lt, r_le, r_gt, r_ge, rb_ite, rb_0, rb_1, q]
    · rw [if_neg q] at sve
      subst sve
      simp [xC_e, xL_e, xU_e, xB_e, xD_e, xF_e, xG_e, xA_e, xE_e, xH_e, xI_e, xZ_e, xK_e, aN_e, aC_e, cR_e, cV_e, cA_e, cO_e, cN_e, bs_e, bn_e, zg_0, zg_S, sS_e, sX_e, sF_e, sG_e, sA_e, sE_e, sEo_e, sK_e, sQ_e, sI_e, sR_e, sV_e, sB_e, sC_e, sD_e, sN_e, st_0, st_S, zc_0, zc_S, r_eq, r_ne, r_lt, r_le, r_gt, r_ge, rb_ite, rb_0, rb_1, q]
  by_cases p : le < 0 ∨ (0 ≤ be ∧ co ≤ sv)
  · rw [if_pos p]
    refine (key (3, [0, 0, 37, n, C, N, 38, t, w, 39, c, be, co, d, v, le, sv], z1) ?_ (show (3 : Nat) ≠ 1 by decide)).trans rfl
    rw [sQ_s e16]
    refine sQ_t (by decide) ?_
    by_cases q : le < 0
    · simp [xC_e, xL_e, xU_e, xB_e, xD_e, xF_e, xG_e, xA_e, xE_e, xH_e, xI_e, xZ_e, xK_e, aN_e, aC_e, cR_e, cV_e, cA_e, cO_e, cN_e, bs_e, bn_e, zg_0, zg_S, sS_e, sX_e, sF_e, sG_e, sA_e, sE_e, sEo_e, sK_e, sQ_e, sI_e, sR_e, sV_e, sB_e, sC_e, sD_e, sN_e, st_0, st_S, zc_0, zc_S, r_eq, r_ne, r_lt, r_le, r_gt, r_ge, rb_ite, rb_0, rb_1, q]
    · have p2 := p.resolve_left q
      simp [xC_e, xL_e, xU_e, xB_e, xD_e, xF_e, xG_e, xA_e, xE_e, xH_e, xI_e, xZ_e, xK_e, aN_e, aC_e, cR_e, cV_e, cA_e, cO_e, cN_e, bs_e, bn_e, zg_0, zg_S, sS_e, sX_e, sF_e, sG_e, sA_e, sE_e, sEo_e, sK_e, sQ_e, sI_e, sR_e, sV_e, sB_e, sC_e, sD_e, sN_e, st_0, st_S, zc_0, zc_S, r_eq, r_ne, r_lt, r_le, r_gt, r_ge, rb_ite, rb_0, rb_1, q, p2]
  · rw [if_neg p]
    have p1 : ¬ le < 0 := fun q => p (Or.inl q)
    refine (key (0, [0, 0, 37, n, C, N, 38, t, w, 39, c, d, sv, d, v, le, sv], z1) ?_ (show (0 : Nat) ≠ 1 by decide)).trans rfl
    rw [sQ_s e16]
    rw [sQ_s (e1 := [0, 0, 37, n, C, N, 38, t, w, 39, c, be, co, d, v, le, sv]) (σ1 := z1) (by
      by_cases q : 0 ≤ be
      · have p2 : ¬ co ≤ sv := fun z => p (Or.inr ⟨q, z⟩)
        simp [xC_e, xL_e, xU_e, xB_e, xD_e, xF_e, xG_e, xA_e, xE_e, xH_e, xI_e, xZ_e, xK_e, aN_e, aC_e, cR_e, cV_e, cA_e, cO_e, cN_e, bs_e, bn_e, zg_0, zg_S, sS_e, sX_e, sF_e, sG_e, sA_e, sE_e, sEo_e, sK_e, sQ_e, sI_e, sR_e, sV_e, sB_e, sC_e, sD_e, sN_e, st_0, st_S, zc_0, zc_S, r_eq, r_ne, r_lt, r_le, r_gt, r_ge, rb_ite, rb_0, rb_1, p1, q, p2]
      · simp [xC_e, xL_e, xU_e, xB_e, xD_e, xF_e, xG_e, xA_e, xE_e, xH_e, xI_e, xZ_e, xK_e, aN_e, aC_e, cR_e, cV_e, cA_e, cO_e, cN_e, bs_e, bn_e, zg_0, zg_S, sS_e, sX_e, sF_e, sG_e, sA_e, sE_e, sEo_e, sK_e, sQ_e, sI_e, sR_e, sV_e, sB_e, sC_e, sD_e, sN_e, st_0, st_S, zc_0, zc_S, r_eq, r_ne, r_lt, r_le, r_gt, r_ge, rb_ite, rb_0, rb_1, p1, q])]
    simp [xC_e, xL_e, xU_e, xB_e, xD_e, xF_e, xG_e, xA_e, xE_e, xH_e, xI_e, xZ_e, xK_e, aN_e, aC_e, cR_e, cV_e, cA_e, cO_e, cN_e, bs_e, bn_e, zg_0, zg_S, sS_e, sX_e, sF_e, sG_e, sA_e, sE_e, sEo_e, sK_e, sQ_e, sI_e, sR_e, sV_e, sB_e, sC_e, sD_e, sN_e, st_0, st_S, zc_0, zc_S]
theorem zCh_i (f W : Int → Int) : ∀ k : Nat, (zCh f W k).1 = -9 ∨ 0 ≤ (zCh f W k).1
  | 0 => Or.inl rfl
  | k + 1 => by
    unfold zCh
    split
    · exact Or.inr (Int.natCast_nonneg _)
    · exact zCh_i f W k
theorem zCh_S (f W : Int → Int) (k : Nat) : zCh f W (k + 1) = if f k ≠ -9 ∧ ((zCh f W k).1 = -9 ∨ max 0 (f k - W k) < (zCh f W k).2) then ((k : Int), max 0 (f k - W k)) else zCh f W k := rfl
theorem T_bells {σ x : zHp} (hI : zInv σ) (hq : zGq σ) (h : qW σ x) (hu : qU (zNb σ) (σ 9) x) {n C t w c : Int} (hc : 0 ≤ c ∧ c < σ 1 2) (hw : 0 ≤ w ∧ w ≤ 39) (hcap : zct x + 1188 < zcap) :
    ∃ y, sW (lc_L_law_5 L xs) (lf_L_law_5 L xs) (ls_L_law_5 L xs) [0, 0, 37, n, C, (zNb σ : Int), 38, t, w, 39, c, -9, -9, 0, 0, 0, 0] x = some (0, [0, 0, 37, n, C, (zNb σ : Int), 38, t, w, 39, c, (zCh (fun b => zFst (zWn (zFF σ w) (σ 9) (zGG σ w) (zNb σ) b c) 99) (σ 9) (zNb σ)).1, (zCh (fun b => zFst (zWn (zFF σ w) (σ 9) (zGG σ w) (zNb σ) b c) 99) (σ 9) (zNb σ)).2, 0 + (zNb σ : Int), 0, 0, 0], y) ∧ qW σ y ∧ qU (zNb σ) (σ 9) y ∧ zct y ≤ zct x + 1188 := by
  obtain ⟨n1, n2⟩ := zNb_e hI
  generalize hf : (fun b => zFst (zWn (zFF σ w) (σ 9) (zGG σ w) (zNb σ) b c) 99) = f
  obtain ⟨y, hl, y1, y2, y3⟩ := zfor0 (c := lc_L_law_5 L xs) (f := lf_L_law_5 L xs) (i := 13) (lo := 0) (σ := x) (zNb σ) (fun k => [0, 0, 37, n, C, (zNb σ : Int), 38, t, w, 39, c, (zCh f (σ 9) k).1, (zCh f (σ 9) k).2, 0 + (k : Int), 0, 0, 0])
    (fun k y => qW σ y ∧ qU (zNb σ) (σ 9) y ∧ zct y = zct x + 198 * (k : Int)) ⟨h, hu, by omega⟩ (fun k => rfl) (by decide) (by omega)
    (fun k y hk hy => by
      rw [q_lwC5]
      have : (0 + (k : Int) < ((zNb σ : Nat) : Int)) ↔ k < zNb σ := by omega
      simp only [this])
    (fun k y hk hy => by
      obtain ⟨y1, y2, y3⟩ := hy
      have hd : 0 ≤ (k : Int) ∧ (k : Int) < zNb σ := ⟨by omega, by omega⟩
      have wt := zWt_I hI (k : Int) hd.1 hd.2
      have fi := zFst_i (zWn (zFF σ w) (σ 9) (zGG σ w) (zNb σ) (k : Int) c) 99
      have fk : zFst (zWn (zFF σ w) (σ 9) (zGG σ w) (zNb σ) (k : Int) c) 99 = f (k : Int) := by rw [← hf]
      obtain ⟨u, hl, u1, u2, u3⟩ := T_least (L := L) (xs := xs) hI hq y1 y2 (n := n) (C := C) (N := (zNb σ : Int)) (t := t) (be := (zCh f (σ 9) k).1) (le := (zCh f (σ 9) k).2) (v := σ 9 (k : Int)) hc hw hd (by omega)
      rw [fk] at hl fi
      have z1 := u1.w37 (b := (k : Int)) (v := σ 9 (k : Int)) ⟨by omega, by omega⟩ ⟨by omega, by omega⟩
      have zu : qU (zNb σ) (σ 9) (zput u 37 (54 + (k : Int)) (σ 9 (k : Int))) := fun b b0 b1 => by
        by_cases q : b = (k : Int)
        · rw [q, zput_self]
        · rw [zput_i (by omega)]
          exact u2 b b0 b1 q
      have cz : zct (zput u 37 (54 + (k : Int)) (σ 9 (k : Int))) = zct u := zct_put (o := 37)
      obtain ⟨v, v1, v2, v3⟩ := W_wins hI z1 (b := (k : Int)) ⟨by omega, by omega⟩ hc hw
      rw [fk] at v1
      have vo := c_ofBell2 (σ := v) (b := (k : Int)) (by rw [v2.g (a := 6) (by decide) rfl]; omega) ⟨by omega, by omega⟩
      rw [v2.g (a := 9) (by decide) rfl] at vo
      have vu : qU (zNb σ) (σ 9) v := zu.cl (fun b => v3 37 b (by decide) (by omega))
      have cv : zct v = zct (zput u 37 (54 + (k : Int)) (σ 9 (k : Int))) := v3 (-1) 0 (by decide) (by decide)
      have body := q_lwB5 (L := L) (xs := xs) (x := y) (j := 54 + (k : Int)) (w32_id ⟨by omega, by omega⟩) ⟨by omega, by omega⟩ (y2 _ hd.1 hd.2) hl rfl v1 vo rfl
      have ci := zCh_i f (σ 9) k
      have cS := zCh_S f (σ 9) k
      have sve : (if σ 9 (k : Int) < f (k : Int) then o_isub (f (k : Int)) (σ 9 (k : Int)) else 0) = max 0 (f (k : Int) - σ 9 (k : Int)) := by
        split
        · rw [show o_isub (f (k : Int)) (σ 9 (k : Int)) = f (k : Int) - σ 9 (k : Int) from w32_id ⟨by omega, by omega⟩]
          omega
        · omega
      rw [sve] at body
      rw [z0k]
      by_cases p : f (k : Int) ≠ -9 ∧ ((zCh f (σ 9) k).1 = -9 ∨ max 0 (f (k : Int) - σ 9 (k : Int)) < (zCh f (σ 9) k).2)
      · rw [if_pos p] at cS
        rw [if_neg (by omega)] at body
        exact ⟨_, _, _, body, Or.inl rfl, rfl, by rw [cS]; rfl, v2, vu, by omega⟩
      · rw [if_neg p] at cS
        rw [if_pos (by omega)] at body
        exact ⟨_, _, _, body, Or.inr rfl, rfl, by rw [cS]; rfl, v2, vu, by omega⟩)
  exact ⟨y, hl, y1, y2, by omega⟩
end QBELLS
