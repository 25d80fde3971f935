/-! keep: the class's answer -/
def zAns (σ : zHp) (w b c q r : Int) : Prop := (∃ (n : Nat) (x y z : Int), n ≤ 3 ∧ zKr σ w b c n = some (x, y, z) ∧ (∀ j, j < n → zKr σ w b c j = none) ∧ r = if q = -1 then (n : Int) else zQth q n x y z) ∨ (r = -9 ∧ ∀ j, j ≤ 3 → zKr σ w b c j = none)
theorem zAns_1 {σ : zHp} {w b c q r r2 : Int} (h : zAns σ w b c q r) (h2 : zAns σ w b c q r2) : r = r2 := by
  rcases h with ⟨n, x, y, z, n3, h1, h2', rfl⟩ | ⟨rfl, h⟩
  · rcases h2 with ⟨m, x2, y2, z2, m3, k1, k2, rfl⟩ | ⟨rfl, k⟩
    · rcases Nat.lt_trichotomy n m with g | g | g
      · rw [k2 n g] at h1
        cases h1
      · subst g
        rw [h1] at k1
        cases k1
        rfl
      · rw [h2' m g] at k1
        cases k1
    · rw [k n n3] at h1
      cases h1
  · rcases h2 with ⟨m, x2, y2, z2, m3, k1, k2, rfl⟩ | ⟨rfl, k⟩
    · rw [h m m3] at k1
      cases k1
    · rfl
theorem w_keepEval {σ τ υ : zHp} {w b c q s r : Int} (gb : 0 ≤ b ∧ b < σ 6 0) (gc : 0 ≤ c ∧ c < σ 1 2) (gw : 0 ≤ w ∧ w ≤ 39) (gq : -1 ≤ q ∧ q ≤ 2) (h1 : m_X0_blow [10, w] σ = some (0, τ)) (h2 : m_X7_fewestToKeep [19, b, c] τ = some (s, υ)) (h3 : s = -9 → r = -9) (h4 : s ≠ -9 → q = -1 → zcnt s = r) (h5 : s ≠ -9 → q ≠ -1 → m_X8_memberOf [s, q] υ = some (r, υ)) : m_X8_keep [0, b, c, w, q] σ = some (r, υ) := by
  have q1 : ¬ q < -1 := by omega
  have q2 : ¬ 3 ≤ q := by omega
  by_cases p : s = -9
  · subst p
    rw [h3 rfl]
    simp [e_X8_keep, d_X8_keep, xC_e, xL_e, xU_e, xB_e, xD_e, xF_e, xG_e, xA_e, xE_e, xH_e, xI_e, xZ_e, xK_e, aN_e, aC_e, cR_e, cV_e, cA_e, cO_e, cN_e, bs_e, bn_e, zg_0, zg_S, sS_e, sX_e, sF_e, sG_e, sA_e, sE_e, sEo_e, sK_e, sQ_e, sI_e, sR_e, sV_e, sB_e, sC_e, sD_e, sN_e, sP_e, sY_e, st_0, st_S, zc_0, zc_S, r_eq, r_ne, r_lt, r_le, r_gt, r_ge, rb_ite, rb_0, rb_1, w_isBell_t gb, w_isCell_t gc, w_isWind_t gw, q1, q2, h1, h2]
  · by_cases g : q = -1
    · subst g
      have := h4 p rfl
      simp [e_X8_keep, d_X8_keep, xC_e, xL_e, xU_e, xB_e, xD_e, xF_e, xG_e, xA_e, xE_e, xH_e, xI_e, xZ_e, xK_e, aN_e, aC_e, cR_e, cV_e, cA_e, cO_e, cN_e, bs_e, bn_e, zg_0, zg_S, sS_e, sX_e, sF_e, sG_e, sA_e, sE_e, sEo_e, sK_e, sQ_e, sI_e, sR_e, sV_e, sB_e, sC_e, sD_e, sN_e, sP_e, sY_e, st_0, st_S, zc_0, zc_S, r_eq, r_ne, r_lt, r_le, r_gt, r_ge, rb_ite, rb_0, rb_1, w_isBell_t gb, w_isCell_t gc, w_isWind_t gw, q2, h1, h2, p, w_bitCount, this]
    · have := h5 p g
      simp [e_X8_keep, d_X8_keep, xC_e, xL_e, xU_e, xB_e, xD_e, xF_e, xG_e, xA_e, xE_e, xH_e, xI_e, xZ_e, xK_e, aN_e, aC_e, cR_e, cV_e, cA_e, cO_e, cN_e, bs_e, bn_e, zg_0, zg_S, sS_e, sX_e, sF_e, sG_e, sA_e, sE_e, sEo_e, sK_e, sQ_e, sI_e, sR_e, sV_e, sB_e, sC_e, sD_e, sN_e, sP_e, sY_e, st_0, st_S, zc_0, zc_S, r_eq, r_ne, r_lt, r_le, r_gt, r_ge, rb_ite, rb_0, rb_1, w_isBell_t gb, w_isCell_t gc, w_isWind_t gw, q1, q2, h1, h2, p, g, this]
theorem w_keep {σ : zHp} (hI : zInv σ) {w b c q : Int} (gb : 0 ≤ b ∧ b < σ 6 0) (gc : 0 ≤ c ∧ c < σ 1 2) (gw : 0 ≤ w ∧ w ≤ 39) (gq : -1 ≤ q ∧ q ≤ 2) : ∃ (υ : zHp) (r : Int), m_X8_keep [0, b, c, w, q] σ = some (r, υ) ∧ zSame σ υ ∧ zAns σ w b c q r := by
  obtain ⟨nb1, nb2⟩ := zNb_e hI
  obtain ⟨nc1, nc2⟩ := zNc_e hI
  obtain ⟨τ, t1, t2, t3⟩ := zBlow hI gw
  obtain ⟨υ, s, u1, u2, u3⟩ := w_ft (b := b) (c := c) hI gw (by omega) gc t2 t3
  rcases u3 with ⟨n, x, y, z, n3, k1, k2, rfl⟩ | ⟨rfl, k⟩
  · have od := zRs_o n n3 k1
    have s9 : zBb n (x, y, z) ≠ -9 := fun e => by
      have e2 : zt (zBb n (x, y, z)) 31 = true := by rw [e]; exact zt_9
      rw [zBb_t nc2 od] at e2
      have e3 : ((31 : Nat) : Int) = x ∨ ((31 : Nat) : Int) = y ∨ ((31 : Nat) : Int) = z := of_decide_eq_true e2
      unfold zOrd at od
      omega
    obtain ⟨r, m1, m2⟩ := w_mb υ (zBb n (x, y, z)) q
    rw [zBb_t nc2 od] at m2
    refine ⟨υ, if q = -1 then (n : Int) else zQth q n x y z, w_keepEval gb gc gw gq t1 u1 (fun e => absurd e s9) (fun _ e => ?_) (fun _ e => ?_), u2, Or.inl ⟨n, x, y, z, n3, k1, k2, rfl⟩⟩
    · rw [if_pos e]
      exact zBb_n nc2 od
    · rw [if_neg e, m1, zOrd_q nc2 od (by omega) m2]
  · exact ⟨υ, -9, w_keepEval gb gc gw gq t1 u1 (fun _ => rfl) (fun e => absurd rfl e) (fun e => absurd rfl e), u2, Or.inr ⟨rfl, k⟩⟩
/-! what it depends on -/
theorem zKr_eq {σ τ : zHp} (h : zSame σ τ) (w b c : Int) (n : Nat) : zKr τ w b c n = zKr σ w b c n := by
  have e11 : τ 1 1 = σ 1 1 := h 1 1 rfl
  have e12 : τ 1 2 = σ 1 2 := h 1 2 rfl
  have eb : zNb τ = zNb σ := by unfold zNb; rw [h 6 0 rfl]
  have ec : zNc τ = zNc σ := by unfold zNc; rw [e12]
  have e8 : ∀ k, τ 8 k = σ 8 k := fun k => h 8 k rfl
  have ep : zPp τ c = zPp σ c := by
    funext x
    unfold zPp
    rw [e12, h 42 x rfl, eb]
    simp only [e8]
  have eg : zGG τ w = zGG σ w := by
    funext x y
    unfold zGG
    rw [zGr_eq e11, h 11 _ rfl, e8]
  have eF : zFF τ w = zFF σ w := by
    unfold zFF
    rw [h 10 2 rfl]
  have e9 : τ 9 = σ 9 := funext (fun k => h 9 k rfl)
  have ek : zK3 τ w b c = zK3 σ w b c := by
    funext x y z
    unfold zK3 zKk
    have ed : zDd τ w c (zS3 x y z) = zDd σ w c (zS3 x y z) := by
      funext v
      unfold zDd zKs
      rw [e9, eg, e8, zLen_eq e11]
      simp only [zBt_eq e11]
    rw [ed, eF, eb]
  unfold zKr
  rw [ep, ek, ec]
