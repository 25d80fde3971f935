theorem zRe.rf (σ : zHp) : zRe σ σ := fun _ _ _ _ => rfl
theorem zRe.put {σ x : zHp} (h : zRe σ x) {b v : Int} (hb : b = 10 ∨ b = 11 ∨ b = 12) : zRe σ (zput x 37 b v) := fun a c q1 q2 => by rw [zput_n (by omega)]; exact h a c q1 q2
theorem v_rlEv0 {σ : zHp} {E : Int} (h : m_X9_isCode [37, 103, E] σ = some (0, σ)) : m_X9_readLand [37, E] σ = some (0, σ) := by
  simp [e_X9_readLand, d_X9_readLand, xC_e, xL_e, xU_e, xB_e, xD_e, xF_e, xG_e, xA_e, xE_e, xH_e, xI_e, xZ_e, xK_e, aN_e, aC_e, cR_e, cV_e, cA_e, cO_e, cN_e, bs_e, bn_e, zg_0, zg_S, sS_e, sX_e, sF_e, sG_e, sA_e, sE_e, sEo_e, sK_e, sQ_e, sI_e, sR_e, sV_e, sB_e, sC_e, sD_e, sN_e, sP_e, sY_e, st_0, st_S, zc_0, zc_S, h, rb_0]
theorem v_rlEv1 {σ : zHp} {E a0 a1 v : Int} (h : m_X9_isCode [37, 103, E] σ = some (1, σ)) (hat : σ 37 10 = a0) (e1 : o_iadd a0 1 = a1) (d1 : m_X9_digitAt [37, a1, E] (zput σ 37 10 a1) = some (v, zput σ 37 10 a1)) (w1 : ¬ (2 ≤ v ∧ v ≤ 5)) : m_X9_readLand [37, E] σ = some (0, zput (zput σ 37 10 a1) 37 11 v) := by
  have r1 : zput σ 37 10 a1 37 10 = a1 := zput_self _ _ _ _
  have r2 : zput (zput σ 37 10 a1) 37 11 v 37 11 = v := zput_self _ _ _ _
  simp only [e_X9_readLand, d_X9_readLand, xC_e, xL_e, xU_e, xB_e, xD_e, xF_e, xG_e, xA_e, xE_e, xH_e, xI_e, xZ_e, xK_e, aN_e, aC_e, cR_e, cV_e, cA_e, cO_e, cN_e, bs_e, bn_e, zg_0, zg_S, sS_e, sX_e, sF_e, sG_e, sA_e, sE_e, sEo_e, sK_e, sQ_e, sI_e, sR_e, sV_e, sB_e, sC_e, sD_e, sN_e, sP_e, sY_e, st_0, st_S, zc_0, zc_S, h, rb_1, hat, e1, r1, d1, r2, v_within_f w1, rb_0, Bool.not_true, Bool.not_false, Bool.false_eq_true, if_false, if_true]
  rfl
theorem v_rlEv2 {σ σ1 : zHp} {E a0 a1 a2 v w : Int} (h : m_X9_isCode [37, 103, E] σ = some (1, σ)) (hat : σ 37 10 = a0) (e1 : o_iadd a0 1 = a1) (d1 : m_X9_digitAt [37, a1, E] (zput σ 37 10 a1) = some (v, zput σ 37 10 a1)) (w1 : 2 ≤ v ∧ v ≤ 5) (e2 : o_iadd a1 1 = a2) (h1 : zput (zput (zput σ 37 10 a1) 37 11 v) 37 10 a2 = σ1) (d2 : m_X9_digitAt [37, a2, E] σ1 = some (w, σ1)) (w2 : ¬ (2 ≤ w ∧ w ≤ 6)) : m_X9_readLand [37, E] σ = some (0, zput σ1 37 12 w) := by
  have r1 : zput σ 37 10 a1 37 10 = a1 := zput_self _ _ _ _
  have r2 : zput (zput σ 37 10 a1) 37 11 v 37 11 = v := zput_self _ _ _ _
  have r3 : zput (zput σ 37 10 a1) 37 11 v 37 10 = a1 := by rw [zput_i (by decide), zput_self]
  have r4 : σ1 37 10 = a2 := by rw [← h1, zput_self]
  have r5 : zput σ1 37 12 w 37 12 = w := zput_self _ _ _ _
  simp only [e_X9_readLand, d_X9_readLand, xC_e, xL_e, xU_e, xB_e, xD_e, xF_e, xG_e, xA_e, xE_e, xH_e, xI_e, xZ_e, xK_e, aN_e, aC_e, cR_e, cV_e, cA_e, cO_e, cN_e, bs_e, bn_e, zg_0, zg_S, sS_e, sX_e, sF_e, sG_e, sA_e, sE_e, sEo_e, sK_e, sQ_e, sI_e, sR_e, sV_e, sB_e, sC_e, sD_e, sN_e, sP_e, sY_e, st_0, st_S, zc_0, zc_S, h, rb_1, hat, e1, r1, d1, r2, r3, v_within_t w1, e2, h1, r4, d2, r5, v_within_f w2, rb_0, Bool.not_true, Bool.not_false, Bool.false_eq_true, if_false, if_true]
  rfl
theorem v_rlEv3 {σ σ1 σ2 τ : zHp} {E a0 a1 a2 a3 v w a4 : Int} {t : Nat} {e : List Int} {r : Int} (h : m_X9_isCode [37, 103, E] σ = some (1, σ)) (hat : σ 37 10 = a0) (e1 : o_iadd a0 1 = a1) (d1 : m_X9_digitAt [37, a1, E] (zput σ 37 10 a1) = some (v, zput σ 37 10 a1)) (w1 : 2 ≤ v ∧ v ≤ 5) (e2 : o_iadd a1 1 = a2) (h1 : zput (zput (zput σ 37 10 a1) 37 11 v) 37 10 a2 = σ1) (d2 : m_X9_digitAt [37, a2, E] σ1 = some (w, σ1)) (w2 : 2 ≤ w ∧ w ≤ 6) (e3 : o_iadd a2 1 = a3) (h2 : zput (zput σ1 37 12 w) 37 10 a3 = σ2)
    (hl : sW lc_X9_readLand_2 lf_X9_readLand_2 ls_X9_readLand_2 [37, E, 0, 0, 0] σ2 = some (t, e, τ)) (hq : (t = 1 ∧ e = [0] ∧ r = 0) ∨ (t = 0 ∧ (∃ k : Int, e = [37, E, k, 0, 0]) ∧ τ 37 10 = a4 ∧ r = if a4 = E then 1 else 0)) : m_X9_readLand [37, E] σ = some (r, τ) := by
  have r1 : zput σ 37 10 a1 37 10 = a1 := zput_self _ _ _ _
  have r2 : zput (zput σ 37 10 a1) 37 11 v 37 11 = v := zput_self _ _ _ _
  have r3 : zput (zput σ 37 10 a1) 37 11 v 37 10 = a1 := by rw [zput_i (by decide), zput_self]
  have r4 : σ1 37 10 = a2 := by rw [← h1, zput_self]
  have r5 : zput σ1 37 12 w 37 12 = w := zput_self _ _ _ _
  have r6 : zput σ1 37 12 w 37 10 = a2 := by rw [zput_i (by decide)]; exact r4
  rcases hq with ⟨rfl, rfl, rfl⟩ | ⟨rfl, ⟨k, rfl⟩, q1, rfl⟩
  · simp only [e_X9_readLand, d_X9_readLand, xC_e, xL_e, xU_e, xB_e, xD_e, xF_e, xG_e, xA_e, xE_e, xH_e, xI_e, xZ_e, xK_e, aN_e, aC_e, cR_e, cV_e, cA_e, cO_e, cN_e, bs_e, bn_e, zg_0, zg_S, sS_e, sX_e, sF_e, sG_e, sA_e, sE_e, sEo_e, sK_e, sQ_e, sI_e, sR_e, sV_e, sB_e, sC_e, sD_e, sN_e, sP_e, sY_e, st_0, st_S, zc_0, zc_S, h, rb_1, hat, e1, r1, d1, r2, r3, v_within_t w1, e2, h1, r4, d2, r5, v_within_t w2, r6, e3, h2, hl, Bool.not_true, Bool.false_eq_true, if_false, if_true]
    rfl
  · simp only [e_X9_readLand, d_X9_readLand, xC_e, xL_e, xU_e, xB_e, xD_e, xF_e, xG_e, xA_e, xE_e, xH_e, xI_e, xZ_e, xK_e, aN_e, aC_e, cR_e, cV_e, cA_e, cO_e, cN_e, bs_e, bn_e, zg_0, zg_S, sS_e, sX_e, sF_e, sG_e, sA_e, sE_e, sEo_e, sK_e, sQ_e, sI_e, sR_e, sV_e, sB_e, sC_e, sD_e, sN_e, sP_e, sY_e, st_0, st_S, zc_0, zc_S, r_eq, r_ne, r_lt, r_le, r_gt, r_ge, rb_ite, rb_0, rb_1, h, rb_1, hat, e1, r1, d1, r2, r3, v_within_t w1, e2, h1, r4, d2, r5, v_within_t w2, r6, e3, h2, hl, q1, Bool.not_true, Bool.false_eq_true, if_false, if_true]
    show some ((if decide (τ 37 10 = E) = true then (1 : Int) else 0), τ) = _
    rw [q1]
    by_cases p : a4 = E
    · rw [decide_eq_true p, if_pos p]; rfl
    · rw [decide_eq_false p, if_neg p]; rfl
theorem v_rl {σ : zHp} {f : Int} {n : Nat} {V : Nat → Int} (hf : 0 ≤ f ∧ f + (n : Int) ≤ 240) (hV : ∀ k : Nat, k < n → σ 40 (f + (k : Int)) = V k) (n60 : n ≤ 60) (hat : σ 37 10 = f) : ∃ (r : Int) (τ : zHp), m_X9_readLand [37, f + (n : Int)] σ = some (r, τ) ∧ zRe σ τ ∧ ((r = 0 ∧ ∃ q : Nat, τ 37 10 = f + (q : Int) ∧ zFp V n q ∧ ¬ (q = n ∧ 2 < n ∧ n = 3 + zHi V * (1 + zWi V))) ∨
    (r = 1 ∧ (∀ j, j < n → zGo V j = true) ∧ (2 < n ∧ n = 3 + zHi V * (1 + zWi V)) ∧ τ 37 11 = (zHi V : Int) ∧ τ 37 12 = (zWi V : Int) ∧ ∀ c : Nat, c < zWi V * zHi V → τ 43 c = zHt V (zWi V) c)) := by
  have hat0 : σ 37 10 = f + ((0 : Nat) : Int) := by rw [hat]; simp
  have c0 := v_code (x := σ) (c := 103) hat0 hf hV
  have i1 : o_iadd f 1 = f + ((1 : Nat) : Int) := w32_id ⟨by omega, by omega⟩
  have i2 : o_iadd (f + ((1 : Nat) : Int)) 1 = f + ((2 : Nat) : Int) := by
    have : o_iadd (f + ((1 : Nat) : Int)) 1 = f + ((1 : Nat) : Int) + 1 := w32_id ⟨by omega, by omega⟩
    omega
  have i3 : o_iadd (f + ((2 : Nat) : Int)) 1 = f + ((3 : Nat) : Int) := by
    have : o_iadd (f + ((2 : Nat) : Int)) 1 = f + ((2 : Nat) : Int) + 1 := w32_id ⟨by omega, by omega⟩
    omega
  by_cases y0 : 0 < n ∧ V 0 = 103
  case neg =>
    rw [if_neg y0] at c0
    exact ⟨0, σ, v_rlEv0 c0, zRe.rf σ, Or.inl ⟨rfl, 0, hat0, ⟨fun j hj => absurd hj (Nat.not_lt_zero j), fun z => y0 ⟨z.1, of_decide_eq_true z.2⟩⟩, by omega⟩⟩
  rw [if_pos y0] at c0
  have g0 : zGo V 0 = true := decide_eq_true y0.2
  have d1 := v_dig (x := zput σ 37 10 (f + ((1 : Nat) : Int))) (p := 1) (V := V) hf (fun k hk => by rw [zput_o (by decide)]; exact hV k hk)
  by_cases y1 : 1 < n ∧ 50 ≤ V 1 ∧ V 1 ≤ 53
  case neg =>
    have w1 : ¬ (2 ≤ (if 1 < n ∧ 48 ≤ V 1 ∧ V 1 ≤ 57 then V 1 - 48 else -9) ∧ (if 1 < n ∧ 48 ≤ V 1 ∧ V 1 ≤ 57 then V 1 - 48 else -9) ≤ 5) := by
      by_cases z : 1 < n ∧ 48 ≤ V 1 ∧ V 1 ≤ 57
      · rw [if_pos z]; omega
      · rw [if_neg z]; omega
    have ev := v_rlEv1 c0 hat i1 d1 w1
    refine ⟨0, _, ev, ((zRe.rf σ).put (Or.inl rfl)).put (Or.inr (Or.inl rfl)), Or.inl ⟨rfl, 1, ?_, ⟨fun j hj => ?_, fun z => y1 ⟨z.1, of_decide_eq_true z.2⟩⟩, by omega⟩⟩
    · rw [zput_i (by decide), zput_self]
    · have : j = 0 := by omega
      rw [this]
      exact ⟨y0.1, g0⟩
  have g1 : zGo V 1 = true := decide_eq_true y1.2
  rw [if_pos (show 1 < n ∧ 48 ≤ V 1 ∧ V 1 ≤ 57 by omega)] at d1
  have w1 : 2 ≤ V 1 - 48 ∧ V 1 - 48 ≤ 5 := by omega
  generalize hσ1 : zput (zput (zput σ 37 10 (f + ((1 : Nat) : Int))) 37 11 (V 1 - 48)) 37 10 (f + ((2 : Nat) : Int)) = σ1
  have re1 : zRe σ σ1 := by
    rw [← hσ1]
    exact (((zRe.rf σ).put (Or.inl rfl)).put (Or.inr (Or.inl rfl))).put (Or.inl rfl)
  have d2 := v_dig (x := σ1) (p := 2) (V := V) hf (fun k hk => by rw [re1 40 _ (by decide) (by omega)]; exact hV k hk)
  by_cases y2 : 2 < n ∧ 50 ≤ V 2 ∧ V 2 ≤ 54
  case neg =>
    have w2 : ¬ (2 ≤ (if 2 < n ∧ 48 ≤ V 2 ∧ V 2 ≤ 57 then V 2 - 48 else -9) ∧ (if 2 < n ∧ 48 ≤ V 2 ∧ V 2 ≤ 57 then V 2 - 48 else -9) ≤ 6) := by
      by_cases z : 2 < n ∧ 48 ≤ V 2 ∧ V 2 ≤ 57
      · rw [if_pos z]; omega
      · rw [if_neg z]; omega
    have ev := v_rlEv2 c0 hat i1 d1 w1 i2 hσ1 d2 w2
    refine ⟨0, _, ev, re1.put (Or.inr (Or.inr rfl)), Or.inl ⟨rfl, 2, ?_, ⟨fun j hj => ?_, fun z => y2 ⟨z.1, of_decide_eq_true z.2⟩⟩, by omega⟩⟩
    · rw [zput_i (by decide), ← hσ1, zput_self]
    · rcases (show j = 0 ∨ j = 1 by omega) with z | z
      · rw [z]; exact ⟨y0.1, g0⟩
      · rw [z]; exact ⟨y1.1, g1⟩
  have g2 : zGo V 2 = true := decide_eq_true y2.2
  rw [if_pos (show 2 < n ∧ 48 ≤ V 2 ∧ V 2 ≤ 57 by omega)] at d2
  have w2 : 2 ≤ V 2 - 48 ∧ V 2 - 48 ≤ 6 := by omega
  obtain ⟨hw1, hw2, hw3, hw4, hw5, hw6⟩ := zHW g1 g2
  generalize hσ2 : zput (zput σ1 37 12 (V 2 - 48)) 37 10 (f + ((3 : Nat) : Int)) = σ2
  have re2 : zRe σ σ2 := by
    rw [← hσ2]
    exact (re1.put (Or.inr (Or.inr rfl))).put (Or.inl rfl)
  have s11 : σ2 37 11 = (zHi V : Int) := by rw [← hσ2, zput_i (by decide), zput_i (by decide), ← hσ1, zput_i (by decide), zput_self, hw5]
  have s12 : σ2 37 12 = (zWi V : Int) := by rw [← hσ2, zput_i (by decide), zput_self, hw6]
  have s10 : σ2 37 10 = f + ((3 : Nat) : Int) := by rw [← hσ2, zput_self]
  have pre : ∀ j, j < 3 → j < n ∧ zGo V j = true := fun j hj => by
    rcases (show j = 0 ∨ j = 1 ∨ j = 2 by omega) with z | z | z
    · rw [z]; exact ⟨y0.1, g0⟩
    · rw [z]; exact ⟨y1.1, g1⟩
    · rw [z]; exact ⟨y2.1, g2⟩
  have e30 : 3 + 0 * (zWi V + 1) = 3 := by rw [Nat.zero_mul]
  obtain ⟨t, e, τ, l, l1, l2⟩ := v_rd2 (σ := σ2) (f := f) (n := n) (H := zHi V) (W := zWi V) (M := 3 + zHi V * (1 + zWi V)) (P3 := fun r => 3 + r * (zWi V + 1)) (C0 := fun r => zWi V * r) (V := V) hf (fun k hk => by rw [re2 40 _ (by decide) (by omega)]; exact hV k hk) n60 (by rw [e30]; exact s10) s11 s12 hw2 hw4
    (fun r => by rw [Nat.succ_mul]; generalize r * (zWi V + 1) = z; omega) (fun r => Nat.mul_succ _ _) (Nat.mul_zero _)
    (fun r hr => by
      have m := zTk_c (r := r) (k := zWi V - 1) (W := zWi V) (H := zHi V) hr (by omega) hw2 hw4
      generalize zWi V * r = z at *
      omega)
    (fun r hr => by
      have m := (zGo_p (V := V) hr (j := zWi V) (Nat.le_refl _)).1
      generalize r * (zWi V + 1) = z1 at *
      generalize zHi V * (1 + zWi V) = z2 at *
      omega)
    (fun r k hr hk => by
      have m := zTk_c (r := r) (k := k) (W := zWi V) (H := zHi V) hr hk hw2 hw4
      have x := zTxi m
      have c : o_imul (zWi V : Int) (r : Int) = o_imul (r : Int) (zWi V : Int) := by
        unfold o_imul
        rw [Int.mul_comm]
      rw [c]
      exact x)
    (fun r hr => zGo_s hr) (fun r k hr hk => zGo_d hr hk) (fun r k hr hk => by
      rw [zHt_e hk]
      have e : 4 + r * (zWi V + 1) + k = 3 + r * (zWi V + 1) + 1 + k := by generalize r * (zWi V + 1) = z; omega
      rw [e])
    (fun j hj => pre j (by rw [e30] at hj; exact hj))
  have reτ : zRe σ τ := fun a b q1 q2 => by rw [l1 a b q1 (by omega), re2 a b q1 q2]
  rcases l2 with ⟨rfl, rfl, q, q1, q2, q3⟩ | ⟨rfl, rfl, q1, q2, q3⟩
  · exact ⟨0, τ, v_rlEv3 (a4 := 0) c0 hat i1 d1 w1 i2 hσ1 d2 w2 i3 hσ2 l (Or.inl ⟨rfl, rfl, rfl⟩), reτ, Or.inl ⟨rfl, q, q1, q2, fun z => by rw [← z.2.2, z.1] at q3; exact absurd q3 (Nat.lt_irrefl _)⟩⟩
  · have em : 3 + zHi V * (zWi V + 1) = 3 + zHi V * (1 + zWi V) := by rw [Nat.add_comm 1]
    rw [em] at q1 q2
    have ev := v_rlEv3 (r := if f + ((3 + zHi V * (1 + zWi V) : Nat) : Int) = f + (n : Int) then 1 else 0) c0 hat i1 d1 w1 i2 hσ1 d2 w2 i3 hσ2 l (Or.inr ⟨rfl, ⟨_, rfl⟩, q1, rfl⟩)
    have ge := zGo_e V
    have r11 : τ 37 11 = (zHi V : Int) := by rw [l1 37 11 (by decide) (by decide)]; exact s11
    have r12 : τ 37 12 = (zWi V : Int) := by rw [l1 37 12 (by decide) (by decide)]; exact s12
    clear l l1 hσ1 hσ2 d1 d2
    generalize hM : 3 + zHi V * (1 + zWi V) = M at *
    have le : M ≤ n := by
      rcases Nat.lt_or_ge n M with z | z
      · exact absurd (q2 n z).1 (Nat.lt_irrefl _)
      · exact z
    by_cases z : M = n
    · rw [if_pos (by rw [z])] at ev
      exact ⟨1, τ, ev, reτ, Or.inr ⟨rfl, fun j hj => (q2 j (by omega)).2, ⟨y2.1, z.symm⟩, r11, r12, q3⟩⟩
    · rw [if_neg (by omega)] at ev
      exact ⟨0, τ, ev, reτ, Or.inl ⟨rfl, M, q1, ⟨q2, fun y => by rw [ge] at y; cases y.2⟩, fun y => z y.1⟩⟩
