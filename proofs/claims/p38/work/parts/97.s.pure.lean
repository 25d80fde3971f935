/-! the law answers true -/
theorem q_sh1 (x : zHp) : ∃ y, m_X8_sheet [0, 1, 1, 6] x = some (1, y) ∧ q31 y ∧ ∀ a b : Int, ¬ (a = 0 ∧ b = 8) → a ≠ 31 → a ≠ 32 → y a b = x a b := by
  have h := c_sheet (σ := x) (k := 1) (s := 1) (n := 6) (by decide) (by decide) (by decide)
  rw [show (29 + 2 * 1 + 1 : Int) = 32 by decide, show (29 + 2 * 1 : Int) = 31 by decide] at h
  refine ⟨_, h, ⟨?_, ?_, ?_⟩, fun a b q1 q2 q3 => ?_⟩
  · rw [zfill_o (by decide), zput_i (by decide), zput_i (by decide)]; exact zput_self _ _ _ _
  · rw [zfill_o (by decide), zput_i (by decide)]; exact zput_self _ _ _ _
  · rw [zfill_o (by decide)]; exact zput_self _ _ _ _
  · rw [zfill_o q3, zput_o q2, zput_o q2, zput_o q2, zput_n q1]
theorem zw_pure {L : Nat} {xs : Nat → Int32} (hL : L ≤ 260) : ∃ τ, d_L_law L xs [0, 0, 37, 0, 0, 0, 0, 0, 0, 0, 0, 0, 0, 0, 0, 0, 0] zsig0 = some (1, [1], τ) := by
  obtain ⟨H, W, y1, h5, h6, hm, s29, s30, s37, rows, rest⟩ := q_put L xs zsig0
  have oy := zOk_of (k_L_put (L := L) (xs := xs) (by omega)) zOk_0 hm ⟨zthis, trivial, z32_00, ⟨rfl, by decide, by decide⟩, trivial⟩
  have hS : zIS y1 := fun k k0 k1 => by
    by_cases q : k = 0
    · subst q
      rw [show (29 + 2 * 0 : Int) = 29 by decide, s29.2.2]
      decide
    · rw [rest (29 + 2 * k) 3 (by omega) (by omega) (by omega) (by omega)]
      exact ⟨Int.le_refl 0, (show (0 : Int) ≤ 60 by decide)⟩
  have n6 : ¬ qA W H < 6 := by
    rw [qA_n]
    have := Nat.mul_le_mul h5.1 (show 3 ≤ 1 + W by omega)
    generalize H * (1 + W) = q at *
    omega
  have ce := zHWi h5.2 h6.2
  have C0 : 2 * 2 ≤ H * W := Nat.mul_le_mul h5.1 h6.1
  obtain ⟨A, hl, IA, gA, A12, A13, A60, A102, eA⟩ := q_landed oy hS h5 h6 s29 s30 s37 rows
  rw [← s37.1, ← s37.2.1] at ce
  generalize qA W H = n at hm n6 hl
  generalize hCn : ((H * W : Nat) : Int) = C at hl A12 ce
  have Cp : 0 < C := by omega
  have e37 : ∀ k, A 37 k = y1 37 k := fun k => eA 37 k (fun q => absurd q.1 (by decide)) (by decide) (by decide) (by decide) (by decide) (by decide) (fun q => absurd q.1 (by decide)) (fun q => absurd q.1 (by decide)) (fun q => absurd q.1 (by decide))
  have cA : A (-1) 0 = 0 := by
    rw [eA (-1) 0 (by decide) (by decide) (by decide) (by decide) (by decide) (by decide) (by decide) (by decide) (by decide), rest (-1) 0 (by decide) (by decide) (by decide) (by decide)]
    rfl
  obtain ⟨N, z, N6, hc, zI, zq, z12, z60, z41, zu, zm⟩ := q_come (L := L) (xs := xs) Cp ⟨IA, gA, A12, A102, by rw [e37]; exact s37.2.2.1, A60, by rw [e37]; exact s37.2.2.2.2, fun b b0 b1 => by omega⟩
  obtain ⟨n1, n2⟩ := zNb_e zI
  obtain ⟨c1, c2⟩ := zNc_e zI
  have hC : o_imul (y1 37 0) (y1 37 1) = (zNc z : Int) := by omega
  have hN : z 37 41 = (zNb z : Int) := by omega
  have hl : m_X8_land [0, 0, 0, 0, n] y1 = some ((zNc z : Int), A) := by rw [hl, c1, z12]
  have uz : qU (zNb z) (z 9) z := fun b b0 b1 => zu b b0 (by omega)
  have cz : zct z = 0 := zm.trans cA
  have zc : zcap = 100000 := rfl
  obtain ⟨f1, f2, f3⟩ := (qW.rf zI).fr (k := 38) (by decide) (Or.inr rfl) (show zct z < zcap by omega)
  generalize hf1 : zfresh z ((38 : Nat) : Int) = f at f1 f2 f3
  obtain ⟨y4, l6, w4, u4, c4⟩ := T_turns (L := L) (xs := xs) zI zq f1 (uz.cl f2) (by omega) (n := n) (by omega)
  have kc := q_cell L xs (k := 12) (by decide) y4
  have kd := q_some (v := qc L xs 12) (n := 5) (by decide) y4
  obtain ⟨d0, d1⟩ := qs_i (v := qc L xs 12) (n := 5) (by decide)
  generalize qs (qc L xs 12) 5 = D0 at kd d0 d1
  generalize qc L xs 12 = cv at kc kd
  obtain ⟨D, rfl⟩ : ∃ D : Nat, D0 = (D : Int) := ⟨D0.toNat, by omega⟩
  obtain ⟨y5, h6s, q5, e5⟩ := q_sh1 y4
  have o5 := zOk_of k_X8_sheet w4.1 h6s ⟨zthis, ⟨by decide, by decide⟩, ⟨by decide, by decide⟩, ⟨by decide, by decide⟩, trivial⟩
  have w5 : qW z y5 := by
    refine ⟨o5, fun k k0 k1 => ?_, fun a b q1 q2 q3 => ?_⟩
    · by_cases q : k = 1
      · subst q
        rw [show (29 + 2 * 1 : Int) = 31 by decide, q5.2.2]
        decide
      · rw [e5 (29 + 2 * k) 3 (by omega) (by omega) (by omega)]
        exact w4.2.1 k k0 k1
    · rw [e5 a b (fun q => by rw [q.1, q.2] at q1; simp [zfree] at q1) (by omega) (by omega)]
      exact w4.2.2 a b q1 q2 q3
  have u5 : qU (zNb z) (z 9) y5 := u4.cl (fun b => e5 37 b (by omega) (by decide) (by decide))
  have c5 : zct y5 = zct y4 := e5 (-1) 0 (by decide) (by decide) (by decide)
  obtain ⟨g1, g2, g3⟩ := w5.fr (k := 40) (by decide) (Or.inr rfl) (show zct y5 < zcap by omega)
  have g40 : ∀ b, zfresh y5 ((40 : Nat) : Int) 40 b = 0 := fun b => zfresh_k y5 40 b
  have g31 : q31 (zfresh y5 ((40 : Nat) : Int)) := ⟨by rw [zfresh_f (by decide) (by decide)]; exact q5.1, by rw [zfresh_f (by decide) (by decide)]; exact q5.2.1, by rw [zfresh_f (by decide) (by decide)]; exact q5.2.2⟩
  generalize hf2 : zfresh y5 ((40 : Nat) : Int) = g at g1 g2 g3 g40 g31
  obtain ⟨V, vi, kw⟩ : ∃ V : Nat → Int, (∀ j, 0 ≤ V j ∧ V j ≤ 39) ∧ ∀ (j : Nat) (s : zHp), m_L_some [zShr (qc L xs 13) (o_imul 6 (j : Int)), 40] s = some (V j, s) := ⟨qWd L xs, qWd_i L xs, fun j s => q_some (by decide) s⟩
  have kc13 := q_cell L xs (k := 13) (by decide)
  generalize qc L xs 13 = cv2 at kw kc13
  obtain ⟨y7, l10, w7, u7, c7, s7, v7, t7⟩ := T_days (L := L) (xs := xs) vi kc13 kw zI zq g1 (u5.cl g2) (n := n) (D := D) (by omega) (by omega) g31.1 g31.2.1 g31.2.2 g40
  obtain ⟨y8, l11, w8, s8⟩ := T_tithes (L := L) (xs := xs) vi zI w7 (n := n) (C := (zNc z : Int)) (D := D) (by omega) s7 v7 t7
  obtain ⟨y9, h9⟩ := T_last (x := y8) (n := n) (C := (zNc z : Int)) (N := (zNb z : Int)) (D := (D : Int)) (by omega) (by omega) (by rw [w8.g (a := 6) (by decide) rfl]; omega) (by rw [w8.g (a := 1) (by decide) rfl]; omega) s8
  exact ⟨y9, q_lawEv (y6 := y5) hm hC n6 hl hc hN (by omega) hf1 l6 kc kd h6s (by omega) hf2 l10 l11 h9⟩
