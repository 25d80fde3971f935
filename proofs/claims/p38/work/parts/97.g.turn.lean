/-! a turn's cells -/
theorem T_like {σ x : zHp} (hI : zInv σ) (h : qW σ x) {b c w : Int} (hb : 0 ≤ b ∧ b < σ 6 0) (hc : 0 ≤ c ∧ c < σ 1 2) (hw : 0 ≤ w ∧ w ≤ 39) {A B : Int} (hA : A = σ 9 b * zPP σ w b c) (hB : B = zQQ σ w b c) :
    ∃ u d, m_X8_loud [0, b, c, w, 0] x = some (u, x) ∧ m_X8_loud [0, b, c, w, 1] x = some (d, x) ∧ m_L_isAlike [A, B, u, d] x = some (1, x) := by
  obtain ⟨n1, n2⟩ := zNb_e hI
  obtain ⟨c1, c2⟩ := zNc_e hI
  have B1 := (zPc_I hI hw).2.2.2.2.2 b c hb.1 (by omega) hc.1 (by omega)
  have V := zWt_I hI b hb.1 (by omega)
  refine ⟨_, _, W_loud hI h hb hc hw (q := 0) (by decide), W_loud hI h hb hc hw (q := 1) (by decide), ?_⟩
  rw [if_pos rfl, if_neg (by decide)]
  have e1 : (((zPP σ w b c).toNat : Nat) : Int) = zPP σ w b c := by omega
  have e2 : (((zQQ σ w b c).toNat : Nat) : Int) = zQQ σ w b c := by omega
  have e3 : (((σ 9 b).toNat : Nat) : Int) = σ 9 b := by omega
  have eA : A = (((zPP σ w b c).toNat * (σ 9 b).toNat : Nat) : Int) := by rw [hA, Int.natCast_mul, e1, e3, Int.mul_comm]
  have eB : B = (((zQQ σ w b c).toNat : Nat) : Int) := by rw [hB, e2]
  rw [eA, eB]
  have m := Nat.mul_le_mul (show (zPP σ w b c).toNat ≤ 38 by omega) (show (σ 9 b).toNat ≤ 99 by omega)
  refine q_alike ⟨by omega, by omega⟩ ?_ rfl rfl
  generalize (zPP σ w b c).toNat * (σ 9 b).toNat = z at *
  omega
theorem T_cell {L : Nat} {xs : Nat → Int32} {σ x : zHp} (hI : zInv σ) (hq : zGq σ) (h : qW σ x) (hu : qU (zNb σ) (σ 9) x) {n t w : Int} {c : Nat} (hc : c < zNc σ) (hw : 0 ≤ w ∧ w ≤ 39) (hcap : zct x + 3 < zcap) (hr : ∀ b : Int, 0 ≤ b → b < zNb σ → x 39 b = zSt2 (zRb (zFF σ w) (σ 9) (zGG σ w) (zNb σ) b) c) :
    ∃ y, lf_L_law_2 L xs [0, 0, 37, n, (zNc σ : Int), (zNb σ : Int), 38, t, w, 39, (c : Int), 0, 0, 0, 0, 0, 0] x = some (0, [0, 0, 37, n, (zNc σ : Int), (zNb σ : Int), 38, t, w, 39, (c : Int), 0, 0, 0, 0, 0, 0], y) ∧ qW σ y ∧ qU (zNb σ) (σ 9) y ∧ zct y = zct x + 3 ∧ ∀ b : Int, 0 ≤ b → b < zNb σ → y 39 b = zSt2 (zRb (zFF σ w) (σ 9) (zGG σ w) (zNb σ) b) (c + 1) := by
  obtain ⟨n1, n2⟩ := zNb_e hI
  obtain ⟨c1, c2⟩ := zNc_e hI
  have hc2 : (0 : Int) ≤ (c : Int) ∧ (c : Int) < σ 1 2 := ⟨by omega, by omega⟩
  obtain ⟨y, y1, y2, y3, y4, y5, y6⟩ := W_hear hI hq h hu hc2 hw (by omega)
  have uy : qU (zNb σ) (σ 9) y := hu.cl (fun b => y3 37 b (by decide) (by decide) (by decide))
  generalize hS : (zLI (zFF σ w) (zLd (σ 9) (zGG σ w) (c : Int)) (zNb σ)).2 = S at y6
  obtain ⟨z, hl, z1, z2, z3, z4, z5, z6⟩ := zfor0 (c := lc_L_law_1 L xs) (f := lf_L_law_1 L xs) (i := 12) (lo := 0) (σ := y) (zNb σ) (fun k => [0, 0, 37, n, (zNc σ : Int), (zNb σ : Int), 38, t, w, 39, (c : Int), S, 0 + (k : Int), 0, 0, 0, 0])
    (fun k z => qW σ z ∧ qU (zNb σ) (σ 9) z ∧ zct z = zct y ∧ (∀ b, z 38 b = y 38 b) ∧ (∀ b : Int, 0 ≤ b → b < k → z 39 b = zSt2 (zRb (zFF σ w) (σ 9) (zGG σ w) (zNb σ) b) (c + 1)) ∧ ∀ b : Int, (k : Int) ≤ b → b < zNb σ → z 39 b = zSt2 (zRb (zFF σ w) (σ 9) (zGG σ w) (zNb σ) b) c)
    ⟨y2, uy, rfl, fun _ => rfl, fun b b0 b1 => by omega, fun b b0 b1 => by rw [y3 39 b (by decide) (by decide) (by decide)]; exact hr b (by omega) b1⟩ (fun k => rfl) (by decide) (by omega)
    (fun k z hk hz => by
      rw [q_lwC1]
      have : (0 + (k : Int) < ((zNb σ : Nat) : Int)) ↔ k < zNb σ := by omega
      simp only [this])
    (fun k z hk hz => by
      obtain ⟨z1, z2, z3, z4, z5, z6⟩ := hz
      have hb : 0 ≤ (k : Int) ∧ (k : Int) < σ 6 0 := ⟨by omega, by omega⟩
      obtain ⟨f1, f2⟩ := y5 (k : Int) (by omega) (by omega)
      obtain ⟨u, d, l1, l2, l3⟩ := T_like hI z1 (b := (k : Int)) (c := (c : Int)) (w := w) hb hc2 hw (A := z 38 (k : Int)) (B := z 38 (8 + (k : Int))) (by rw [z4, f1]) (by rw [z4, f2])
      have bit := zLI_b (F := zFF σ w) (W := σ 9) (G := zGG σ w) (n := zNb σ) (by omega) (b := (k : Int)) ⟨by omega, by omega⟩ c
      rw [hS] at bit
      have ge : (if zAnd (zShr S (k : Int)) 1 = 1 then zShl 1 (c : Int) else 0) = (if zRb (zFF σ w) (σ 9) (zGG σ w) (zNb σ) (k : Int) c = true then zShl 1 (c : Int) else 0) := by
        rw [bit]
        by_cases p : zRb (zFF σ w) (σ 9) (zGG σ w) (zNb σ) (k : Int) c = true
        · rw [if_pos p, if_pos rfl, if_pos p]
        · rw [if_neg p, if_neg (by decide), if_neg p]
      obtain ⟨v, hv⟩ : ∃ v, zSt2 (zRb (zFF σ w) (σ 9) (zGG σ w) (zNb σ) (k : Int)) (c + 1) = v := ⟨_, rfl⟩
      have vr : r32 v := by rw [← hv]; exact r32_St2 _ _
      have body := q_lwB1 (L := L) (xs := xs) (υ := z) (n := n) (C := (zNc σ : Int)) (N := (zNb σ : Int)) (t := t) (w := w) (c := (c : Int)) (S := S) (k := (k : Int)) (k8 := 8 + (k : Int)) (v := v) ⟨by omega, by omega⟩ (w32_id ⟨by omega, by omega⟩) ⟨by omega, by omega⟩ rfl rfl l1 l2 l3 ge (by rw [z6 (k : Int) (Int.le_refl _) (by omega), ← hv]; rfl)
      rw [z0k]
      refine ⟨_, _, _, body, Or.inl rfl, rfl, rfl, z1.free (zOk_39 z1.1 ⟨by omega, by omega⟩ vr) (k := 39) (by decide) (fun a b q => zput_o q b), z2.cl (fun b => zput_o (by decide) b), (zct_put (o := 39)).trans z3, fun b => by rw [zput_o (by decide)]; exact z4 b, fun b b0 b1 => ?_, fun b b0 b1 => ?_⟩
      · by_cases q : b = (k : Int)
        · rw [q, zput_self]
          exact hv.symm
        · rw [zput_i q]
          exact z5 b b0 (by omega)
      · rw [zput_i (by omega)]
        exact z6 b (by omega) b1)
  have hl2 : sW (lc_L_law_1 L xs) (lf_L_law_1 L xs) (ls_L_law_1 L xs) [0, 0, 37, n, (zNc σ : Int), (zNb σ : Int), 38, t, w, 39, (c : Int), S, 0, 0, 0, 0, 0] y = some (0, [0, 0, 37, n, (zNc σ : Int), (zNb σ : Int), 38, t, w, 39, (c : Int), S, 0 + (zNb σ : Int), 0, 0, 0, 0], z) := hl
  obtain ⟨u, u1, u2, u3⟩ := W_whose hI z1 hc2 hw
  have uu : qU (zNb σ) (σ 9) u := z2.cl (fun b => u3 37 b (by decide) (by omega))
  have cu : zct u = zct z := u3 (-1) 0 (by decide) (by decide)
  obtain ⟨v, v1, v2, v3, v4⟩ := W_whoseL hI hq u2 (V := σ 9) uu (zWt_I hI) hc2 hw (by omega)
  refine ⟨v, q_lwB2 y1 y6 hl2 u1 v1, v2, uu.cl (fun b => v3 37 b (by decide) (by decide) (by decide)), by omega, fun b b0 b1 => ?_⟩
  rw [v3 39 b (by decide) (by decide) (by decide), u3 39 b (by decide) (by omega)]
  exact z5 b b0 b1
