/-! the tithes -/
section QWEEK
variable {L : Nat} {xs : Nat → Int32}
theorem T_tithes {V : Nat → Int} (vi : ∀ j, 0 ≤ V j ∧ V j ≤ 39) {σ x : zHp} (hI : zInv σ) (h : qW σ x) {n C : Int} {D : Nat} (hD : D ≤ 4) (s : x 31 1 = 1 ∧ x 31 2 = 1 ∧ x 31 3 = 6) (hw : ∀ j : Nat, j < D → x 32 (1 + (j : Int)) = V j) (hs : ∀ b : Int, 0 ≤ b → b < zNb σ → x 40 b = zSm (fun j => zDay σ b (V j)) D) :
    ∃ y, sW (lc_L_law_11 L xs) (lf_L_law_11 L xs) (ls_L_law_11 L xs) [0, 0, 37, n, C, (zNb σ : Int), 38, (D : Int), 40, 0, 0, 0, 0, 0, 0, 0, 0] x = some (0, [0, 0, 37, n, C, (zNb σ : Int), 38, (D : Int), 40, 0 + (zNb σ : Int), 0, 0, 0, 0, 0, 0, 0], y) ∧ qW σ y ∧ (y 31 1 = 1 ∧ y 31 2 = 1 ∧ y 31 3 = 6) := by
  obtain ⟨n1, n2⟩ := zNb_e hI
  obtain ⟨y, hl, y1, y2, y3, y4⟩ := zfor0 (c := lc_L_law_11 L xs) (f := lf_L_law_11 L xs) (i := 9) (lo := 0) (σ := x) (zNb σ) (fun k => [0, 0, 37, n, C, (zNb σ : Int), 38, (D : Int), 40, 0 + (k : Int), 0, 0, 0, 0, 0, 0, 0])
    (fun k y => qW σ y ∧ (∀ j : Int, y 31 j = x 31 j) ∧ (∀ j : Int, y 32 j = x 32 j) ∧ ∀ j : Int, y 40 j = x 40 j)
    ⟨h, fun _ => rfl, fun _ => rfl, fun _ => rfl⟩ (fun k => rfl) (by decide) (by omega)
    (fun k y hk hy => by
      rw [q_lwC11]
      have : (0 + (k : Int) < ((zNb σ : Nat) : Int)) ↔ k < zNb σ := by omega
      simp only [this])
    (fun k y hk hy => by
      obtain ⟨y1, y2, y3, y4⟩ := hy
      have hb : 0 ≤ (k : Int) ∧ (k : Int) < σ 6 0 := ⟨by omega, by omega⟩
      obtain ⟨u, u1, u2, u3⟩ := T_tithe vi hI y1 hD (b := (k : Int)) (q := 0) hb (by decide) (by rw [y2, y2, y2]; exact s) (fun j hj => by rw [y3]; exact hw j hj)
      obtain ⟨v, v1, v2, v3⟩ := T_tithe vi hI u2 hD (b := (k : Int)) (q := 1) hb (by decide) (by rw [u3 31 _ (by decide) (by decide) (by decide), u3 31 _ (by decide) (by decide) (by decide), u3 31 _ (by decide) (by decide) (by decide), y2, y2, y2]; exact s) (fun j hj => by rw [u3 32 _ (by decide) (by decide) (by decide), y3]; exact hw j hj)
      rw [if_pos rfl] at u1
      rw [if_neg (by decide)] at v1
      have sb := zSm_b (f := fun j => zDay σ (k : Int) (V j)) (lo := 0) (hi := 18000) D (fun i hi => zDay_b hI hb)
      have sk : y 40 (k : Int) = zSm (fun j => zDay σ (k : Int) (V j)) D := by rw [y4]; exact hs (k : Int) (by omega) (by omega)
      have al := q_alike (σ := v) (a := (zSm (fun j => zDay σ (k : Int) (V j)) D).toNat) (b := 60) (by decide) (by omega) rfl rfl
      rw [show (((zSm (fun j => zDay σ (k : Int) (V j)) D).toNat : Nat) : Int) = zSm (fun j => zDay σ (k : Int) (V j)) D by omega] at al
      have body := q_lwB11 (L := L) (xs := xs) (n := n) (C := C) (N := (zNb σ : Int)) (D := (D : Int)) (b := (k : Int)) ⟨hb.1, by omega⟩ sk u1 v1 al
      rw [z0k]
      refine ⟨_, _, _, body, Or.inl rfl, rfl, rfl, v2, fun j => ?_, fun j => ?_, fun j => ?_⟩
      · rw [v3 31 j (by decide) (by decide) (by decide), u3 31 j (by decide) (by decide) (by decide), y2]
      · rw [v3 32 j (by decide) (by decide) (by decide), u3 32 j (by decide) (by decide) (by decide), y3]
      · rw [v3 40 j (by decide) (by decide) (by decide), u3 40 j (by decide) (by decide) (by decide), y4])
  exact ⟨y, hl, y1, by rw [y2, y2, y2]; exact s⟩
end QWEEK
