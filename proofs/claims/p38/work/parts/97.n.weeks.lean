/-! all days -/
section QWEEK
variable {L : Nat} {xs : Nat → Int32}
theorem T_days {V : Nat → Int} {cv : Int} (vi : ∀ j, 0 ≤ V j ∧ V j ≤ 39) (kc : ∀ s, m_L_cell L xs [0, 13] s = some (cv, s)) (kw : ∀ (j : Nat) (s : zHp), m_L_some [zShr cv (o_imul 6 (j : Int)), 40] s = some (V j, s)) {σ x : zHp} (hI : zInv σ) (hq : zGq σ) (h : qW σ x) (hu : qU (zNb σ) (σ 9) x) {n : Int} {D : Nat} (hD : D ≤ 4) (hcap : zct x + 150 < zcap) (s1 : x 31 1 = 1) (s2 : x 31 2 = 1) (s3 : x 31 3 = 6) (hs : ∀ b : Int, x 40 b = 0) :
    ∃ y, sW (lc_L_law_10 L xs) (lf_L_law_10 L xs) (ls_L_law_10 L xs) [0, 0, 37, n, (zNc σ : Int), (zNb σ : Int), 38, (D : Int), 40, 0, 0, 0, 0, 0, 0, 0, 0] x = some (0, [0, 0, 37, n, (zNc σ : Int), (zNb σ : Int), 38, (D : Int), 40, 0 + (D : Int), 0, 0, 0, 0, 0, 0, 0], y) ∧ qW σ y ∧ qU (zNb σ) (σ 9) y ∧ zct y ≤ zct x + 150 ∧ (y 31 1 = 1 ∧ y 31 2 = 1 ∧ y 31 3 = 6) ∧ (∀ j : Nat, j < D → y 32 (1 + (j : Int)) = V j) ∧ ∀ b : Int, 0 ≤ b → b < zNb σ → y 40 b = zSm (fun j => zDay σ b (V j)) D := by
  obtain ⟨y, hl, y1, y2, y3, y4, y5, y6⟩ := zfor0 (c := lc_L_law_10 L xs) (f := lf_L_law_10 L xs) (i := 9) (lo := 0) (σ := x) D (fun k => [0, 0, 37, n, (zNc σ : Int), (zNb σ : Int), 38, (D : Int), 40, 0 + (k : Int), 0, 0, 0, 0, 0, 0, 0])
    (fun k y => qW σ y ∧ qU (zNb σ) (σ 9) y ∧ zct y ≤ zct x + 30 * (k : Int) ∧ (y 31 1 = 1 ∧ y 31 2 = 1 ∧ y 31 3 = 6) ∧ (∀ j : Nat, j < k → y 32 (1 + (j : Int)) = V j) ∧ ∀ b : Int, 0 ≤ b → b < zNb σ → y 40 b = zSm (fun j => zDay σ b (V j)) k)
    ⟨h, hu, by omega, ⟨s1, s2, s3⟩, fun j hj => by omega, fun b _ _ => hs b⟩ (fun k => rfl) (by decide) (by omega)
    (fun k y hk hy => by
      rw [q_lwC10]
      have : (0 + (k : Int) < (D : Int)) ↔ k < D := by omega
      simp only [this])
    (fun k y hk hy => by
      obtain ⟨y1, y2, y3, ⟨y4, y5, y6⟩, y7, y8⟩ := hy
      obtain ⟨z, z1, z2, z3, z4, z5, z6, z7⟩ := T_day (L := L) (xs := xs) vi kc kw hI hq y1 y2 (n := n) (D := (D : Int)) (k := k) (by omega) (by omega) y4 y5 y6 y7 y8
      rw [z0k]
      exact ⟨_, _, _, z1, Or.inl rfl, rfl, rfl, z2, z3, by omega, z5, z6, z7⟩)
  exact ⟨y, hl, y1, y2, by omega, y4, y5, y6⟩
end QWEEK
