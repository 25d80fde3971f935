/-! the days -/
theorem zi2s_s : ∀ v : Nat, v < 128 → zi2s (v : Int) = (v : Int) := by decide +kernel
theorem qW.day {σ x : zHp} (h : qW σ x) (b w : Int) : zDay x b w = zDay σ b w := by
  unfold zDay
  rw [h.ff, h.w9, h.gg, h.nb, h.nc, show (fun i : Nat => x 2 i) = (fun i : Nat => σ 2 i) from funext fun i => h.g (a := 2) (by decide) rfl]
theorem qSm_S (f : Nat → Int) (n : Nat) : zSm f (n + 1) = zSm f n + f n := rfl
theorem qSm_0 (f : Nat → Int) : zSm f 0 = 0 := rfl
def qWd (L : Nat) (xs : Nat → Int32) (j : Nat) : Int := qs (zShr (qc L xs 13) (o_imul 6 (j : Int))) 40
theorem qWd_i (L : Nat) (xs : Nat → Int32) (j : Nat) : 0 ≤ qWd L xs j ∧ qWd L xs j ≤ 39 := by
  have := qs_i (v := zShr (qc L xs 13) (o_imul 6 (j : Int))) (n := 40) (by decide)
  unfold qWd
  omega
theorem q_p1 {x : zHp} {i w : Int} (s1 : x 31 1 = 1) (s2 : x 31 2 = 1) (s3 : x 31 3 = 6) (hi : 0 ≤ i ∧ i < 6) (hw : 0 ≤ w ∧ w < 128) : m_X8_put [0, 1, i, w] x = some (1, zput (zput x 0 8 0) 32 i w) := by
  have es : zi2s w = w := by
    have := zi2s_s w.toNat (by omega)
    rw [show ((w.toNat : Nat) : Int) = w by omega] at this
    exact this
  have e3 : x (29 + 2 * 1) 3 = 6 := s3
  have e2 : x (29 + 2 * 1) 2 = 1 := s2
  have e1 : x (29 + 2 * 1) 1 = 1 := s1
  have h1 : (if x (29 + 2 * 1) 2 = 0 then zi2b w else if x (29 + 2 * 1) 2 = 1 then zi2s w else w) = w := by rw [e2, if_neg (by decide), if_pos rfl, es]
  have h2 : 0 ≤ i ∧ i < x (29 + 2 * 1) 3 := by rw [e3]; exact hi
  have h3 : x (29 + 2 * 1) 3 ≤ 60 := by rw [e3]; decide
  have h := c_put (σ := x) (k := 1) (i := i) (v := w) (x := w) (by decide) e1 h2 h3 h1
  rw [show (29 + 2 * 1 + 1 : Int) = 32 by decide] at h
  exact h
section QWEEK
variable {L : Nat} {xs : Nat → Int32}
theorem T_day {V : Nat → Int} {cv : Int} (vi : ∀ j, 0 ≤ V j ∧ V j ≤ 39) (kc : ∀ s, m_L_cell L xs [0, 13] s = some (cv, s)) (kw : ∀ (j : Nat) (s : zHp), m_L_some [zShr cv (o_imul 6 (j : Int)), 40] s = some (V j, s)) {σ x : zHp} (hI : zInv σ) (hq : zGq σ) (h : qW σ x) (hu : qU (zNb σ) (σ 9) x) {n D : Int} {k : Nat} (hk : k < 4) (hcap : zct x + 30 < zcap) (s1 : x 31 1 = 1) (s2 : x 31 2 = 1) (s3 : x 31 3 = 6) (hw : ∀ j : Nat, j < k → x 32 (1 + (j : Int)) = V j) (hs : ∀ b : Int, 0 ≤ b → b < zNb σ → x 40 b = zSm (fun j => zDay σ b (V j)) k) :
    ∃ y, lf_L_law_10 L xs [0, 0, 37, n, (zNc σ : Int), (zNb σ : Int), 38, D, 40, (k : Int), 0, 0, 0, 0, 0, 0, 0] x = some (0, [0, 0, 37, n, (zNc σ : Int), (zNb σ : Int), 38, D, 40, (k : Int), 0, 0, 0, 0, 0, 0, 0], y) ∧ qW σ y ∧ qU (zNb σ) (σ 9) y ∧ zct y ≤ zct x + 30 ∧ (y 31 1 = 1 ∧ y 31 2 = 1 ∧ y 31 3 = 6) ∧ (∀ j : Nat, j < k + 1 → y 32 (1 + (j : Int)) = V j) ∧ ∀ b : Int, 0 ≤ b → b < zNb σ → y 40 b = zSm (fun j => zDay σ b (V j)) (k + 1) := by
  obtain ⟨n1, n2⟩ := zNb_e hI
  obtain ⟨c1, c2⟩ := zNc_e hI
  have wi := vi k
  obtain ⟨w, ew⟩ : ∃ w, w = V k := ⟨_, rfl⟩
  rw [← ew] at wi
  have kw := kw k x
  rw [← ew] at kw
  have ew : V k = w := ew.symm
  have i6 : 0 ≤ 1 + (k : Int) ∧ 1 + (k : Int) < 6 := ⟨by omega, by omega⟩
  have w8 : 0 ≤ w ∧ w < 128 := ⟨by omega, by omega⟩
  have p := q_p1 (x := x) (i := 1 + (k : Int)) (w := w) s1 s2 s3 i6 w8
  have oy := zOk_of k_X8_put h.1 p ⟨zthis, ⟨by omega, by omega⟩, ⟨by omega, by omega⟩, ⟨by omega, by omega⟩, trivial⟩
  have yo : ∀ a b : Int, a ≠ 0 → ¬ (a = 32 ∧ b = 1 + (k : Int)) → zput (zput x 0 8 0) 32 (1 + (k : Int)) w a b = x a b := fun a b q1 q2 => by rw [zput_n q2, zput_o q1]
  have y32 : zput (zput x 0 8 0) 32 (1 + (k : Int)) w 32 (1 + (k : Int)) = w := zput_self _ _ _ _
  have y0 : ∀ a b : Int, zfree a b = false → ¬ (29 ≤ a ∧ a ≤ 36) → zput (zput x 0 8 0) 32 (1 + (k : Int)) w a b = x a b := fun a b q1 q2 => by
    rw [zput_o (by omega), zput_n (fun q => by rw [q.1, q.2] at q1; simp [zfree] at q1)]
  generalize zput (zput x 0 8 0) 32 (1 + (k : Int)) w = y at p oy yo y32 y0
  have wy : qW σ y := ⟨oy, fun j j0 j1 => by rw [yo (29 + 2 * j) 3 (by omega) (by omega)]; exact h.2.1 j j0 j1, fun a b q1 q2 q3 => (y0 a b q1 q2).trans (h.2.2 a b q1 q2 q3)⟩
  have uy : qU (zNb σ) (σ 9) y := hu.cl (fun b => yo 37 b (by decide) (by omega))
  have cy : zct y = zct x := yo (-1) 0 (by decide) (by omega)
  have hP : ∀ b : Int, 0 ≤ b → b < zNb σ → 0 ≤ zSm (fun j => zDay σ b (V j)) k ∧ zSm (fun j => zDay σ b (V j)) k ≤ 90000 := fun b b0 b1 => by
    have := zSm_b (f := fun j => zDay σ b (V j)) (lo := 0) (hi := 18000) k (fun i hi => zDay_b hI ⟨b0, by omega⟩)
    omega
  obtain ⟨z, hl, z1, z2, z3, z4, z5⟩ := zfor0 (c := lc_L_law_9 L xs) (f := lf_L_law_9 L xs) (i := 11) (lo := 0) (σ := y) (zNc σ) (fun c => [0, 0, 37, n, (zNc σ : Int), (zNb σ : Int), 38, D, 40, (k : Int), w, 0 + (c : Int), 0, 0, 0, 0, 0])
    (fun c z => qW σ z ∧ qU (zNb σ) (σ 9) z ∧ zct z = zct y + (c : Int) ∧ (∀ j : Int, z 31 j = y 31 j ∧ z 32 j = y 32 j) ∧ ∀ b : Int, 0 ≤ b → b < zNb σ → z 40 b = zSm (fun j => zDay σ b (V j)) k + zSm (zPo (zFF σ w) (σ 9) (zGG σ w) (zNb σ) (fun i => σ 2 i) b) c)
    ⟨wy, uy, by omega, fun j => ⟨rfl, rfl⟩, fun b b0 b1 => by rw [yo 40 b (by decide) (by omega), hs b b0 b1, qSm_0, Int.add_zero]⟩ (fun k => rfl) (by decide) (by omega)
    (fun c z hc hz => by
      rw [q_lwC9]
      have : (0 + (c : Int) < ((zNc σ : Nat) : Int)) ↔ c < zNc σ := by omega
      simp only [this])
    (fun c z hc hz => by
      obtain ⟨z1, z2, z3, z4, z5⟩ := hz
      obtain ⟨v, v1, v2, v3, v4, v5, v6⟩ := T_dcell (L := L) (xs := xs) hI hq z1 z2 (n := n) (D := D) (k := (k : Int)) hc wi (by omega) hP z5
      rw [z0k]
      exact ⟨_, _, _, v1, Or.inl rfl, rfl, rfl, v2, v3, by omega, fun j => ⟨(v5 j).1.trans (z4 j).1, (v5 j).2.trans (z4 j).2⟩, v6⟩)
  refine ⟨z, q_lwB10 (L := L) (xs := xs) (kc x) rfl kw (w32_id ⟨by omega, by omega⟩) p hl, z1, z2, by omega, ?_, fun j hj => ?_, fun b b0 b1 => ?_⟩
  · rw [(z4 1).1, (z4 2).1, (z4 3).1, yo 31 1 (by decide) (by omega), yo 31 2 (by decide) (by omega), yo 31 3 (by decide) (by omega)]
    exact ⟨s1, s2, s3⟩
  · rw [(z4 _).2]
    by_cases q : j = k
    · rw [q, ew]; exact y32
    · rw [yo 32 _ (by decide) (by omega)]
      exact hw j (by omega)
  · rw [z5 b b0 b1, qSm_S, ew]
    generalize zSm (fun j => zDay σ b (V j)) k = A
    unfold zDay
    rfl
end QWEEK
