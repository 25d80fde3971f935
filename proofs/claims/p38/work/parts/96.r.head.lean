/-! the head of the text -/
theorem q_ptS {x : zHp} {i v : Int} (h : x 29 1 = 1 ∧ x 29 2 = 0 ∧ x 29 3 = 50) (hi : 0 ≤ i ∧ i < 50) (hv : 0 ≤ v ∧ v < 128) : ∃ y, m_X8_put [0, 0, i, v] x = some (1, y) ∧ (y 29 1 = 1 ∧ y 29 2 = 0 ∧ y 29 3 = 50) ∧ y 30 i = v ∧ ∀ a b : Int, ¬ (a = 30 ∧ b = i) → a ≠ 0 → y a b = x a b := by
  refine ⟨zput (zput x 0 8 0) 30 i v, q_pt h.1 h.2.1 h.2.2 hi hv, ⟨?_, ?_, ?_⟩, zput_self _ _ _ _, fun a b h1 h2 => ?_⟩
  · rw [zput_o (by decide), zput_o (by decide)]; exact h.1
  · rw [zput_o (by decide), zput_o (by decide)]; exact h.2.1
  · rw [zput_o (by decide), zput_o (by decide)]; exact h.2.2
  · rw [zput_n h1, zput_o h2]
theorem q_shS (x : zHp) : ∃ y, m_X8_sheet [0, 0, 0, 50] x = some (1, y) ∧ (y 29 1 = 1 ∧ y 29 2 = 0 ∧ y 29 3 = 50) ∧ ∀ a b : Int, a ≠ 0 → a ≠ 29 → a ≠ 30 → y a b = x a b := by
  refine ⟨zfill (zput (zput (zput (zput x 0 8 0) 29 1 1) 29 2 0) 29 3 50) 30 0 60 0, c_sheet (σ := x) (k := 0) (s := 0) (n := 50) (by decide) (by decide) (by decide), ⟨?_, ?_, ?_⟩, fun a b q1 q2 q3 => ?_⟩
  · rw [zfill_o (by decide), zput_i (by decide), zput_i (by decide)]; exact zput_self _ _ _ _
  · rw [zfill_o (by decide), zput_i (by decide)]; exact zput_self _ _ _ _
  · rw [zfill_o (by decide)]; exact zput_self _ _ _ _
  · rw [zfill_o q3, zput_o q2, zput_o q2, zput_o q2, zput_o q1]
theorem q_putHead {s1 : zHp} {H W : Nat} (h5 : H ≤ 5) (h6 : W ≤ 6) (g0 : s1 37 0 = H) (g1 : s1 37 1 = W) : ∃ s2 s3 s4 s5, m_X8_sheet [0, 0, 0, 50] s1 = some (1, s2) ∧ m_X8_put [0, 0, 0, 103] s2 = some (1, s3) ∧ m_X8_put [0, 0, 1, o_iadd 48 (s3 37 0)] s3 = some (1, s4) ∧ m_X8_put [0, 0, 2, o_iadd 48 (s4 37 1)] s4 = some (1, s5) ∧ (s5 29 1 = 1 ∧ s5 29 2 = 0 ∧ s5 29 3 = 50) ∧ (s5 30 0 = 103 ∧ s5 30 1 = 48 + H ∧ s5 30 2 = 48 + W) ∧ ∀ a b : Int, a ≠ 0 → a ≠ 29 → a ≠ 30 → s5 a b = s1 a b := by
  obtain ⟨s2, p1, t29, to⟩ := q_shS s1
  obtain ⟨s3, p2, u29, u30, uo⟩ := q_ptS (i := 0) (v := 103) t29 (by decide) (by decide)
  have e1 : o_iadd 48 (s3 37 0) = 48 + (H : Int) := by
    rw [uo _ _ (by decide) (by decide), to _ _ (by decide) (by decide) (by decide), g0]
    exact w32_id ⟨by omega, by omega⟩
  obtain ⟨s4, p3, v29, v30, vo⟩ := q_ptS (i := 1) (v := 48 + (H : Int)) u29 (by decide) (by omega)
  have e2 : o_iadd 48 (s4 37 1) = 48 + (W : Int) := by
    rw [vo _ _ (by decide) (by decide), uo _ _ (by decide) (by decide), to _ _ (by decide) (by decide) (by decide), g1]
    exact w32_id ⟨by omega, by omega⟩
  obtain ⟨s5, p4, w29, w30, wo⟩ := q_ptS (i := 2) (v := 48 + (W : Int)) v29 (by decide) (by omega)
  refine ⟨s2, s3, s4, s5, p1, p2, by rw [e1]; exact p3, by rw [e2]; exact p4, w29, ⟨?_, ?_, w30⟩, fun a b q1 q2 q3 => ?_⟩
  · rw [wo _ _ (by decide) (by decide), vo _ _ (by decide) (by decide)]; exact u30
  · rw [wo _ _ (by decide) (by decide)]; exact v30
  · rw [wo _ _ (fun q => q3 q.1) q1, vo _ _ (fun q => q3 q.1) q1, uo _ _ (fun q => q3 q.1) q1, to _ _ q1 q2 q3]
