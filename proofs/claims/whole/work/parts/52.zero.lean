theorem zs0 {a b : Int} (h : a ≠ 38) : zsig0 a b = 0 := by
  unfold zsig0
  rw [if_neg h]
theorem zInv_0 : zInv zsig0 := by
  have n12 : zsig0 1 2 = 0 := zs0 (by decide)
  have n60 : zsig0 6 0 = 0 := zs0 (by decide)
  refine ⟨zOk_0, ⟨rfl, rfl⟩, ⟨Or.inl ⟨rfl, rfl⟩, rfl, rfl, rfl⟩, ?_, ?_, ?_, ⟨rfl, by decide, by decide⟩, ⟨rfl, by decide, by decide, ?_⟩, ?_, ⟨rfl, by decide, by decide, ?_⟩, ?_⟩
  · intro c h0 h1
    rw [n12] at h1
    omega
  · intro h h0 h1 c hc
    rw [zs0 (by decide), n12, zbt0, decide_eq_false (by omega)]
  · intro c hc
    rw [zs0 (by decide), n12, zbt0, decide_eq_false (by omega)]
  · intro b h0 h1
    rw [n60] at h1
    omega
  · intro b c h0 h1
    rw [n60] at h1
    omega
  · intro k h0 h1
    rw [zs0 (by decide)] at h1
    omega
  · intro k h0 h1
    have e38 : zsig0 38 k = -9 := by
      unfold zsig0
      rw [if_pos rfl, if_pos ⟨h0, h1⟩]
    refine ⟨Or.inr ⟨zs0 (by omega), e38⟩, ?_, ?_, ?_, fun i i0 i1 => ?_⟩
    · rw [zs0 (by decide), zs0 (by omega)]
    · rw [zs0 (by decide)]; decide
    · rw [zs0 (by decide)]; decide
    · rw [zs0 (by decide), zs0 (by omega)]
