theorem zPu_eq {σ τ : zHp} (h : τ 1 1 = σ 1 1) (kd f c w : Int) : zPu τ kd f c w = zPu σ kd f c w := by
  unfold zPu
  rw [zRo_eq h, zCo_eq h]
theorem zQd_eq {σ τ : zHp} (h : τ 1 1 = σ 1 1) (h2 : ∀ k, τ 2 k = σ 2 k) (h3 : ∀ k, zpl τ k = zpl σ k) (kd f c w : Int) : zQd τ kd f c w = zQd σ kd f c w := by
  unfold zQd
  rw [zRo_eq h, zCo_eq h, zDn_eq h h2 h3]
