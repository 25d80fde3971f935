theorem zRe.rf (σ : zHp) : zRe σ σ := fun _ _ _ _ => rfl
theorem zRe.put {σ x : zHp} (h : zRe σ x) {b v : Int} (hb : b = 10 ∨ b = 11 ∨ b = 12) : zRe σ (zput x 37 b v) := fun a c q1 q2 => by rw [zput_n (by omega)]; exact h a c q1 q2
