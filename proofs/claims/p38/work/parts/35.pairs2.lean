theorem zput_put (σ : zHp) (o i v w : Int) : zput (zput σ o i v) o i w = zput σ o i w := by
  funext a b
  unfold zput
  split <;> rfl
def z31 (t n : Int) : Int := o_iadd (o_imul 31 t) n
theorem zput_id (σ : zHp) (o i : Int) : zput σ o i (σ o i) = σ := by
  funext a b
  unfold zput
  split
  · next h => rw [h.1, h.2]
  · rfl
