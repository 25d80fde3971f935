theorem zSt2_S {f : Nat → Bool} {k : Nat} {P : Prop} [Decidable P] (h : f k = decide P) : (if P then zOr (zSt2 f k) (zShl 1 (k : Int)) else zSt2 f k) = zSt2 f (k + 1) := by
  show _ = zOr (zSt2 f k) (if f k = true then zShl 1 (k : Int) else 0)
  rw [h]
  by_cases p : P
  · rw [if_pos p, if_pos (decide_eq_true p)]
  · rw [if_neg p, decide_eq_false p, if_neg (by decide), zOr_0 (r32_St2 f k)]
