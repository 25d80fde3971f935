/-! a tithe -/
theorem T_tithe {V : Nat → Int} (vi : ∀ j, 0 ≤ V j ∧ V j ≤ 39) {σ x : zHp} (hI : zInv σ) (h : qW σ x) {D : Nat} (hD : D ≤ 4) {b q : Int} (hb : 0 ≤ b ∧ b < σ 6 0) (hq : 0 ≤ q ∧ q ≤ 1) (s : x 31 1 = 1 ∧ x 31 2 = 1 ∧ x 31 3 = 6) (hw : ∀ j : Nat, j < D → x 32 (1 + (j : Int)) = V j) :
    ∃ y, m_X8_tithes [0, b, 1, 1, 1, (D : Int), q] x = some (if q = 0 then (((zSm (fun j => zDay σ b (V j)) D).toNat / Nat.gcd (zSm (fun j => zDay σ b (V j)) D).toNat 60 : Nat) : Int) else ((60 / Nat.gcd (zSm (fun j => zDay σ b (V j)) D).toNat 60 : Nat) : Int), y) ∧ qW σ y ∧ (∀ a j : Int, a ≠ 0 → a ≠ 10 → a ≠ 12 → y a j = x a j) := by
  have hB := (zI3 hI).2.2.1
  have ag : zAg x 1 1 1 (D : Int) = 0 := by
    unfold zAg
    rw [if_neg (show ¬ x (29 + 2 * 1) 1 = 0 by rw [show x (29 + 2 * 1) 1 = 1 from s.1]; decide), if_pos (show x (29 + 2 * 1) 2 = 1 from s.2.1), if_neg (by omega), if_pos]
    rw [show x (29 + 2 * 1) 3 = 6 from s.2.2]
    omega
  obtain ⟨y, y1, y2⟩ := c_tithes (h.inv hI) (b := b) (s := 1) (so := 1) (i := 1) (n := (D : Int)) (q := q) (N := D) (V := V) rfl (by rw [h.g (a := 6) (by decide) rfl]; exact hb) (by decide) (by decide) hq ag (fun k hk => hw k hk) (fun k _ => vi k)
  have e : (fun k => zDay x b (V k)) = (fun k => zDay σ b (V k)) := funext fun k => h.day b _
  rw [e] at y1
  have oy := zOk_of k_X8_tithes h.1 y1 ⟨zthis, ⟨by omega, by omega⟩, ⟨by decide, by decide⟩, ⟨by decide, by decide⟩, ⟨by decide, by decide⟩, ⟨by omega, by omega⟩, ⟨by omega, by omega⟩, trivial⟩
  exact ⟨y, y1, h.st oy ((zSame_08 x 0).tr y2.same), fun a j q1 q2 q3 => by rw [y2 a j q3 (fun z => q2 z.1), zput_o q1]⟩
