def zM1 (σ : zHp) (kd f t x : Int) : Int := if σ 2 f < σ 2 x ∧ σ 2 t < σ 2 x ∧ kd ≠ 2 then 2 else 1
def zM2 (σ : zHp) (x : Int) : Int := if zpl σ x = 1 then 2 else 1
def zAl (dr dc w : Int) : Int := if w / 10 = 0 then -dr else if w / 10 = 1 then dc else if w / 10 = 2 then dr else -dc
def zWu (a w : Int) : Int := if 0 < a then 10 + w % 10 else if a < 0 then 10 else 1
def zWd (a w : Int) : Int := if 0 < a then 10 else if a < 0 then 10 + w % 10 else 1
theorem zdiv_e {x y : Int} (hx : 0 ≤ x ∧ x < 2147483648) (hy : 0 < y) : zdiv x y = x / y := by
  unfold zdiv
  rw [Int.tdiv_eq_ediv_of_nonneg hx.1]
  have h1 := Int.ediv_nonneg hx.1 (show 0 ≤ y by omega)
  have h2 := Int.ediv_le_self y hx.1
  exact w32_id ⟨by omega, by omega⟩
theorem zmod_e {x y : Int} (hx : 0 ≤ x) : zmod x y = x % y := by
  unfold zmod
  exact Int.tmod_eq_emod_of_nonneg hx
