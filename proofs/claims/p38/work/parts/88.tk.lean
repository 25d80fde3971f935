theorem zTxd {V : Nat → Int} {n : Nat} (hn : n = 3 + zHi V * (1 + zWi V)) (hgo : ∀ k, k < n → zGo V k = true) {r k : Nat} (hr : r < zHi V) (hk : k < zWi V) : 4 + r * (zWi V + 1) + k < n ∧ 48 ≤ V (4 + r * (zWi V + 1) + k) ∧ V (4 + r * (zWi V + 1) + k) ≤ 57 := by
  have m1 : (r + 1) * (zWi V + 1) ≤ zHi V * (zWi V + 1) := Nat.mul_le_mul_right _ hr
  have m2 : (r + 1) * (zWi V + 1) = r * (zWi V + 1) + (zWi V + 1) := Nat.succ_mul _ _
  have m3 : zHi V * (1 + zWi V) = zHi V * (zWi V + 1) := by rw [Nat.add_comm]
  have lt : 4 + r * (zWi V + 1) + k < n := by
    rw [hn, m3]
    generalize zHi V * (zWi V + 1) = z1 at *
    generalize (r + 1) * (zWi V + 1) = z2 at *
    generalize r * (zWi V + 1) = z3 at *
    omega
  have g := hgo _ lt
  have md : (4 + r * (zWi V + 1) + k - 3) % (1 + zWi V) = k + 1 := by
    have e : 4 + r * (zWi V + 1) + k - 3 = (1 + zWi V) * r + (k + 1) := by
      rw [Nat.mul_comm (1 + zWi V) r, Nat.add_comm 1 (zWi V)]
      generalize r * (zWi V + 1) = z3
      omega
    rw [e]
    exact (zdm (by omega)).2
  rw [zGo3 (by omega), Bool.and_eq_true, md, if_neg (by omega)] at g
  exact ⟨lt, of_decide_eq_true g.2⟩
theorem zTxi {W r k : Nat} (h : W * r + k < 30) : o_iadd (o_imul (r : Int) (W : Int)) (k : Int) = ((W * r + k : Nat) : Int) := by
  have c : ((W * r : Nat) : Int) = (r : Int) * (W : Int) := by rw [Int.natCast_mul, Int.mul_comm]
  have e : o_imul (r : Int) (W : Int) = ((W * r : Nat) : Int) := by
    show w32 _ = _
    rw [← c]
    generalize W * r = z at *
    exact w32_id ⟨by omega, by omega⟩
  rw [e]
  clear c e
  generalize W * r = z at *
  have : o_iadd (z : Int) (k : Int) = (z : Int) + (k : Int) := w32_id ⟨by omega, by omega⟩
  omega
theorem zTxj {W r : Nat} {i : Int} (hr : r ≤ 5) (hW : W ≤ 6) (hi : 0 ≤ i ∧ i ≤ 60) : o_iadd (o_iadd i 4) (o_imul (r : Int) (o_iadd (W : Int) 1)) = i + ((4 + r * (W + 1) : Nat) : Int) := by
  have rW : r * (W + 1) ≤ 5 * 7 := Nat.mul_le_mul (by omega) (by omega)
  have c : ((r * (W + 1) : Nat) : Int) = (r : Int) * ((W : Int) + 1) := by rw [Int.natCast_mul, Int.natCast_add]; rfl
  have a1 : o_iadd (W : Int) 1 = (W : Int) + 1 := w32_id ⟨by omega, by omega⟩
  have a2 : o_iadd i 4 = i + 4 := w32_id ⟨by omega, by omega⟩
  have e : o_imul (r : Int) ((W : Int) + 1) = ((r * (W + 1) : Nat) : Int) := by
    show w32 _ = _
    rw [← c]
    clear c
    generalize r * (W + 1) = z at *
    exact w32_id ⟨by omega, by omega⟩
  rw [a1, a2, e]
  clear c e a1 a2
  generalize r * (W + 1) = z at *
  have : o_iadd (i + 4) (z : Int) = i + 4 + (z : Int) := w32_id ⟨by omega, by omega⟩
  omega
theorem zTk_c {r k W H : Nat} (hr : r < H) (hk : k < W) (h5 : H ≤ 5) (h6 : W ≤ 6) : W * r + k < 30 := by
  have m1 : W * (r + 1) ≤ 6 * 5 := Nat.mul_le_mul h6 (by omega)
  have m2 : W * (r + 1) = W * r + W := Nat.mul_succ _ _
  generalize W * (r + 1) = z at *
  generalize W * r = y at *
  omega
theorem w_tkc {B y : zHp} {o i : Int} {V : Nat → Int} {H W r k : Nat} (o5 : 30 ≤ o) (h5 : H ≤ 5) (h6 : W ≤ 6) (hr : r < H) (hk : k < W) (B11 : B 1 1 = (W : Int)) (p60 : 0 ≤ i ∧ i + ((4 + r * (W + 1) + k : Nat) : Int) < 60) (hv : B o (i + ((4 + r * (W + 1) + k : Nat) : Int)) = V (4 + r * (W + 1) + k)) (dig : 48 ≤ V (4 + r * (W + 1) + k) ∧ V (4 + r * (W + 1) + k) ≤ 57) (hy : zTk B y V W (W * r + k)) :
    ∃ z, lf_X3_take_2 [1, o, i, (r : Int), (k : Int), 0, 0] y = some (0, [1, o, i, (r : Int), (k : Int), 0, 0], z) ∧ zTk B z V W (W * r + k + 1) := by
  obtain ⟨y1, y2, y3⟩ := hy
  have c30 := zTk_c hr hk h5 h6
  have e1 := zTxi c30
  have e2 := zTxj (W := W) (r := r) (i := i) (Nat.le_of_lt (Nat.lt_of_lt_of_le hr h5)) h6 ⟨p60.1, Int.le_of_lt (Int.lt_of_le_of_lt (Int.le_add_of_nonneg_right (Int.natCast_nonneg _)) p60.2)⟩
  have ht := zHt_e (V := V) (W := W) (r := r) hk
  have dm := zdm (r := r) hk
  have y11 : y 1 1 = (W : Int) := by
    rw [y1 1 1 (by decide) (by decide) (by decide) (by decide)]
    exact B11
  generalize W * r + k = c at *
  generalize hp : 4 + r * (W + 1) = p at *
  clear hp
  have yo : y o (i + ((p + k : Nat) : Int)) = V (p + k) := by
    rw [y1 o _ (by omega) (by omega) (by omega) (by omega)]
    exact hv
  have e3 : o_iadd (i + (p : Int)) (k : Int) = i + ((p + k : Nat) : Int) := by
    have : o_iadd (i + (p : Int)) (k : Int) = i + (p : Int) + (k : Int) := w32_id ⟨by omega, by omega⟩
    omega
  have dv : o_isub (V (p + k)) 48 = zHt V W c := by
    rw [ht]
    exact w32_id ⟨by omega, by omega⟩
  have dn : (((V (p + k) - 48).toNat : Nat) : Int) = zHt V W c := by
    rw [ht]
    omega
  obtain ⟨z, l1, l2, l3⟩ := w_tk1 (σ := zput (zput (zput y 3 (c : Int) (r : Int)) 4 (c : Int) (k : Int)) 2 (c : Int) (zHt V W c)) (c := c) c30 (d := (V (p + k) - 48).toNat) (by rw [zput_self, dn]) (by omega) o i (r : Int) (k : Int)
  have body := w_tk2Body (υ := y) (o := o) (f := i) (r := (r : Int)) (k := (k : Int)) (W := (W : Int)) (c := (c : Int)) y11 e1 (by omega) e2 e3 (by omega) o5 yo dv l1
  refine ⟨z, body, fun a b h1 h2 h3 h4 => by rw [l2 a b h4, zput_o h1, zput_o h3, zput_o h2]; exact y1 a b h1 h2 h3 h4, fun j hj => ?_, fun h h0 h1 => ?_⟩
  · rw [l2 2 _ (by decide), l2 3 _ (by decide), l2 4 _ (by decide)]
    by_cases q : j = c
    · subst q
      rw [zput_self, zput_o (by decide), zput_o (by decide), zput_self, zput_o (by decide), zput_self, dm.1, dm.2]
      exact ⟨rfl, rfl, rfl⟩
    · rw [zput_i (by omega), zput_o (by decide), zput_o (by decide), zput_o (by decide), zput_o (by decide), zput_i (by omega), zput_o (by decide), zput_i (by omega), zput_o (by decide)]
      exact y2 j (by omega)
  · rw [l3 h h0 h1, zput_o (by decide), zput_o (by decide), zput_o (by decide), y3 h h0 h1, dn]
    exact zSt2_S (f := fun c => decide (h < zHt V W c)) rfl
theorem w_tkr {B x : zHp} {o i : Int} {V : Nat → Int} {H W r : Nat} (o5 : 30 ≤ o) (h5 : H ≤ 5) (h6 : W ≤ 6) (hr : r < H) (B11 : B 1 1 = (W : Int)) (hi : 0 ≤ i) (hv : ∀ k, k < W → i + ((4 + r * (W + 1) + k : Nat) : Int) < 60 ∧ B o (i + ((4 + r * (W + 1) + k : Nat) : Int)) = V (4 + r * (W + 1) + k) ∧ 48 ≤ V (4 + r * (W + 1) + k) ∧ V (4 + r * (W + 1) + k) ≤ 57) (hx : zTk B x V W (W * r)) :
    ∃ y, sW lc_X3_take_2 lf_X3_take_2 ls_X3_take_2 [1, o, i, (r : Int), 0, 0, 0] x = some (0, [1, o, i, (r : Int), 0 + (W : Int), 0, 0], y) ∧ zTk B y V W (W * (r + 1)) := by
  have key := zfor0 (c := lc_X3_take_2) (f := lf_X3_take_2) (i := 4) (lo := 0) (σ := x) W (fun k => [1, o, i, (r : Int), 0 + (k : Int), 0, 0]) (fun k y => zTk B y V W (W * r + k)) hx (fun k => rfl) (by decide) (by omega)
    (fun k y hk hy => zc_lt (i := 4) (x := 0 + (k : Int)) rfl (zx_G (N := (W : Int)) (by rw [hy.1 1 1 (by decide) (by decide) (by decide) (by decide)]; exact B11)) (by omega))
    (fun k y hk hy => by
      obtain ⟨g1, g2, g3⟩ := hv k hk
      obtain ⟨z, z1, z2⟩ := w_tkc o5 h5 h6 hr hk B11 ⟨hi, g1⟩ g2 g3 hy
      rw [z0k, z0k]
      exact ⟨_, _, _, z1, Or.inl rfl, rfl, rfl, z2⟩)
  obtain ⟨y, l, hy⟩ := key
  refine ⟨y, l, ?_⟩
  rw [Nat.mul_succ]
  exact hy
theorem zHWi {H W : Nat} (h5 : H ≤ 5) (h6 : W ≤ 6) : o_imul (H : Int) (W : Int) = ((H * W : Nat) : Int) := by
  have m : H * W ≤ 5 * 6 := Nat.mul_le_mul h5 h6
  have c : ((H * W : Nat) : Int) = (H : Int) * (W : Int) := Int.natCast_mul _ _
  show w32 _ = _
  rw [← c]
  clear c
  generalize H * W = z at *
  exact w32_id ⟨by omega, by omega⟩
theorem w_tk {σ : zHp} {o i : Int} {n : Nat} {V : Nat → Int} (o5 : 30 ≤ o) (hV : ∀ k : Nat, k < n → σ o (i + (k : Int)) = V k) (hi : 0 ≤ i ∧ i + (n : Int) ≤ 60) (hn : n = 3 + zHi V * (1 + zWi V)) (hgo : ∀ k, k < n → zGo V k = true) : ∃ τ, m_X3_take [1, o, i] σ = some (0, τ) ∧ zTk (zput (zput (zput (zput σ 1 0 (zHi V : Int)) 1 1 (zWi V : Int)) 1 2 ((zHi V * zWi V : Nat) : Int)) 1 3 0) τ V (zWi V) (zWi V * zHi V) ∧ ∀ c : Nat, c < zWi V * zHi V → 0 ≤ zHt V (zWi V) c ∧ zHt V (zWi V) c ≤ 9 := by
  have n3 : 3 ≤ n := by omega
  obtain ⟨hw1, hw2, hw3, hw4, hw5, hw6⟩ := zHW (hgo 1 (by omega)) (hgo 2 (by omega))
  have hdig := fun (r k : Nat) (hr : r < zHi V) (hk : k < zWi V) => zTxd hn hgo hr hk
  have v1 := hV 1 (by omega)
  have v2 := hV 2 (by omega)
  generalize hB : zput (zput (zput (zput σ 1 0 (zHi V : Int)) 1 1 (zWi V : Int)) 1 2 ((zHi V * zWi V : Nat) : Int)) 1 3 0 = B
  have B11 : B 1 1 = (zWi V : Int) := by rw [← hB, zput_i (by decide), zput_i (by decide), zput_self]
  have B10 : B 1 0 = (zHi V : Int) := by rw [← hB, zput_i (by decide), zput_i (by decide), zput_i (by decide), zput_self]
  have Bo : ∀ j : Int, B o j = σ o j := fun j => by rw [← hB, zput_o (by omega), zput_o (by omega), zput_o (by omega), zput_o (by omega)]
  generalize hX : zfill B 5 0 10 0 = X
  have X0 : zTk B X V (zWi V) 0 := by
    refine ⟨fun a b _ _ _ h => by rw [← hX, zfill_o h], fun c hc => absurd hc (Nat.not_lt_zero c), fun h h0 h1 => ?_⟩
    rw [← hX, zfill_y ⟨rfl, by omega, by omega⟩]
    rfl
  clear hgo
  obtain ⟨τ, l, ht⟩ := zfor0 (c := lc_X3_take_3) (f := lf_X3_take_3) (i := 3) (lo := 0) (σ := X) (zHi V) (fun k => [1, o, i, 0 + (k : Int), 0, 0, 0]) (fun k y => zTk B y V (zWi V) (zWi V * k)) X0 (fun k => rfl) (by decide) (by omega)
    (fun k y hk hy => zc_lt (i := 3) (x := 0 + (k : Int)) rfl (zx_G (N := (zHi V : Int)) (by rw [hy.1 1 0 (by decide) (by decide) (by decide) (by decide)]; exact B10)) (by omega))
    (fun k y hk hy => by
      obtain ⟨z, z1, z2⟩ := w_tkr (r := k) o5 hw2 hw4 hk B11 hi.1 (fun j hj => by
        obtain ⟨d1, d2⟩ := hdig k j hk hj
        refine ⟨?_, by rw [Bo]; exact hV _ d1, d2⟩
        generalize 4 + k * (zWi V + 1) + j = p at *
        omega) hy
      have body := w_tk3Body z1
      rw [z0k, z0k]
      exact ⟨_, _, _, body, Or.inl rfl, rfl, rfl, z2⟩)
  have hw5' : o_isub (V 1) 48 = (zHi V : Int) := by rw [hw5]; exact w32_id ⟨by omega, by omega⟩
  have hw6' : o_isub (V 2) 48 = (zWi V : Int) := by rw [hw6]; exact w32_id ⟨by omega, by omega⟩
  refine ⟨τ, w_tkEval (H := (zHi V : Int)) (W := (zWi V : Int)) (C := ((zHi V * zWi V : Nat) : Int)) o5 (w32_id (x := i + 1) ⟨by omega, by omega⟩) (w32_id (x := i + 2) ⟨by omega, by omega⟩) (by omega) (by omega) v1 v2 hw5' hw6' (zHWi hw2 hw4) (by rw [hB, hX]; exact l), ht, fun c hc => ?_⟩
  have W0 : 0 < zWi V := by omega
  have m := Nat.mod_lt c W0
  have hr : c / zWi V < zHi V := (Nat.div_lt_iff_lt_mul W0).mpr (by rw [Nat.mul_comm]; exact hc)
  have d := (hdig (c / zWi V) (c % zWi V) hr m).2
  unfold zHt
  generalize V (4 + c / zWi V * (zWi V + 1) + c % zWi V) = v at *
  exact ⟨by omega, by omega⟩
