/-! the law's bells, plants and ear: all of them -/
theorem zGm_s {σ τ : zHp} (h : zGm σ) (h0 : τ 37 0 = σ 37 0) (h1 : τ 37 1 = σ 37 1) (h3 : ∀ k : Int, 0 ≤ k → k < 30 → τ 37 (3 + k) = σ 37 (3 + k)) (h40 : τ 37 40 = σ 37 40) (hC : σ 1 2 ≤ 30) (k1 : ∀ k, τ 1 k = σ 1 k) (k2 : ∀ k, τ 2 k = σ 2 k) : zGm τ :=
  ⟨by rw [h0, k1]; exact h.1, by rw [h1, k1]; exact h.2.1, fun c c0 c1 => by rw [k1] at c1; rw [h3 c c0 (by omega), k2]; exact h.2.2.1 c c0 c1, by rw [h40, k1]; exact h.2.2.2⟩
section QCOME
variable {L : Nat} {xs : Nat → Int32}
theorem q_cm1 {y : zHp} {C N k : Int} (hC : 0 < C) (hk : 0 ≤ k ∧ k < 6) (h : qCm C k y) :
    ∃ z, lf_L_come_1 L xs [0, 0, 4, 6, 37, C, N, k, 0, 0] y = some (0, [0, 0, 4, 6, 37, C, N, k, 0, 0], z) ∧ qCm C (k + 1) z ∧ z (-1) 0 = y (-1) 0 := by
  obtain ⟨hI, hg, h12, h10, h2, h6, h41, hb⟩ := h
  have hN := zN_eq hI.2.2.1
  have k1e : o_iadd (o_iadd 4 1) (zmod k 3) = 5 + k % 3 := by
    rw [zmod_e (by omega)]
    have : o_iadd 4 1 = 5 := w32_id ⟨by decide, by decide⟩
    rw [this]
    exact w32_id ⟨by omega, by omega⟩
  have hcv := q_cell L xs (k := 5 + k % 3) (by omega) y
  generalize qc L xs (5 + k % 3) = cv at hcv
  generalize ve : zShr cv (o_imul (zdiv k 3) 15) = v
  have e1 : o_iadd 42 k = 42 + k := w32_id ⟨by omega, by omega⟩
  have e2 : o_iadd 48 k = 48 + k := w32_id ⟨by omega, by omega⟩
  have e3 : o_iadd 54 k = 54 + k := w32_id ⟨by omega, by omega⟩
  have hkd := q_some (v := v) (n := 3) (by decide) y
  obtain ⟨a1, a2⟩ := qs_i (v := v) (n := 3) (by decide)
  generalize qs v 3 = kd at hkd a1 a2
  have hI1 := zInv_p37 hI (i := 42 + k) (v := kd) (by omega) ⟨by omega, by omega⟩
  generalize y1e : zput y 37 (42 + k) kd = y1 at hI1
  have hc := q_some (v := zShr v 2) (n := C) hC y1
  obtain ⟨b1, b2⟩ := qs_i (v := zShr v 2) (n := C) hC
  generalize qs (zShr v 2) C = c at hc b1 b2
  have hI2 := zInv_p37 hI1 (i := 48 + k) (v := c) (by omega) ⟨by omega, by omega⟩
  generalize y2e : zput y1 37 (48 + k) c = y2 at hI2
  have ht := q_some (v := zShr v 14) (n := 3) (by decide) y2
  generalize qs (zShr v 14) 3 = t at ht
  generalize ne : (if t = 0 then (99 : Int) else 20) = n
  have n0 : 0 < n := by rw [← ne]; split <;> decide
  have n9 : n ≤ 99 := by rw [← ne]; split <;> decide
  have hw := q_some (v := zShr v 7) n0 y2
  obtain ⟨d1, d2⟩ := qs_i (v := zShr v 7) n0
  generalize qs (zShr v 7) n = w at hw d1 d2
  have w1e : o_iadd 1 w = 1 + w := w32_id ⟨by omega, by omega⟩
  have hI3 := zInv_p37 hI2 (i := 54 + k) (v := 1 + w) (by omega) ⟨by omega, by omega⟩
  generalize y3e : zput y2 37 (54 + k) (1 + w) = y3 at hI3
  have r1 : y3 37 (42 + k) = kd := by rw [← y3e, zput_i (by omega), ← y2e, zput_i (by omega), ← y1e, zput_self]
  have r2 : y3 37 (48 + k) = c := by rw [← y3e, zput_i (by omega), ← y2e, zput_self]
  have r3 : y3 37 (54 + k) = 1 + w := by rw [← y3e, zput_self]
  have ro : ∀ a b : Int, a ≠ 37 → y3 a b = y a b := fun a b q => by rw [← y3e, zput_o q, ← y2e, zput_o q, ← y1e, zput_o q]
  have rg : ∀ j : Int, j ≠ 42 + k → j ≠ 48 + k → j ≠ 54 + k → y3 37 j = y 37 j := fun j q1 q2 q3 => by rw [← y3e, zput_i q3, ← y2e, zput_i q2, ← y1e, zput_i q1]
  obtain ⟨z, z1, z2, z3, z4, ⟨z7, z8, z9⟩, zb⟩ := c_bell hI3 (kd := kd) (c := c) (w := 1 + w) ⟨a1, by omega⟩ ⟨b1, by rw [ro 1 2 (by decide), h12]; exact b2⟩ ⟨by omega, by omega⟩ (by rw [ro 6 0 (by decide), h6]; exact hk.2)
  have y6 : y3 6 0 = k := by rw [ro 6 0 (by decide), h6]
  rw [y6] at z1 z4 z7 z8 z9 zb
  have z41 : o_iadd (z 37 41) 1 = k + 1 := by
    rw [z3 37 41 (by decide) (by decide) (by decide) (by decide) (by decide), rg 41 (by omega) (by omega) (by omega), h41]
    exact w32_id ⟨by omega, by omega⟩
  have body := q_cmB1 (L := L) (xs := xs) (N := N) k1e hcv ve e1 e2 e3 ⟨by omega, by omega⟩ ⟨by omega, by omega⟩ ⟨by omega, by omega⟩ hkd y1e hc y2e ht ne hw w1e y3e r1 r2 r3 z1 z41
  have zo : ∀ a b : Int, a ≠ 37 → a ≠ 11 → a ≠ 7 → a ≠ 8 → a ≠ 9 → a ≠ 6 → z a b = y a b := fun a b q q1 q2 q3 q4 q5 => by rw [z3 a b q1 q2 q3 q4 q5, ro a b q]
  have zg3 : ∀ j : Int, z 37 j = y3 37 j := fun j => z3 37 j (by decide) (by decide) (by decide) (by decide) (by decide)
  refine ⟨_, body, ⟨zInv_p37 z2 (by decide) ⟨by omega, by omega⟩, ?_, ?_, ?_, ?_, ?_, zput_self _ _ _ _, fun b p0 p1 => ?_⟩, ?_⟩
  · refine zGm_s hg ?_ ?_ (fun j j0 j1 => ?_) ?_ (by omega) (fun j => ?_) (fun j => ?_)
    · rw [zput_i (by decide), zg3, rg _ (by omega) (by omega) (by omega)]
    · rw [zput_i (by decide), zg3, rg _ (by omega) (by omega) (by omega)]
    · rw [zput_i (by omega), zg3, rg _ (by omega) (by omega) (by omega)]
    · rw [zput_i (by decide), zg3, rg _ (by omega) (by omega) (by omega)]
    · rw [zput_o (by decide), zo 1 j (by decide) (by decide) (by decide) (by decide) (by decide) (by decide)]
    · rw [zput_o (by decide), zo 2 j (by decide) (by decide) (by decide) (by decide) (by decide) (by decide)]
  · rw [zput_o (by decide), zo 1 2 (by decide) (by decide) (by decide) (by decide) (by decide) (by decide), h12]
  · rw [zput_o (by decide), zo 10 2 (by decide) (by decide) (by decide) (by decide) (by decide) (by decide), h10]
  · rw [zput_i (by decide), zg3, rg _ (by omega) (by omega) (by omega), h2]
  · rw [zput_o (by decide), z4]
  · have u37 : ∀ j : Int, j ≠ 41 → zput z 37 41 (k + 1) 37 j = y3 37 j := fun j q => by rw [zput_i q, zg3]
    have uo : ∀ a j : Int, a ≠ 37 → zput z 37 41 (k + 1) a j = z a j := fun a j q => zput_o q j
    rw [u37 _ (by omega), u37 _ (by omega), u37 _ (by omega), uo 7 b (by decide), uo 8 b (by decide), uo 9 b (by decide)]
    by_cases q : b = k
    · rw [q, r1, r2, r3]
      exact ⟨z7.symm, z8.symm, z9.symm⟩
    · obtain ⟨f1, f2, f3⟩ := zb b q
      obtain ⟨g1, g2, g3⟩ := hb b p0 (by omega)
      rw [f1, f2, f3, rg _ (by omega) (by omega) (by omega), rg _ (by omega) (by omega) (by omega), rg _ (by omega) (by omega) (by omega), ro 7 b (by decide), ro 8 b (by decide), ro 9 b (by decide)]
      exact ⟨g1, g2, g3⟩
  · rw [zput_o (by decide), zo (-1) 0 (by decide) (by decide) (by decide) (by decide) (by decide) (by decide)]
theorem zOr_in {x c : Int} (hx : r32 x) (hc : 0 ≤ c ∧ c < 32) (h : zt x c.toNat = true) : zOr x (zShl 1 c) = x := by
  refine zt_ext (z32_rt _) hx (fun i hi => ?_)
  rw [zt_or, zt_bit_i hc]
  by_cases q : (i : Int) = c
  · have : i = c.toNat := by omega
    rw [this, h]
    rfl
  · rw [decide_eq_false q, Bool.or_false]
theorem q_cm2 {y : zHp} {C N M k : Int} (hC : 0 < C) (hk : 0 ≤ k ∧ k < 6) (hM : 0 ≤ M ∧ M ≤ 6) (h : qCm C M y) :
    ∃ z, lf_L_come_2 L xs [0, 0, 4, 6, 37, C, N, k, 0, 0] y = some (0, [0, 0, 4, 6, 37, C, N, k, 0, 0], z) ∧ qCm C M z ∧ z (-1) 0 = y (-1) 0 := by
  obtain ⟨hI, hg, h12, h10, h2, h6, h41, hb⟩ := h
  have hN := zN_eq hI.2.2.1
  have h1 := q_cell L xs (Int.le_refl 0) y
  have hx4 := q_cell L xs (k := 4) (by decide) y
  generalize qc L xs 4 = x4 at hx4
  generalize se : o_iadd 6 (o_imul 4 k) = s
  have h3 := q_some (v := zShr x4 s) (n := C) hC y
  obtain ⟨b1, b2⟩ := qs_i (v := zShr x4 s) (n := C) hC
  generalize qs (zShr x4 s) C = c at h3 b1 b2
  have c32 : 0 ≤ c ∧ c < 32 := by omega
  have g40 := hg.2.2.2
  have bit : zAnd (zShr (y 37 40) c) 1 = 1 ↔ zpl y c = 1 := by
    rw [g40, zbit_i c32]
    unfold zpl
    exact Iff.rfl
  have gr : r32 (y 1 3) := hI.1.1 1 3
  have key : ∃ z, m_X8_plant [0, c, 1] y = some (if (if zAnd (zShr (y 37 40) c) 1 = 1 then (1 : Int) else 0) = 1 then 0 else 1, z) ∧ zInv z ∧ (∀ a b : Int, a ≠ 11 → ¬ (a = 1 ∧ b = 3) → z a b = y a b) ∧ z 1 3 = zOr (y 1 3) (zShl 1 c) := by
    by_cases q : zpl y c = 1
    · rw [if_pos (bit.mpr q), if_pos rfl]
      refine ⟨y, c_plant1 hI ⟨b1, by rw [h12]; exact b2⟩ q, hI, fun _ _ _ _ => rfl, ?_⟩
      have qt := bit.mpr q
      rw [g40, zbit_i c32] at qt
      by_cases w : zt (y 1 3) c.toNat = true
      · exact (zOr_in gr c32 w).symm
      · rw [if_neg w] at qt
        exact absurd qt (by decide)
    · rw [if_neg (fun w => q (bit.mp w)), if_neg (by decide)]
      exact c_plant0 hI ⟨b1, by rw [h12]; exact b2⟩ q
  obtain ⟨z, z1, z2, z3, z4⟩ := key
  have zr : r32 (z 1 3) := z2.1.1 1 3
  have ge : zOr (z 37 40) (zShl 1 c) = z 1 3 := by
    rw [z3 37 40 (by decide) (by decide), z4, g40]
  have body := q_cmB2 (L := L) (xs := xs) (N := N) (k := k) hx4 se h3 rfl z1 ge
  have zo : ∀ a b : Int, a ≠ 11 → a ≠ 1 → z a b = y a b := fun a b q1 q2 => z3 a b q1 (fun q => q2 q.1)
  refine ⟨_, body, ⟨zInv_p37 z2 (by decide) zr, ⟨?_, ?_, fun j j0 j1 => ?_, ?_⟩, ?_, ?_, ?_, ?_, ?_, fun b p0 p1 => ?_⟩, ?_⟩
  · rw [zput_i (by decide), zput_o (by decide), zo 37 0 (by decide) (by decide), z3 1 0 (by decide) (by decide)]; exact hg.1
  · rw [zput_i (by decide), zput_o (by decide), zo 37 1 (by decide) (by decide), z3 1 1 (by decide) (by decide)]; exact hg.2.1
  · rw [zput_o (by decide), z3 1 2 (by decide) (by decide)] at j1
    rw [zput_i (by omega), zput_o (by decide), zo 37 _ (by decide) (by decide), zo 2 j (by decide) (by decide)]; exact hg.2.2.1 j j0 j1
  · rw [zput_self, zput_o (by decide)]
  · rw [zput_o (by decide), z3 1 2 (by decide) (by decide), h12]
  · rw [zput_o (by decide), zo 10 2 (by decide) (by decide), h10]
  · rw [zput_i (by decide), zo 37 2 (by decide) (by decide), h2]
  · rw [zput_o (by decide), zo 6 0 (by decide) (by decide), h6]
  · rw [zput_i (by decide), zo 37 41 (by decide) (by decide), h41]
  · have u37 : ∀ j : Int, j ≠ 40 → zput z 37 40 (z 1 3) 37 j = y 37 j := fun j q => by rw [zput_i q, zo 37 j (by decide) (by decide)]
    have uo : ∀ a j : Int, a ≠ 37 → a ≠ 11 → a ≠ 1 → zput z 37 40 (z 1 3) a j = y a j := fun a j q q1 q2 => by rw [zput_o q j, zo a j q1 q2]
    rw [u37 _ (by omega), u37 _ (by omega), u37 _ (by omega), uo 7 b (by decide) (by decide) (by decide), uo 8 b (by decide) (by decide) (by decide), uo 9 b (by decide) (by decide) (by decide)]
    exact hb b p0 p1
  · rw [zput_o (by decide), zo (-1) 0 (by decide) (by decide)]
end QCOME
