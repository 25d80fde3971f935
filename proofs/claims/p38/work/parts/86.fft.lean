theorem zTxm {V : Nat → Int} (hw : zHi V ≤ 5 ∧ zWi V ≤ 6) : o_iadd 3 (o_imul (zHi V : Int) (1 + (zWi V : Int))) = ((3 + zHi V * (1 + zWi V) : Nat) : Int) ∧ zHi V * (1 + zWi V) ≤ 35 := by
  have m1 : zHi V * (1 + zWi V) ≤ 5 * 7 := Nat.mul_le_mul (by omega) (by omega)
  have c : ((zHi V * (1 + zWi V) : Nat) : Int) = (zHi V : Int) * (1 + (zWi V : Int)) := by rw [Int.natCast_mul, Int.natCast_add]; rfl
  refine ⟨?_, m1⟩
  have e1 : o_imul (zHi V : Int) (1 + (zWi V : Int)) = ((zHi V * (1 + zWi V) : Nat) : Int) := by
    rw [c]
    refine w32_id ?_
    rw [← c]
    generalize zHi V * (1 + zWi V) = z at *
    exact ⟨by omega, by omega⟩
  rw [e1]
  generalize zHi V * (1 + zWi V) = z at *
  have : o_iadd 3 (z : Int) = 3 + (z : Int) := w32_id ⟨by omega, by omega⟩
  omega
theorem zTxr {V : Nat → Int} {k : Nat} (k3 : 3 ≤ k) (hk : k ≤ 100) : zmod (o_isub (k : Int) 3) (1 + (zWi V : Int)) = (((k - 3) % (1 + zWi V) : Nat) : Int) := by
  have e1 : o_isub (k : Int) 3 = ((k - 3 : Nat) : Int) := by
    have : o_isub (k : Int) 3 = (k : Int) - 3 := w32_id ⟨by omega, by omega⟩
    omega
  rw [e1, show (1 : Int) + (zWi V : Int) = ((1 + zWi V : Nat) : Int) by omega]
  exact zmod_n _ _
theorem zGo_k {V : Nat → Int} {k : Nat} (k3 : 3 ≤ k) (vr : r32 (V k)) : ((k : Int) < ((3 + zHi V * (1 + zWi V) : Nat) : Int) ∧ ((((((k - 3) % (1 + zWi V) : Nat)) : Int) = 0 ∧ V k = 59) ∨ (((((k - 3) % (1 + zWi V) : Nat)) : Int) ≠ 0 ∧ 0 ≤ o_isub (V k) 48 ∧ o_isub (V k) 48 ≤ 9))) ↔ zGo V k = true := by
  have w := (w48 vr).2.2.1
  rw [zGo3 k3, Bool.and_eq_true, decide_eq_true_eq, w]
  generalize (k - 3) % (1 + zWi V) = r
  generalize 3 + zHi V * (1 + zWi V) = m
  clear w
  by_cases z : r = 0
  · rw [if_pos z, decide_eq_true_eq]
    constructor
    · rintro ⟨y1, y2 | y2⟩
      · exact ⟨by omega, y2.2⟩
      · omega
    · rintro ⟨y1, y2⟩
      exact ⟨by omega, Or.inl ⟨by omega, y2⟩⟩
  · rw [if_neg z, decide_eq_true_eq]
    constructor
    · rintro ⟨y1, y2 | y2⟩
      · omega
      · exact ⟨by omega, y2.2⟩
    · rintro ⟨y1, y2⟩
      exact ⟨by omega, Or.inr ⟨by omega, y2⟩⟩
theorem w_ffk {υ : zHp} {o i n : Int} {V : Nat → Int} {k : Nat} (k3 : 3 ≤ k) (hk : i + (k : Int) < 60) (hi : 0 ≤ i) (hv : υ o (i + (k : Int)) = V k) (vr : r32 (V k)) (h1 : zGo V 1 = true) (h2 : zGo V 2 = true) : lf_X3_firstFault_1 [1, o, i, n, (zHi V : Int), 1 + (zWi V : Int), (k : Int), 0, 0, 0] υ = if zGo V k = true then some (0, [1, o, i, n, (zHi V : Int), 1 + (zWi V : Int), (k : Int), 0, 0, 0], υ) else some (1, [(k : Int)], υ) := by
  have hw := zHW h1 h2
  have em := (zTxm (V := V) ⟨hw.2.1, hw.2.2.2.1⟩).1
  have er := zTxr (V := V) k3 (by omega)
  have body := w_ff3 (υ := υ) (o := o) (n := n) (a := (zHi V : Int)) (b := 1 + (zWi V : Int)) (f := i) (k := (k : Int)) (v := V k) (d := o_isub (V k) 48) (x := i + (k : Int)) (by omega) (by omega) (by omega) (w32_id ⟨by omega, by omega⟩) (by omega) hv rfl em (by omega) er
  rw [body]
  have iff := zGo_k k3 vr
  by_cases p : zGo V k = true
  · rw [if_pos p, if_pos (iff.mpr p)]
  · rw [if_neg p, if_neg (fun z => p (iff.mp z))]
/-- the class's first fault -/
theorem w_fft {σ : zHp} {o i : Int} {n : Nat} {V : Nat → Int} (hV : ∀ k : Nat, k < n → σ o (i + (k : Int)) = V k ∧ r32 (V k)) (hi : 0 ≤ i ∧ i + (n : Int) ≤ 60) : ∃ q, zFp V n q ∧ m_X3_firstFault [1, o, i, (n : Int)] σ = some (if q = n ∧ 2 < n ∧ n = 3 + zHi V * (1 + zWi V) then -9 else (q : Int), σ) := by
  have lx := zfor (c := lc_X3_firstFault_1) (f := lf_X3_firstFault_1) (i := 6) (lo := 0) (σ := σ) n (fun k => [1, o, i, (n : Int), if k ≤ 1 then 0 else (zHi V : Int), if k ≤ 2 then 1 else 1 + (zWi V : Int), 0 + (k : Int), 0, 0, 0]) (fun k x => x = σ ∧ ∀ j, j < k → zGo V j = true)
    (fun t e x => x = σ ∧ ((t = 1 ∧ ∃ q : Nat, q < n ∧ zFp V n q ∧ e = [(q : Int)]) ∨ (t = 0 ∧ (∀ j, j < n → zGo V j = true) ∧ e = [1, o, i, (n : Int), if n ≤ 1 then 0 else (zHi V : Int), if n ≤ 2 then 1 else 1 + (zWi V : Int), 0 + (n : Int), 0, 0, 0])))
    ⟨rfl, fun j hj => by omega⟩ (fun k => rfl) (by decide) (by omega)
    (fun k x hk hx => zc_lt (i := 6) (x := 0 + (k : Int)) (N := (n : Int)) rfl (xL_e _ _ _) (by omega))
    (fun k x hk hx => by
      obtain ⟨rfl, hx⟩ := hx
      obtain ⟨v1, v2⟩ := hV k hk
      have bad : zGo V k = false → zFp V n k := fun h => ⟨fun j hj => ⟨by omega, hx j hj⟩, fun z => by rw [h] at z; cases z.2⟩
      have good : zGo V k = true → ∀ j, j < k + 1 → zGo V j = true := fun h j hj => by
        by_cases z : j = k
        · rw [z]; exact h
        · exact hx j (by omega)
      rw [z0k, z0k]
      rcases (show k = 0 ∨ k = 1 ∨ k = 2 ∨ 3 ≤ k by omega) with rfl | rfl | rfl | k3
      · have e0 : i + ((0 : Nat) : Int) = i := by omega
        rw [e0] at v1
        have body := w_ff0 (n := (n : Int)) (a := 0) (b := 1) (by omega) v1
        have g : zGo V 0 = decide (V 0 = 103) := rfl
        by_cases p : V 0 = 103
        · rw [if_pos p] at body
          exact Or.inr ⟨_, _, _, body, Or.inl rfl, rfl, rfl, rfl, good (by rw [g]; exact decide_eq_true p)⟩
        · rw [if_neg p] at body
          exact Or.inl ⟨_, _, body, rfl, Or.inl ⟨rfl, 0, hk, bad (by rw [g]; exact decide_eq_false p), rfl⟩⟩
      · have body := w_ff1 (n := (n : Int)) (a := 0) (b := 1) (f := i) (w32_id (x := i + 1) ⟨by omega, by omega⟩) (by omega) v1 rfl
        have g : zGo V 1 = decide (50 ≤ V 1 ∧ V 1 ≤ 53) := rfl
        by_cases p : 50 ≤ V 1 ∧ V 1 ≤ 53
        · rw [if_pos ((w48 v2).1.mpr p), (w48 v2).2.2.2 (by omega)] at body
          refine Or.inr ⟨_, _, _, body, Or.inl rfl, rfl, ?_, rfl, good (by rw [g]; exact decide_eq_true p)⟩
          have : ((zHi V : Nat) : Int) = V 1 - 48 := by unfold zHi; omega
          rw [← this]
          rfl
        · rw [if_neg (fun z => p ((w48 v2).1.mp z))] at body
          exact Or.inl ⟨_, _, body, rfl, Or.inl ⟨rfl, 1, hk, bad (by rw [g]; exact decide_eq_false p), rfl⟩⟩
      · have g : zGo V 2 = decide (50 ≤ V 2 ∧ V 2 ≤ 54) := rfl
        by_cases p : 50 ≤ V 2 ∧ V 2 ≤ 54
        · have e48 := (w48 v2).2.2.2 (by omega)
          have body := w_ff2 (n := (n : Int)) (a := (zHi V : Int)) (b := 1) (f := i) (y := 1 + (V 2 - 48)) (w32_id (x := i + 2) ⟨by omega, by omega⟩) (by omega) v1 rfl (by rw [e48]; exact w32_id ⟨by omega, by omega⟩)
          rw [if_pos ((w48 v2).2.1.mpr p)] at body
          refine Or.inr ⟨_, _, _, body, Or.inl rfl, rfl, ?_, rfl, good (by rw [g]; exact decide_eq_true p)⟩
          have : ((zWi V : Nat) : Int) = V 2 - 48 := by unfold zWi; omega
          rw [← this]
          rfl
        · have body := w_ff2 (n := (n : Int)) (a := (zHi V : Int)) (b := 1) (f := i) (w32_id (x := i + 2) ⟨by omega, by omega⟩) (by omega) v1 rfl rfl
          rw [if_neg (fun z => p ((w48 v2).2.1.mp z))] at body
          exact Or.inl ⟨_, _, body, rfl, Or.inl ⟨rfl, 2, hk, bad (by rw [g]; exact decide_eq_false p), rfl⟩⟩
      · have body := w_ffk (n := (n : Int)) k3 (by omega) hi.1 v1 v2 (hx 1 (Nat.lt_of_lt_of_le (by decide) k3)) (hx 2 (Nat.lt_of_lt_of_le (by decide) k3))
        have k1 : ¬ k ≤ 1 := Nat.not_le_of_lt (Nat.lt_of_lt_of_le (by decide) k3)
        have k2 : ¬ k ≤ 2 := Nat.not_le_of_lt (Nat.lt_of_lt_of_le (by decide) k3)
        have k1' : ¬ k + 1 ≤ 1 := Nat.not_le_of_lt (Nat.lt_of_lt_of_le (by decide) (Nat.le_succ_of_le k3))
        have k2' : ¬ k + 1 ≤ 2 := Nat.not_le_of_lt (Nat.lt_of_lt_of_le (by decide) (Nat.le_succ_of_le k3))
        rw [if_neg k1, if_neg k2, if_neg k1', if_neg k2', body]
        by_cases p : zGo V k = true
        · rw [if_pos p]
          exact Or.inr ⟨_, _, _, rfl, Or.inl rfl, rfl, rfl, rfl, good p⟩
        · rw [if_neg p]
          exact Or.inl ⟨_, _, rfl, rfl, Or.inl ⟨rfl, k, hk, bad (Bool.eq_false_iff.mpr p), rfl⟩⟩)
    (fun x hx => ⟨hx.1, Or.inr ⟨rfl, hx.2, rfl⟩⟩)
  obtain ⟨t, e, x, hl, rfl, hq⟩ := lx
  have hl2 : sW lc_X3_firstFault_1 lf_X3_firstFault_1 ls_X3_firstFault_1 [1, o, i, (n : Int), 0, 1, 0, 0, 0, 0] x = some (t, e, x) := hl
  rcases hq with ⟨rfl, q, q1, q2, rfl⟩ | ⟨rfl, q1, rfl⟩
  · refine ⟨q, q2, ?_⟩
    rw [if_neg (by omega)]
    exact w_ffEv1 hl2
  · refine ⟨n, ⟨fun j hj => ⟨hj, q1 j hj⟩, by omega⟩, ?_⟩
    by_cases p : 2 < n
    · have hw := zHW (q1 1 (by omega)) (q1 2 (by omega))
      have m1 : zHi V * (1 + zWi V) ≤ 5 * 7 := Nat.mul_le_mul (by omega) (by omega)
      have em : o_iadd 3 (o_imul (zHi V : Int) (1 + (zWi V : Int))) = ((3 + zHi V * (1 + zWi V) : Nat) : Int) := by
        have c : ((zHi V * (1 + zWi V) : Nat) : Int) = (zHi V : Int) * (1 + (zWi V : Int)) := by rw [Int.natCast_mul, Int.natCast_add]; rfl
        have : o_imul (zHi V : Int) (1 + (zWi V : Int)) = (zHi V : Int) * (1 + (zWi V : Int)) := w32_id ⟨by omega, by omega⟩
        rw [this, ← c]
        have : o_iadd 3 ((zHi V * (1 + zWi V) : Nat) : Int) = 3 + ((zHi V * (1 + zWi V) : Nat) : Int) := w32_id ⟨by omega, by omega⟩
        omega
      rw [if_neg (show ¬ n ≤ 1 by omega), if_neg (show ¬ n ≤ 2 by omega)] at hl2
      have ev := w_ffEv2 hl2 em
      rw [ev]
      by_cases z : n = 3 + zHi V * (1 + zWi V)
      · rw [if_pos (show 2 < (n : Int) ∧ (n : Int) = ((3 + zHi V * (1 + zWi V) : Nat) : Int) by omega), if_pos ⟨rfl, p, z⟩]
      · rw [if_neg (show ¬ (2 < (n : Int) ∧ (n : Int) = ((3 + zHi V * (1 + zWi V) : Nat) : Int)) by omega), if_neg (fun y => z y.2.2)]
    · have ev := w_ffEv2 hl2 rfl
      rw [ev, if_neg (by omega), if_neg (by omega)]
