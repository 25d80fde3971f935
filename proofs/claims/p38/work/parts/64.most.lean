/-! the loudest of some: how many, and one of them -/
def zMo (L : Int → Int) : Nat → Nat × Int
  | 0 => (0, -9)
  | k + 1 => if (zMo L k).1 = 0 ∨ L (zMo L k).2 < L k then (1, (k : Int)) else if L k = L (zMo L k).2 then ((zMo L k).1 + 1, (zMo L k).2) else zMo L k
theorem zMo_S (L : Int → Int) (k : Nat) : zMo L (k + 1) = if (zMo L k).1 = 0 ∨ L (zMo L k).2 < L k then (1, (k : Int)) else if L k = L (zMo L k).2 then ((zMo L k).1 + 1, (zMo L k).2) else zMo L k := rfl
theorem zMo_s (L : Int → Int) : ∀ n : Nat, 1 ≤ n → 1 ≤ (zMo L n).1 ∧ 0 ≤ (zMo L n).2 ∧ (zMo L n).2 < n ∧ (∀ b : Int, 0 ≤ b → b < n → L b ≤ L (zMo L n).2) ∧ (zMo L n).1 = zcn (fun i => decide (L i = L (zMo L n).2)) n
  | 0, h => by omega
  | n + 1, _ => by
    by_cases q : n = 0
    · subst q
      have e : zMo L (0 + 1) = (1, 0) := by simp [zMo]
      rw [e]
      refine ⟨Nat.le_refl _, Int.le_refl _, by decide, fun b h0 h1 => ?_, ?_⟩
      · have : b = 0 := by omega
        subst this
        exact Int.le_refl _
      · simp [zcn]
    · obtain ⟨h1, h2, h3, h4, h5⟩ := zMo_s L n (by omega)
      rw [zMo_S]
      have n0 : ¬ (zMo L n).1 = 0 := by omega
      generalize zMo L n = r at *
      by_cases p : L r.2 < L n
      · rw [if_pos (Or.inr p)]
        refine ⟨Nat.le_refl _, by omega, by omega, fun b b0 b1 => ?_, ?_⟩
        · by_cases z : b = (n : Int)
          · rw [z]; exact Int.le_refl _
          · have := h4 b b0 (by omega)
            show L b ≤ L n
            omega
        · show 1 = zcn (fun i => decide (L i = L n)) (n + 1)
          unfold zcn
          rw [zcn_z n (fun i hi => by
            have := h4 (i : Int) (by omega) (by omega)
            exact decide_eq_false (by omega))]
          simp
      · by_cases p2 : L n = L r.2
        · rw [if_neg (by omega), if_pos p2]
          refine ⟨by simp, h2, by show r.2 < _; omega, fun b b0 b1 => ?_, ?_⟩
          · by_cases z : b = (n : Int)
            · rw [z]; show L n ≤ L r.2; omega
            · exact h4 b b0 (by omega)
          · show r.1 + 1 = zcn (fun i => decide (L i = L r.2)) (n + 1)
            unfold zcn
            rw [← h5, decide_eq_true p2]
            rfl
        · rw [if_neg (by omega), if_neg p2]
          refine ⟨h1, h2, by omega, fun b b0 b1 => ?_, ?_⟩
          · by_cases z : b = (n : Int)
            · rw [z]; omega
            · exact h4 b b0 (by omega)
          · show r.1 = zcn (fun i => decide (L i = L r.2)) (n + 1)
            unfold zcn
            rw [← h5, decide_eq_false p2]
            simp
theorem zMo_c {L L2 : Int → Int} : ∀ n : Nat, (∀ b : Int, 0 ≤ b → b < n → L b = L2 b) → zMo L n = zMo L2 n
  | 0, _ => rfl
  | n + 1, h => by
    have ih := zMo_c n (fun b h0 h1 => h b h0 (by omega))
    rw [zMo_S, zMo_S, ih, h n (by omega) (by omega)]
    by_cases q : n = 0
    · subst q
      simp [zMo]
    · have s := zMo_s L2 n (by omega)
      rw [h _ s.2.1 (by omega)]
/-- whose: the own bell, several (-5), none (-6) -/
def zWh (F : Int) (L : Int → Int) (n : Nat) : Int := if (zMo L n).1 = 0 ∨ L (zMo L n).2 < F then -6 else if 1 < (zMo L n).1 then -5 else (zMo L n).2
def zOwn (F : Int) (L : Int → Int) (n : Nat) (b : Int) : Prop := F ≤ L b ∧ ∀ x : Int, 0 ≤ x → x < n → x ≠ b → L x < L b
def zTop (F : Int) (L : Int → Int) (n : Nat) (b : Int) : Prop := F ≤ L b ∧ ∀ x : Int, 0 ≤ x → x < n → L x ≤ L b
theorem zMo_0 (L : Int → Int) (n : Nat) : (zMo L n).1 = 0 ↔ n = 0 := by
  constructor
  · intro h
    rcases Nat.eq_zero_or_pos n with q | q
    · exact q
    · have := (zMo_s L n q).1
      omega
  · rintro rfl
    rfl
theorem zWh_own {F : Int} {L : Int → Int} {n : Nat} {b : Int} (hb : 0 ≤ b ∧ b < n) : zWh F L n = b ↔ zOwn F L n b := by
  obtain ⟨s1, s2, s3, s4, s5⟩ := zMo_s L n (by omega)
  unfold zWh zOwn
  have n0 : ¬ (zMo L n).1 = 0 := by omega
  generalize zMo L n = r at *
  by_cases p : L r.2 < F
  · rw [if_pos (Or.inr p)]
    constructor
    · intro h; omega
    · rintro ⟨h1, h2⟩
      have := s4 b hb.1 hb.2
      omega
  · rw [if_neg (by omega)]
    by_cases p2 : 1 < r.1
    · rw [if_pos p2]
      constructor
      · intro h; omega
      · rintro ⟨h1, h2⟩
        rw [s5] at p2
        obtain ⟨i, j, i1, j1, ij, hi, hj⟩ := zcn_2 n p2
        have hi := of_decide_eq_true hi
        have hj := of_decide_eq_true hj
        have t := s4 b hb.1 hb.2
        by_cases z : (i : Int) = b
        · have := h2 (j : Int) (by omega) (by omega) (by omega)
          omega
        · have := h2 (i : Int) (by omega) (by omega) z
          omega
    · rw [if_neg p2]
      constructor
      · rintro rfl
        refine ⟨by omega, fun x x0 x1 xb => ?_⟩
        have t := s4 x x0 x1
        rcases Int.lt_or_le (L x) (L r.2) with q | q
        · exact q
        · exfalso
          apply p2
          rw [s5]
          have e : L x = L r.2 := by omega
          have x2 : ((x.toNat : Nat) : Int) = x := by omega
          have r2 : ((r.2.toNat : Nat) : Int) = r.2 := by omega
          rcases Nat.lt_trichotomy x.toNat r.2.toNat with h | h | h
          · exact zcn_ge2 n x.toNat r.2.toNat h (by omega) (by rw [x2]; exact decide_eq_true e) (by rw [r2]; exact decide_eq_true rfl)
          · omega
          · exact zcn_ge2 n r.2.toNat x.toNat h (by omega) (by rw [r2]; exact decide_eq_true rfl) (by rw [x2]; exact decide_eq_true e)
      · rintro ⟨h1, h2⟩
        rcases Int.lt_or_le r.2 b with q | q
        · have := h2 r.2 s2 s3 (by omega)
          have := s4 b hb.1 hb.2
          omega
        · rcases Int.lt_or_le b r.2 with q2 | q2
          · have := h2 r.2 s2 s3 (by omega)
            have := s4 b hb.1 hb.2
            omega
          · omega
theorem zWh_c {F : Int} {L L2 : Int → Int} {n : Nat} (h : ∀ b : Int, 0 ≤ b → b < n → L b = L2 b) : zWh F L n = zWh F L2 n := by
  unfold zWh
  rw [zMo_c n h]
  by_cases q : n = 0
  · have z : (zMo L2 n).1 = 0 := (zMo_0 L2 n).mpr q
    rw [if_pos (Or.inl z), if_pos (Or.inl z)]
  · have s := zMo_s L2 n (by omega)
    rw [h _ s.2.1 s.2.2.1]
/-- the loudest and heard: by what stands as the loudest -/
theorem zTop_M {F : Int} {L : Int → Int} {n : Nat} {b : Int} (hb : 0 ≤ b ∧ b < n) : zTop F L n b ↔ F ≤ L (zMo L n).2 ∧ L b = L (zMo L n).2 := by
  obtain ⟨s1, s2, s3, s4, s5⟩ := zMo_s L n (by omega)
  generalize zMo L n = r at *
  unfold zTop
  constructor
  · rintro ⟨h1, h2⟩
    have := h2 r.2 s2 s3
    have := s4 b hb.1 hb.2
    omega
  · rintro ⟨h1, h2⟩
    refine ⟨by omega, fun x x0 x1 => ?_⟩
    have := s4 x x0 x1
    omega
/-! the reference: what it has laid out, and what holds of the numbers -/
def zWt (n : Nat) (W : Int → Int) : Prop := ∀ b : Int, 0 ≤ b → b < n → 1 ≤ W b ∧ W b ≤ 99
def zPc (n C : Nat) (K F ea : Int) (P Q G : Int → Int → Int) : Prop := n ≤ 7 ∧ C ≤ 30 ∧ (0 ≤ ea ∧ ea ≤ 99) ∧ 0 < K ∧ K * ea = 10 * F ∧ ∀ b c : Int, 0 ≤ b → b < n → 0 ≤ c → c < C → (1 ≤ P b c ∧ P b c ≤ 38) ∧ (1 ≤ Q b c ∧ Q b c ≤ 209152) ∧ (1 ≤ G b c ∧ G b c ≤ 21508378785653760) ∧ G b c * Q b c = K * P b c
def zLd (W : Int → Int) (G : Int → Int → Int) (c : Int) : Int → Int := fun b => W b * G b c
theorem zhear2 {K F ea w G P Q : Int} (hK : 0 < K) (hQ : 0 < Q) (h : G * Q = K * P) (hF : K * ea = 10 * F) : ea * Q ≤ 10 * w * P ↔ F ≤ w * G := by
  have z := zsgn (K := K) (X := 10 * w * P - ea * Q) (Y := w * G - F) (Z := 10 * Q) hK (by omega) (by
    rw [Int.mul_sub, Int.sub_mul]
    have e1 : K * (10 * w * P) = w * G * (10 * Q) := by
      calc K * (10 * w * P) = 10 * w * (K * P) := by ac_rfl
        _ = 10 * w * (G * Q) := by rw [h]
        _ = w * G * (10 * Q) := by ac_rfl
    have e2 : K * (ea * Q) = F * (10 * Q) := by
      calc K * (ea * Q) = K * ea * Q := by ac_rfl
        _ = 10 * F * Q := by rw [hF]
        _ = F * (10 * Q) := by ac_rfl
    rw [e1, e2])
  omega
