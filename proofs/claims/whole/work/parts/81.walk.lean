/-! turns: the walk of both sides -/
/-- the first of t on, ahead of n, that p does not bar; n else -/
def zNx (p : Int → Bool) (n : Int) : Nat → Int → Int
  | 0, t => t
  | j + 1, t => if t < n ∧ p t = true then zNx p n j (t + 1) else t
theorem zNx_S (p : Int → Bool) (n : Int) (j : Nat) (t : Int) : zNx p n (j + 1) t = if t < n ∧ p t = true then zNx p n j (t + 1) else t := rfl
theorem zNx_i (p : Int → Bool) (n : Int) : ∀ (j : Nat) (t : Int), t ≤ zNx p n j t ∧ (t ≤ n → zNx p n j t ≤ n)
  | 0, t => ⟨Int.le_refl _, fun h => h⟩
  | j + 1, t => by
    have := zNx_i p n j (t + 1)
    rw [zNx_S]
    split
    · omega
    · omega
/-- it stops at the latest where p does not bar -/
theorem zNx_f {p : Int → Bool} {n u : Int} (hu : p u = false) : ∀ (j : Nat) (t : Int), t ≤ u → zNx p n j t ≤ u
  | 0, _, h => h
  | j + 1, t, h => by
    rw [zNx_S]
    split
    · next q =>
      by_cases z : t = u
      · rw [z, hu] at q
        cases q.2
      · exact zNx_f hu j (t + 1) (by omega)
    · exact h
/-- with enough rounds one more changes nothing -/
theorem zNx_m (p : Int → Bool) (n : Int) : ∀ (j : Nat) (t : Int), n - t ≤ j → zNx p n (j + 1) t = zNx p n j t
  | 0, t, h => by
    rw [zNx_S, if_neg (by omega)]
    rfl
  | j + 1, t, h => by
    rw [zNx_S, zNx_S p n j t]
    split
    · exact zNx_m p n j (t + 1) (by omega)
    · rfl
theorem zNx_c {p q : Int → Bool} (n : Int) (h : ∀ t, p t = q t) : ∀ (j : Nat) (t : Int), zNx p n j t = zNx q n j t
  | 0, _ => rfl
  | j + 1, t => by rw [zNx_S, zNx_S, h t, zNx_c n h j (t + 1)]
/-- whether bell b may ring in t -/
def zMr (cl : Nat → Nat → Bool) (T : Int → Int) (b : Nat) (t : Int) : Bool := zAll (fun a => !(decide (T a = t) && cl a b)) b
theorem zAll_c {p q : Nat → Bool} : ∀ n, (∀ k, k < n → p k = q k) → zAll p n = zAll q n
  | 0, _ => rfl
  | n + 1, h => by
    show (zAll p n && p n) = (zAll q n && q n)
    rw [zAll_c n (fun k hk => h k (by omega)), h n (by omega)]
theorem zMr_c {cl : Nat → Nat → Bool} {T U : Int → Int} {b : Nat} (h : ∀ a : Nat, a < b → T a = U a) (t : Int) : zMr cl T b t = zMr cl U b t :=
  zAll_c b (fun a ha => by rw [h a ha])
/-- one step of the walk: at bell b, by T -/
def zStp (cl : Nat → Nat → Bool) (cnt n : Nat) (s : Int × (Int → Int)) : Int × (Int → Int) :=
  if 0 ≤ s.1 ∧ s.1 < cnt then
    (if zNx (fun t => !zMr cl s.2 s.1.toNat t) n 8 (s.2 s.1 + 1) ≥ (n : Int) then (s.1 - 1, zWs s.2 s.1 (zNx (fun t => !zMr cl s.2 s.1.toNat t) n 8 (s.2 s.1 + 1)))
    else (s.1 + 1, if s.1 + 1 < cnt then zWs (zWs s.2 s.1 (zNx (fun t => !zMr cl s.2 s.1.toNat t) n 8 (s.2 s.1 + 1))) (s.1 + 1) (-1) else zWs s.2 s.1 (zNx (fun t => !zMr cl s.2 s.1.toNat t) n 8 (s.2 s.1 + 1))))
  else s
def zIt (cl : Nat → Nat → Bool) (cnt n : Nat) : Nat → Int × (Int → Int)
  | 0 => (0, fun _ => -1)
  | k + 1 => zStp cl cnt n (zIt cl cnt n k)
theorem zIt_S (cl : Nat → Nat → Bool) (cnt n k : Nat) : zIt cl cnt n (k + 1) = zStp cl cnt n (zIt cl cnt n k) := rfl
theorem zStp_o {cl : Nat → Nat → Bool} {cnt n : Nat} {s : Int × (Int → Int)} (h : ¬ (0 ≤ s.1 ∧ s.1 < cnt)) : zStp cl cnt n s = s := if_neg h
theorem zIt_st {cl : Nat → Nat → Bool} {cnt n k : Nat} (h : ¬ (0 ≤ (zIt cl cnt n k).1 ∧ (zIt cl cnt n k).1 < cnt)) : ∀ d, zIt cl cnt n (k + d) = zIt cl cnt n k
  | 0 => rfl
  | d + 1 => by
    show zStp cl cnt n (zIt cl cnt n (k + d)) = _
    rw [zIt_st h d, zStp_o h]
/-! it ends: the row of turns grows, read in base 8 -/
def zSu (T : Int → Int) : Nat → Int
  | 0 => 0
  | a + 1 => 8 * zSu T a + (T a + 1)
theorem zSu_c {T U : Int → Int} : ∀ m : Nat, (∀ a : Nat, a < m → T a = U a) → zSu T m = zSu U m
  | 0, _ => rfl
  | m + 1, h => by
    show 8 * zSu T m + (T m + 1) = 8 * zSu U m + (U m + 1)
    rw [zSu_c m (fun a ha => h a (by omega)), h m (by omega)]
theorem zSu_b {T : Int → Int} : ∀ m : Nat, (∀ a : Nat, a < m → 0 ≤ T a + 1 ∧ T a + 1 ≤ 7) → 0 ≤ zSu T m ∧ zSu T m + 1 ≤ 8 ^ m
  | 0, _ => by show (0 : Int) ≤ 0 ∧ (0 : Int) + 1 ≤ 8 ^ 0; decide
  | m + 1, h => by
    have ih := zSu_b m (fun a ha => h a (by omega))
    have hm := h m (by omega)
    show 0 ≤ 8 * zSu T m + (T m + 1) ∧ 8 * zSu T m + (T m + 1) + 1 ≤ 8 ^ (m + 1)
    have e : (8 : Int) ^ (m + 1) = 8 * 8 ^ m := by rw [Int.pow_succ, Int.mul_comm]
    omega
def zP8 (m : Nat) : Int := 8 ^ (6 - m)
def zQ8 (m : Nat) : Int := if m < 6 then 8 ^ (5 - m) else 0
theorem zP8_t : zP8 0 = 262144 ∧ zP8 1 = 32768 ∧ zP8 2 = 4096 ∧ zP8 3 = 512 ∧ zP8 4 = 64 ∧ zP8 5 = 8 ∧ zP8 6 = 1 ∧ zQ8 0 = 32768 ∧ zQ8 1 = 4096 ∧ zQ8 2 = 512 ∧ zQ8 3 = 64 ∧ zQ8 4 = 8 ∧ zQ8 5 = 1 ∧ zQ8 6 = 0 := by decide
/-- how far the walk is -/
def zMe (m : Nat) (A x : Int) : Int := zP8 m * A + zQ8 m * x
theorem zMe_s {m : Nat} (hm : m + 1 < 7) {A t t2 x : Int} (ht : t + 1 ≤ t2) (hx : 0 ≤ x ∧ x ≤ 7) : m + 2 < 7 → zMe (m + 1) (8 * A + (t + 1)) x + 1 ≤ zMe (m + 2) (8 * (8 * A + (t2 + 1)) + 0) 0 := by
  obtain ⟨p0, p1, p2, p3, p4, p5, p6, q0, q1, q2, q3, q4, q5, q6⟩ := zP8_t
  intro h
  unfold zMe
  rcases (show m = 0 ∨ m = 1 ∨ m = 2 ∨ m = 3 ∨ m = 4 by omega) with rfl | rfl | rfl | rfl | rfl
  · rw [show (0 + 1 : Nat) = 1 by rfl, show (0 + 2 : Nat) = 2 by rfl, p1, q1, p2, q2]; omega
  · rw [show (1 + 1 : Nat) = 2 by rfl, show (1 + 2 : Nat) = 3 by rfl, p2, q2, p3, q3]; omega
  · rw [show (2 + 1 : Nat) = 3 by rfl, show (2 + 2 : Nat) = 4 by rfl, p3, q3, p4, q4]; omega
  · rw [show (3 + 1 : Nat) = 4 by rfl, show (3 + 2 : Nat) = 5 by rfl, p4, q4, p5, q5]; omega
  · rw [show (4 + 1 : Nat) = 5 by rfl, show (4 + 2 : Nat) = 6 by rfl, p5, q5, p6, q6]; omega
theorem zMe_f {m : Nat} (hm : m + 1 < 7) {A t n x : Int} (ht : t + 1 ≤ n) (hx : 0 ≤ x ∧ x ≤ 7) : zMe (m + 1) (8 * A + (t + 1)) x + 1 ≤ zMe m A (n + 1) := by
  obtain ⟨p0, p1, p2, p3, p4, p5, p6, q0, q1, q2, q3, q4, q5, q6⟩ := zP8_t
  unfold zMe
  rcases (show m = 0 ∨ m = 1 ∨ m = 2 ∨ m = 3 ∨ m = 4 ∨ m = 5 by omega) with rfl | rfl | rfl | rfl | rfl | rfl
  · rw [show (0 + 1 : Nat) = 1 by rfl, p1, q1, p0, q0]; omega
  · rw [show (1 + 1 : Nat) = 2 by rfl, p2, q2, p1, q1]; omega
  · rw [show (2 + 1 : Nat) = 3 by rfl, p3, q3, p2, q2]; omega
  · rw [show (3 + 1 : Nat) = 4 by rfl, p4, q4, p3, q3]; omega
  · rw [show (4 + 1 : Nat) = 5 by rfl, p5, q5, p4, q4]; omega
  · rw [show (5 + 1 : Nat) = 6 by rfl, p6, q6, p5, q5]; omega
theorem zMe_b {m : Nat} (hm : m < 7) {A x : Int} (hA : 0 ≤ A ∧ A + 1 ≤ 8 ^ m) (hx : 0 ≤ x ∧ x ≤ 7) : zMe m A x < 262144 := by
  obtain ⟨p0, p1, p2, p3, p4, p5, p6, q0, q1, q2, q3, q4, q5, q6⟩ := zP8_t
  unfold zMe
  rcases (show m = 0 ∨ m = 1 ∨ m = 2 ∨ m = 3 ∨ m = 4 ∨ m = 5 ∨ m = 6 by omega) with rfl | rfl | rfl | rfl | rfl | rfl | rfl
  · rw [p0, q0]; have : (8 : Int) ^ 0 = 1 := by decide
    omega
  · rw [p1, q1]; have : (8 : Int) ^ 1 = 8 := by decide
    omega
  · rw [p2, q2]; have : (8 : Int) ^ 2 = 64 := by decide
    omega
  · rw [p3, q3]; have : (8 : Int) ^ 3 = 512 := by decide
    omega
  · rw [p4, q4]; have : (8 : Int) ^ 4 = 4096 := by decide
    omega
  · rw [p5, q5]; have : (8 : Int) ^ 5 = 32768 := by decide
    omega
  · rw [p6, q6]; have : (8 : Int) ^ 6 = 262144 := by decide
    omega
theorem zIt_m {cl : Nat → Nat → Bool} {cnt n : Nat} (hc : cnt ≤ 6) (hn : n ≤ 6) : ∀ k : Nat, 0 ≤ (zIt cl cnt n k).1 → (zIt cl cnt n k).1 < cnt → (∀ a : Nat, (a : Int) ≤ (zIt cl cnt n k).1 → 0 ≤ (zIt cl cnt n k).2 a + 1 ∧ (zIt cl cnt n k).2 a + 1 ≤ n) ∧ ∃ x : Int, 0 ≤ x ∧ x ≤ 7 ∧ (k : Int) ≤ zMe ((zIt cl cnt n k).1.toNat + 1) (zSu (zIt cl cnt n k).2 ((zIt cl cnt n k).1.toNat + 1)) x
  | 0, h0, h1 => by
    refine ⟨fun a ha => ?_, 0, Int.le_refl _, by decide, ?_⟩
    · show 0 ≤ (-1 : Int) + 1 ∧ (-1 : Int) + 1 ≤ n
      omega
    · show (0 : Int) ≤ zMe 1 (8 * 0 + ((-1 : Int) + 1)) 0
      decide
  | k + 1, h0, h1 => by
    by_cases g : 0 ≤ (zIt cl cnt n k).1 ∧ (zIt cl cnt n k).1 < cnt
    case neg =>
      have e : zIt cl cnt n (k + 1) = zIt cl cnt n k := zStp_o g
      rw [e] at h0 h1
      exact absurd ⟨h0, h1⟩ g
    obtain ⟨ih1, x, x0, x1, ih2⟩ := zIt_m hc hn k g.1 g.2
    have S := zIt_S cl cnt n k
    unfold zStp at S
    rw [if_pos g] at S
    generalize zIt cl cnt n k = s at *
    generalize zIt cl cnt n (k + 1) = s2 at *
    obtain ⟨b, T⟩ := s
    dsimp only at *
    have b2 : ((b.toNat : Nat) : Int) = b := by omega
    have tb := ih1 b.toNat (by omega)
    rw [b2] at tb
    have ni := zNx_i (fun t => !zMr cl T b.toNat t) n 8 (T b + 1)
    generalize zNx (fun t => !zMr cl T b.toNat t) n 8 (T b + 1) = t2 at *
    have eS : zSu T (b.toNat + 1) = 8 * zSu T b.toNat + (T b + 1) := by
      show 8 * zSu T b.toNat + (T (b.toNat : Int) + 1) = _
      rw [b2]
    rw [eS] at ih2
    by_cases p : t2 ≥ (n : Int)
    · rw [if_pos p] at S
      subst S
      dsimp only at *
      obtain ⟨m, hm⟩ : ∃ m : Nat, b.toNat = m + 1 := ⟨b.toNat - 1, by omega⟩
      have e1 : (b - 1).toNat + 1 = b.toNat := by omega
      have eqT : ∀ a : Nat, a < b.toNat → zWs T b t2 a = T a := fun a ha => zWs_n (by omega)
      refine ⟨fun a ha => ?_, (n : Int) + 1, by omega, by omega, ?_⟩
      · rw [eqT a (by omega)]
        exact ih1 a (by omega)
      · rw [e1, zSu_c b.toNat eqT]
        have f := zMe_f (m := b.toNat) (A := zSu T b.toNat) (t := T b) (n := n) (x := x) (by omega) (by omega) ⟨x0, x1⟩
        omega
    · rw [if_neg p] at S
      subst S
      dsimp only at *
      rw [if_pos h1]
      have e1 : (b + 1).toNat = b.toNat + 1 := by omega
      refine ⟨fun a ha => ?_, 0, by omega, by omega, ?_⟩
      · by_cases z : (a : Int) = b + 1
        · rw [z, zWs_b]
          omega
        · rw [zWs_n z]
          by_cases z2 : (a : Int) = b
          · rw [z2, zWs_b]
            omega
          · rw [zWs_n z2]
            exact ih1 a (by omega)
      · rw [e1]
        have e2 : zSu (zWs (zWs T b t2) (b + 1) (-1)) (b.toNat + 1 + 1) = 8 * (8 * zSu T b.toNat + (t2 + 1)) + 0 := by
          show 8 * (8 * zSu _ b.toNat + (zWs (zWs T b t2) (b + 1) (-1) (b.toNat : Int) + 1)) + (zWs (zWs T b t2) (b + 1) (-1) ((b.toNat + 1 : Nat) : Int) + 1) = _
          rw [zSu_c (U := T) b.toNat (fun a ha => by rw [zWs_n (by omega), zWs_n (by omega)]), show ((b.toNat + 1 : Nat) : Int) = b + 1 by omega, zWs_b, b2, zWs_n (by omega), zWs_b]
          omega
        rw [e2]
        have f := zMe_s (m := b.toNat) (A := zSu T b.toNat) (t := T b) (t2 := t2) (x := x) (by omega) (by omega) ⟨x0, x1⟩ (by omega)
        have e3 : ((k + 1 : Nat) : Int) = (k : Int) + 1 := by omega
        rw [e3]
        exact Int.le_trans (Int.add_le_add_right ih2 1) f
theorem zIt_lt {cl : Nat → Nat → Bool} {cnt n : Nat} (hc : cnt ≤ 6) (hn : n ≤ 6) {k : Nat} (h : 0 ≤ (zIt cl cnt n k).1 ∧ (zIt cl cnt n k).1 < cnt) : k < 262144 := by
  obtain ⟨h1, x, x0, x1, h2⟩ := zIt_m hc hn k h.1 h.2
  have b := zSu_b (T := (zIt cl cnt n k).2) ((zIt cl cnt n k).1.toNat + 1) (fun a ha => by have := h1 a (by omega); omega)
  have m := zMe_b (m := (zIt cl cnt n k).1.toNat + 1) (by omega) b ⟨x0, x1⟩
  omega
/-- where the walk ends -/
def zEd (cl : Nat → Nat → Bool) (cnt n : Nat) : Int × (Int → Int) := zIt cl cnt n 262144
theorem zEd_e {cl : Nat → Nat → Bool} {cnt n k : Nat} (hk : k ≤ 262144) (h : ¬ (0 ≤ (zIt cl cnt n k).1 ∧ (zIt cl cnt n k).1 < cnt)) : zEd cl cnt n = zIt cl cnt n k := by
  have := zIt_st h (262144 - k)
  rw [show k + (262144 - k) = 262144 by omega] at this
  exact this
/-- with as many turns as bells it comes to its end -/
theorem zIt_all {cl : Nat → Nat → Bool} {cnt : Nat} (hc : cnt ≤ 6) : ∀ k : Nat, k ≤ cnt → (zIt cl cnt cnt k).1 = k ∧ (∀ a : Nat, a < k → (zIt cl cnt cnt k).2 a ≤ a) ∧ (k < cnt → (zIt cl cnt cnt k).2 k = -1)
  | 0, _ => ⟨rfl, fun a ha => by omega, fun _ => rfl⟩
  | k + 1, hk => by
    obtain ⟨h1, h2, h3⟩ := zIt_all (cl := cl) hc k (by omega)
    have h3 := h3 (by omega)
    have S := zIt_S cl cnt cnt k
    unfold zStp at S
    rw [if_pos (by omega)] at S
    generalize zIt cl cnt cnt k = s at *
    generalize zIt cl cnt cnt (k + 1) = s2 at *
    obtain ⟨b, T⟩ := s
    dsimp only at *
    subst h1
    have nf := zNx_f (p := fun t => !zMr cl T ((k : Int).toNat) t) (n := (cnt : Int)) (u := (k : Int)) (by
      have : zMr cl T ((k : Int).toNat) (k : Int) = true := zAll_t _ (fun a ha => by
        have := h2 a (by omega)
        rw [decide_eq_false (by omega)]
        rfl)
      show (!zMr cl T ((k : Int).toNat) (k : Int)) = false
      rw [this]
      rfl) 8 (T k + 1) (by omega)
    generalize zNx (fun t => !zMr cl T ((k : Int).toNat) t) cnt 8 (T k + 1) = t2 at *
    rw [if_neg (by omega)] at S
    subst S
    dsimp only
    refine ⟨by omega, fun a ha => ?_, fun hlt => ?_⟩
    · have key : zWs T k t2 a ≤ a := by
        by_cases z : (a : Int) = (k : Int)
        · rw [z, zWs_b]; omega
        · rw [zWs_n z]
          exact h2 a (by omega)
      split
      · rw [zWs_n (by omega)]
        exact key
      · exact key
    · rw [if_pos (by omega), show ((k + 1 : Nat) : Int) = (k : Int) + 1 by omega, zWs_b]
theorem zEd_all {cl : Nat → Nat → Bool} {cnt : Nat} (hc : cnt ≤ 6) : (zEd cl cnt cnt).1 = cnt := by
  have h := zIt_all (cl := cl) hc cnt (Nat.le_refl _)
  rw [zEd_e (k := cnt) (by omega) (by omega)]
  exact h.1
theorem zEd_0 {cl : Nat → Nat → Bool} {cnt : Nat} (hc : 1 ≤ cnt) : (zEd cl cnt 0).1 = -1 := by
  have h : (zIt cl cnt 0 1).1 = -1 := by
    have S := zIt_S cl cnt 0 0
    have e0 : zIt cl cnt 0 0 = (0, fun _ => -1) := rfl
    rw [e0] at S
    unfold zStp at S
    dsimp only at S
    rw [if_pos (by omega)] at S
    have ni := zNx_i (fun t => !zMr cl (fun _ => -1) ((0 : Int).toNat) t) ((0 : Nat) : Int) 8 (-1 + 1)
    rw [if_pos (by omega)] at S
    show (zIt cl cnt 0 (0 + 1)).1 = -1
    rw [S]
    rfl
  rw [zEd_e (k := 1) (by omega) (by omega)]
  exact h
