def zDivB (a b : Nat) : Bool := decide (59579996636160 % ((1 + (a * a + b * b)) * 256) = 0) && decide (59579996636160 % ((2 + (a * a + b * b)) * 256) = 0)
theorem zDiv_t : ∀ a : Nat, a < 5 → ∀ b : Nat, b < 6 → zDivB a b = true := by decide +kernel
theorem zFar_n (σ : zHp) (f t : Int) : zFar σ f t = (((zRo σ f t).natAbs * (zRo σ f t).natAbs + (zCo σ f t).natAbs * (zCo σ f t).natAbs : Nat) : Int) := by
  unfold zFar
  rw [Int.natCast_add, Int.natAbs_mul_self, Int.natAbs_mul_self]
/-- the grains of 1 are a whole number of times these -/
theorem zFar_d {σ : zHp} (hL : zIL σ) {kind f t : Int} (hf : 0 ≤ f ∧ f < σ 1 2) (ht : 0 ≤ t ∧ t < σ 1 2) : 0 ≤ zFar σ f t ∧ zFar σ f t ≤ 41 ∧ ∃ j : Int, 0 < j ∧ zONE = (zU kind + zFar σ f t) * (256 * j) := by
  obtain ⟨l1, l2, l3, l4, -⟩ := zLen_i hL hf ht
  have a5 : (zRo σ f t).natAbs < 5 := by omega
  have b6 : (zCo σ f t).natAbs < 6 := by omega
  have h := zDiv_t _ a5 _ b6
  have sa := Nat.mul_le_mul (show (zRo σ f t).natAbs ≤ 4 by omega) (show (zRo σ f t).natAbs ≤ 4 by omega)
  have sb := Nat.mul_le_mul (show (zCo σ f t).natAbs ≤ 5 by omega) (show (zCo σ f t).natAbs ≤ 5 by omega)
  rw [zFar_n]
  unfold zDivB at h
  rw [Bool.and_eq_true, decide_eq_true_eq, decide_eq_true_eq] at h
  have hd := Nat.add_le_add sa sb
  generalize (zRo σ f t).natAbs * (zRo σ f t).natAbs + (zCo σ f t).natAbs * (zCo σ f t).natAbs = d at *
  have key : ∀ u : Nat, 1 ≤ u → 59579996636160 % ((u + d) * 256) = 0 → ∃ j : Int, 0 < j ∧ zONE = ((u : Int) + (d : Int)) * (256 * j) := by
    intro u hu hm
    obtain ⟨j, hj⟩ := Nat.dvd_of_mod_eq_zero hm
    refine ⟨(j : Int), ?_, ?_⟩
    · rcases Nat.eq_zero_or_pos j with q | q
      · rw [q] at hj
        omega
      · omega
    · have : (59579996636160 : Int) = (((u + d) * 256 * j : Nat) : Int) := by rw [← hj]; rfl
      show (59579996636160 : Int) = _
      rw [this, Int.natCast_mul, Int.natCast_mul, Int.natCast_add, Int.mul_assoc]
      rfl
  refine ⟨by omega, by omega, ?_⟩
  unfold zU
  split
  · exact key 1 (by decide) h.1
  · exact key 2 (by decide) h.2
theorem w_apart {σ : zHp} (hL : zIL σ) (hH : zIH σ) {f t : Int} (hf : 0 ≤ f ∧ f < σ 1 2) (ht : 0 ≤ t ∧ t < σ 1 2) : m_X3_apart [1, f, t] σ = some (zFar σ f t, σ) := by
  obtain ⟨l1, l2, l3, l4, -⟩ := zLen_i hL hf ht
  have hN := zN_eq hL
  obtain ⟨-, -, -, f3, f4⟩ := hH f hf.1 hf.2
  obtain ⟨-, -, -, t3, t4⟩ := hH t ht.1 ht.2
  have rf := zRC hL hf
  have rt := zRC hL ht
  have f30 : 0 ≤ f ∧ f < 30 := by omega
  have t30 : 0 ≤ t ∧ t < 30 := by omega
  have er : o_isub (σ 3 t) (σ 3 f) = zRo σ f t := by rw [f3, t3]; exact w32_id ⟨by omega, by omega⟩
  have ec : o_isub (σ 4 t) (σ 4 f) = zCo σ f t := by rw [f4, t4]; exact w32_id ⟨by omega, by omega⟩
  have m1 := zmul_i (x := zRo σ f t) (y := zRo σ f t) 4 4 (by omega) (by omega)
  have m2 := zmul_i (x := zCo σ f t) (y := zCo σ f t) 5 5 (by omega) (by omega)
  have e1 : o_imul (zRo σ f t) (zRo σ f t) = zRo σ f t * zRo σ f t := w32_id ⟨by omega, by omega⟩
  have e2 : o_imul (zCo σ f t) (zCo σ f t) = zCo σ f t * zCo σ f t := w32_id ⟨by omega, by omega⟩
  have e3 : o_iadd (zRo σ f t * zRo σ f t) (zCo σ f t * zCo σ f t) = zFar σ f t := w32_id ⟨by omega, by omega⟩
  simp [e_X3_apart, d_X3_apart, xC_e, xL_e, xU_e, xB_e, xD_e, xF_e, xG_e, xA_e, xE_e, xH_e, xI_e, xZ_e, xK_e, aN_e, aC_e, cR_e, cV_e, cA_e, cO_e, cN_e, bs_e, bn_e, zg_0, zg_S, sS_e, sX_e, sF_e, sG_e, sA_e, sE_e, sEo_e, sK_e, sQ_e, sI_e, sR_e, sV_e, sB_e, sC_e, sD_e, sN_e, st_0, st_S, zc_0, zc_S, f30, t30, er, ec, e1, e2, e3]
/-- planted ones on the way, hills on the way -/
theorem zWy_p {σ ρ : zHp} (hL : zIL σ) (r1 : ρ 1 1 = σ 1 1) (hP : ∀ c : Nat, c < 32 → zt (σ 1 3) c = decide ((c : Int) < σ 1 2 ∧ zpl ρ c = 1)) {f t : Int} (hf : 0 ≤ f ∧ f < σ 1 2) (ht : 0 ≤ t ∧ t < σ 1 2) : zcnt (zAnd (zWy σ f t (zLen σ f t - 1).toNat) (σ 1 3)) = (zcn (zPn ρ f t) (zLen σ f t - 1).toNat : Nat) := by
  have hN := zN_eq hL
  rw [zcnt_Wy hL hf ht _ _ (by omega)]
  congr 1
  refine zcn_c _ (fun k hk => ?_)
  have b := zBt_lt hL hf ht (k := ((k + 1 : Nat) : Int)) (by omega)
  have h := hP (zBt σ f t ((k + 1 : Nat) : Int)).toNat (by omega)
  rw [h]
  unfold zPn
  rw [zBt_eq r1]
  have e : (((zBt σ f t ((k + 1 : Nat) : Int)).toNat : Nat) : Int) = zBt σ f t ((k : Int) + 1) := by
    show _ = zBt σ f t ((k + 1 : Nat) : Int)
    omega
  rw [e]
  have b2 : zBt σ f t ((k : Int) + 1) < σ 1 2 := b.2
  simp [b2]
theorem zWy_h {σ : zHp} (hL : zIL σ) (hH : zIH σ) (hB : zIB σ) {f t kind : Int} (hk2 : kind ≠ 2) (hf : 0 ≤ f ∧ f < σ 1 2) (ht : 0 ≤ t ∧ t < σ 1 2) : zcnt (zAnd (zWy σ f t (zLen σ f t - 1).toNat) (σ 5 (max (σ 2 f) (σ 2 t)))) = (zcn (zHl σ kind f t) (zLen σ f t - 1).toNat : Nat) := by
  have hN := zN_eq hL
  have f9 := hH f hf.1 hf.2
  have t9 := hH t ht.1 ht.2
  rw [zcnt_Wy hL hf ht _ _ (by omega)]
  congr 1
  refine zcn_c _ (fun k hk => ?_)
  have b := zBt_lt hL hf ht (k := ((k + 1 : Nat) : Int)) (by omega)
  have h := hB (max (σ 2 f) (σ 2 t)) (by omega) (by omega) (zBt σ f t ((k + 1 : Nat) : Int)).toNat (by omega)
  rw [h]
  unfold zHl
  have e : (((zBt σ f t ((k + 1 : Nat) : Int)).toNat : Nat) : Int) = zBt σ f t ((k : Int) + 1) := by
    show _ = zBt σ f t ((k + 1 : Nat) : Int)
    omega
  rw [e]
  have b2 : zBt σ f t ((k : Int) + 1) < σ 1 2 := b.2
  by_cases q : max (σ 2 f) (σ 2 t) < σ 2 (zBt σ f t ((k : Int) + 1))
  · rw [decide_eq_true ⟨b2, q⟩, decide_eq_true ⟨by omega, by omega, hk2⟩]
  · rw [decide_eq_false (fun z => q z.2), decide_eq_false (fun z => q (by omega))]
theorem zHl_2 (σ : zHp) (f t : Int) (n : Nat) : zcn (zHl σ 2 f t) n = 0 := zcn_z n (fun i _ => decide_eq_false (fun h => h.2.2 rfl))
/-- halved m times, m ≤ 8 -/
theorem zhalve {y : Int} {m : Nat} (hm : m ≤ 8) (h0 : 0 ≤ y) (h1 : 256 * y < 9223372036854775808) : zLshr (256 * y) m * ((2 ^ m : Nat) : Int) = 256 * y := by
  rw [zLshr_e ⟨by omega, h1⟩ (by omega)]
  rcases (show m = 0 ∨ m = 1 ∨ m = 2 ∨ m = 3 ∨ m = 4 ∨ m = 5 ∨ m = 6 ∨ m = 7 ∨ m = 8 by omega) with rfl | rfl | rfl | rfl | rfl | rfl | rfl | rfl | rfl <;> omega
theorem zldiv_e {q y : Int} (hq : q ≠ 0) (hy : 0 ≤ y ∧ y < 9223372036854775808) : zldiv (q * y) q = y := by
  unfold zldiv
  rw [Int.mul_tdiv_cancel_left y hq]
  exact w64_id ⟨by omega, by omega⟩
theorem w_calmEval {σ : zHp} {kind f t way d x : Int} {p h : Nat} (hk : 0 ≤ kind ∧ kind ≤ 2) (hp : p ≤ 4) (hh : h ≤ 4) (s1 : m_X3_between [1, f, t] σ = some (way, σ)) (b3 : zcnt (zAnd way (σ 1 3)) = (p : Int)) (b4 : kind ≠ 2 → m_X3_hillsOn [1, way, f, t] σ = some ((h : Int), σ)) (b5 : kind = 2 → h = 0) (s2 : m_X3_apart [1, f, t] σ = some (d, σ))
    (x0 : kind = 0 → zldiv 59579996636160 (o_iadd 1 d) = x) (x1 : kind ≠ 0 → o_lmul (zldiv 59579996636160 (o_iadd 2 d)) 2 = x) (n0 : ¬ o_iadd 1 d = 0) (n1 : ¬ o_iadd 2 d = 0) : m_X0_calmUnit [10, kind, f, t] σ = some (zLshr x ((p + h : Nat) : Int), σ) := by
  have e : o_iadd (p : Int) (h : Int) = ((p + h : Nat) : Int) := by
    have : o_iadd (p : Int) (h : Int) = (p : Int) + (h : Int) := w32_id ⟨by omega, by omega⟩
    omega
  rcases (show kind = 0 ∨ kind = 1 ∨ kind = 2 by omega) with rfl | rfl | rfl
  · simp [e_X0_calmUnit, d_X0_calmUnit, xC_e, xL_e, xU_e, xB_e, xD_e, xF_e, xG_e, xA_e, xE_e, xH_e, xI_e, xZ_e, xK_e, aN_e, aC_e, cR_e, cV_e, cA_e, cO_e, cN_e, bs_e, bn_e, zg_0, zg_S, sS_e, sX_e, sF_e, sG_e, sA_e, sE_e, sEo_e, sK_e, sQ_e, sI_e, sR_e, sV_e, sB_e, sC_e, sD_e, sN_e, st_0, st_S, zc_0, zc_S, r_eq, r_ne, r_lt, r_le, r_gt, r_ge, rb_ite, rb_0, rb_1, s1, w_bitCount, b3, b4 (by decide), s2, e, x0 rfl, n0]
  · simp [e_X0_calmUnit, d_X0_calmUnit, xC_e, xL_e, xU_e, xB_e, xD_e, xF_e, xG_e, xA_e, xE_e, xH_e, xI_e, xZ_e, xK_e, aN_e, aC_e, cR_e, cV_e, cA_e, cO_e, cN_e, bs_e, bn_e, zg_0, zg_S, sS_e, sX_e, sF_e, sG_e, sA_e, sE_e, sEo_e, sK_e, sQ_e, sI_e, sR_e, sV_e, sB_e, sC_e, sD_e, sN_e, st_0, st_S, zc_0, zc_S, r_eq, r_ne, r_lt, r_le, r_gt, r_ge, rb_ite, rb_0, rb_1, s1, w_bitCount, b3, b4 (by decide), s2, e, x1 (by decide), n1]
  · simp [e_X0_calmUnit, d_X0_calmUnit, xC_e, xL_e, xU_e, xB_e, xD_e, xF_e, xG_e, xA_e, xE_e, xH_e, xI_e, xZ_e, xK_e, aN_e, aC_e, cR_e, cV_e, cA_e, cO_e, cN_e, bs_e, bn_e, zg_0, zg_S, sS_e, sX_e, sF_e, sG_e, sA_e, sE_e, sEo_e, sK_e, sQ_e, sI_e, sR_e, sV_e, sB_e, sC_e, sD_e, sN_e, st_0, st_S, zc_0, zc_S, r_eq, r_ne, r_lt, r_le, r_gt, r_ge, rb_ite, rb_0, rb_1, s1, w_bitCount, b3, s2, x1 (by decide), n1, b5 rfl]
theorem w_hillsOn {σ : zHp} {way f t : Int} {h : Nat} (f30 : 0 ≤ f ∧ f < 30) (t30 : 0 ≤ t ∧ t < 30) (f9 : 0 ≤ σ 2 f ∧ σ 2 f ≤ 9) (t9 : 0 ≤ σ 2 t ∧ σ 2 t ≤ 9) (b : zcnt (zAnd way (σ 5 (max (σ 2 f) (σ 2 t)))) = (h : Int)) : m_X3_hillsOn [1, way, f, t] σ = some ((h : Int), σ) := by
  have q : 0 ≤ max (σ 2 f) (σ 2 t) ∧ max (σ 2 f) (σ 2 t) < 10 := by omega
  simp only [e_X3_hillsOn, d_X3_hillsOn, xC_e, xL_e, xU_e, xB_e, xD_e, xF_e, xG_e, xA_e, xE_e, xH_e, xI_e, xZ_e, xK_e, aN_e, aC_e, cR_e, cV_e, cA_e, cO_e, cN_e, bs_e, bn_e, zg_0, zg_S, sS_e, sX_e, sF_e, sG_e, sA_e, sE_e, sEo_e, sK_e, sQ_e, sI_e, sR_e, sV_e, sB_e, sC_e, sD_e, sN_e, st_0, st_S, zc_0, zc_S, f30, t30, o_max_e, q, and_self, if_true, w_bitCount, b]
theorem zHl_eq {σ ρ : zHp} (r1 : ρ 1 1 = σ 1 1) (r2 : ∀ k, ρ 2 k = σ 2 k) (kind f t : Int) : zHl ρ kind f t = zHl σ kind f t := by
  funext k
  unfold zHl
  rw [zBt_eq r1, r2, r2, r2]
theorem zFar_eq {σ ρ : zHp} (r1 : ρ 1 1 = σ 1 1) (f t : Int) : zFar ρ f t = zFar σ f t := by
  unfold zFar
  rw [zRo_eq r1, zCo_eq r1]
theorem w_calmUnit_r {σ ρ : zHp} (hL : zIL σ) (hH : zIH σ) (hB : zIB σ) (r1 : ρ 1 1 = σ 1 1) (r2 : ∀ k, ρ 2 k = σ 2 k) (hP : ∀ c : Nat, c < 32 → zt (σ 1 3) c = decide ((c : Int) < σ 1 2 ∧ zpl ρ c = 1)) {kind f t : Int} (hk : 0 ≤ kind ∧ kind ≤ 2) (hf : 0 ≤ f ∧ f < σ 1 2) (ht : 0 ≤ t ∧ t < σ 1 2) : ∃ v, m_X0_calmUnit [10, kind, f, t] σ = some (v, σ) ∧ v * zDn ρ kind f t = zONE * zU kind := by
  obtain ⟨d0, d1, j, j0, hj⟩ := zFar_d hL (kind := kind) hf ht
  obtain ⟨l1, l2, l3, l4, l5, l6, -⟩ := zLen_i hL hf ht
  have hN := zN_eq hL
  have f9 := hH f hf.1 hf.2
  have t9 := hH t ht.1 ht.2
  have f30 : 0 ≤ f ∧ f < 30 := by omega
  have t30 : 0 ≤ t ∧ t < 30 := by omega
  have b1 := w_between hL hH hf ht
  have b2 := w_apart hL hH hf ht
  have b3 := zWy_p hL r1 hP hf ht
  have b4 : kind ≠ 2 → zcnt (zAnd (zWy σ f t (zLen σ f t - 1).toNat) (σ 5 (max (σ 2 f) (σ 2 t)))) = (zcn (zHl σ kind f t) (zLen σ f t - 1).toNat : Nat) := fun hk2 => zWy_h hL hH hB hk2 hf ht
  have b5 : kind = 2 → zcn (zHl σ kind f t) (zLen σ f t - 1).toNat = 0 := fun h2 => by rw [h2]; exact zHl_2 σ f t _
  have n4 : (zLen σ f t - 1).toNat ≤ 4 := by omega
  unfold zDn
  rw [zDim_p, zHl_eq r1 r2, zLen_eq r1, zFar_eq r1]
  have c1 := zcn_le (zPn ρ f t) (zLen σ f t - 1).toNat
  have c2 := zcn_le (zHl σ kind f t) (zLen σ f t - 1).toNat
  generalize zWy σ f t (zLen σ f t - 1).toNat = way at b1 b3 b4
  generalize zcn (zPn ρ f t) (zLen σ f t - 1).toNat = p at b3 c1 ⊢
  generalize zcn (zHl σ kind f t) (zLen σ f t - 1).toNat = h at b4 b5 c2 ⊢
  have b6 : kind ≠ 2 → m_X3_hillsOn [1, way, f, t] σ = some ((h : Int), σ) := fun hk2 => w_hillsOn f30 t30 ⟨f9.1, f9.2.1⟩ ⟨t9.1, t9.2.1⟩ (b4 hk2)
  generalize zFar σ f t = d at *
  have e1 : o_iadd 1 d = 1 + d := w32_id ⟨by omega, by omega⟩
  have e2 : o_iadd 2 d = 2 + d := w32_id ⟨by omega, by omega⟩
  have u1 : 1 ≤ zU kind ∧ zU kind ≤ 2 := by unfold zU; split <;> omega
  have jl : 256 * j ≤ zONE := by
    rw [hj]
    have := Int.mul_le_mul_of_nonneg_right (show (1 : Int) ≤ zU kind + d by omega) (show 0 ≤ 256 * j by omega)
    omega
  have jm : 256 * j ≤ 59579996636160 := jl
  have ev := w_calmEval (x := 256 * (j * zU kind)) hk (by omega) (by omega) b1 b3 b6 b5 b2 (fun k0 => by
      have uk : zU kind = 1 := by unfold zU; rw [if_pos k0]
      rw [uk] at hj ⊢
      rw [e1, show (59579996636160 : Int) = (1 + d) * (256 * j) from hj, zldiv_e (by omega) ⟨by omega, by omega⟩, Int.mul_one]) (fun k0 => by
      have uk : zU kind = 2 := by unfold zU; rw [if_neg k0]
      rw [uk] at hj ⊢
      rw [e2, show (59579996636160 : Int) = (2 + d) * (256 * j) from hj, zldiv_e (by omega) ⟨by omega, by omega⟩]
      have : o_lmul (256 * j) 2 = 256 * j * 2 := w64_id ⟨by omega, by omega⟩
      rw [this]
      omega) (by omega) (by omega)
  refine ⟨_, ev, ?_⟩
  have ju : j * zU kind ≤ j * 2 := Int.mul_le_mul_of_nonneg_left u1.2 (by omega)
  have ju0 : 0 ≤ j * zU kind := Int.mul_nonneg (by omega) (by omega)
  have hv := zhalve (y := j * zU kind) (m := p + h) (by omega) ju0 (by omega)
  rw [hj]
  generalize ((2 ^ (p + h) : Nat) : Int) = z at *
  generalize zLshr (256 * (j * zU kind)) ((p + h : Nat) : Int) = v at *
  calc v * ((zU kind + d) * z) = (zU kind + d) * (v * z) := by ac_rfl
    _ = (zU kind + d) * (256 * (j * zU kind)) := by rw [hv]
    _ = (zU kind + d) * (256 * j) * zU kind := by ac_rfl
/-- a bell's row anew -/
def zRow (σ ρ τ : zHp) (b k : Int) : Prop := (∀ x y, ¬ (x = 11 ∧ 30 * b ≤ y ∧ y < 30 * b + 30) → τ x y = σ x y) ∧ ∀ c, 0 ≤ c → c < k → τ 11 (30 * b + c) * zDn ρ (σ 7 b) (σ 8 b) c = zONE * zU (σ 7 b)
theorem w_carryBody {τ : zHp} {b c v : Int} (hb : 0 ≤ b ∧ b < 6) (hc : 0 ≤ c ∧ c < 30) (h : m_X0_calmUnit [10, τ 7 b, τ 8 b, c] τ = some (v, τ)) : lf_X0_carry_1 [10, b, c] τ = some (0, [10, b, c], zput τ 11 (30 * b + c) v) := by
  have e1 : o_imul b 30 = b * 30 := w32_id ⟨by omega, by omega⟩
  have e2 : o_iadd (b * 30) c = 30 * b + c := by
    have : o_iadd (b * 30) c = b * 30 + c := w32_id ⟨by omega, by omega⟩
    omega
  have e3 : 0 ≤ 30 * b + c ∧ 30 * b + c < 180 := by omega
  simp [lf_X0_carry_1, xC_e, xL_e, xU_e, xB_e, xD_e, xF_e, xG_e, xA_e, xE_e, xH_e, xI_e, xZ_e, xK_e, aN_e, aC_e, cR_e, cV_e, cA_e, cO_e, cN_e, bs_e, bn_e, zg_0, zg_S, sS_e, sX_e, sF_e, sG_e, sA_e, sE_e, sEo_e, sK_e, sQ_e, sI_e, sR_e, sV_e, sB_e, sC_e, sD_e, sN_e, st_0, st_S, zc_0, zc_S, e1, e2, e3, hb, h]
theorem w_carry {σ ρ : zHp} (hL : zIL σ) (hH : zIH σ) (hB : zIB σ) (r1 : ρ 1 1 = σ 1 1) (r2 : ∀ k, ρ 2 k = σ 2 k) (hP : ∀ c : Nat, c < 32 → zt (σ 1 3) c = decide ((c : Int) < σ 1 2 ∧ zpl ρ c = 1)) {b : Int} (hb : 0 ≤ b ∧ b < 6) (hk : 0 ≤ σ 7 b ∧ σ 7 b ≤ 2) (hc : 0 ≤ σ 8 b ∧ σ 8 b < σ 1 2) :
    ∃ τ, m_X0_carry [10, b] σ = some (0, τ) ∧ zRow σ ρ τ b (σ 1 2) := by
  have hN := zN_eq hL
  have nn : (((σ 1 2).toNat : Nat) : Int) = σ 1 2 := by omega
  have hl := zl_inv (c := lc_X0_carry_1) (f := lf_X0_carry_1) (s := ls_X0_carry_1) (fun k => [10, b, (k : Int)]) (fun k τ => zRow σ ρ τ b (k : Int)) (σ 1 2).toNat (σ := σ)
    ⟨fun _ _ _ => rfl, fun c h0 h1 => absurd h1 (by simp; omega)⟩
    (fun k τ hk hI => by
      have e := hI.1 1 2 (by omega)
      have : (k : Int) < τ 1 2 := by omega
      simp only [lc_X0_carry_1, xC_e, xL_e, xU_e, xB_e, xD_e, xF_e, xG_e, xA_e, xE_e, xH_e, xI_e, xZ_e, xK_e, aN_e, aC_e, cR_e, cV_e, cA_e, cO_e, cN_e, bs_e, bn_e, zg_0, zg_S, sS_e, sX_e, sF_e, sG_e, sA_e, sE_e, sEo_e, sK_e, sQ_e, sI_e, sR_e, sV_e, sB_e, sC_e, sD_e, sN_e, st_0, st_S, zc_0, zc_S, r_lt]
      rw [decide_eq_true this])
    (fun k τ hk1 hI => by
      obtain ⟨e, hr⟩ := hI
      have n2 := e 1 2 (by omega)
      have L' : zIL τ := zIL_c hL (e 1 0 (by omega)) (e 1 1 (by omega)) (e 1 2 (by omega)) (e 1 0 (by omega)) (e 1 1 (by omega))
      have H' : zIH τ := zIH_c hH (e 1 1 (by omega)) (e 1 2 (by omega)) (fun k => e 2 k (by omega)) (fun k => e 3 k (by omega)) (fun k => e 4 k (by omega)) (fun k => e 2 k (by omega))
      have B' : zIB τ := zIB_c hB (e 1 2 (by omega)) (fun k => e 2 k (by omega)) (fun k => e 5 k (by omega))
      have k7 := e 7 b (by omega)
      have k8 := e 8 b (by omega)
      obtain ⟨v, hv, hm⟩ := w_calmUnit_r (ρ := ρ) L' H' B' (by rw [r1, e 1 1 (by omega)]) (fun k => by rw [r2, e 2 k (by omega)]) (fun c hc => by rw [e 1 3 (by omega), n2]; exact hP c hc) (kind := τ 7 b) (f := τ 8 b) (t := (k : Int)) (by rw [k7]; exact hk) (by rw [k8, n2]; exact hc) (by rw [n2]; omega)
      have hw := w_carryBody hb (c := (k : Int)) (by omega) hv
      refine ⟨0, [10, b, (k : Int)], zput τ 11 (30 * b + (k : Int)) v, zput τ 11 (30 * b + (k : Int)) v, hw, Or.inl rfl, ?_, ?_, ?_⟩
      · have e := zinc (k := k) (by omega)
        simp only [ls_X0_carry_1, xC_e, xL_e, xU_e, xB_e, xD_e, xF_e, xG_e, xA_e, xE_e, xH_e, xI_e, xZ_e, xK_e, aN_e, aC_e, cR_e, cV_e, cA_e, cO_e, cN_e, bs_e, bn_e, zg_0, zg_S, sS_e, sX_e, sF_e, sG_e, sA_e, sE_e, sEo_e, sK_e, sQ_e, sI_e, sR_e, sV_e, sB_e, sC_e, sD_e, sN_e, st_0, st_S, zc_0, zc_S, e]
      · intro x y hxy
        rw [zput_n (by omega)]
        exact e x y hxy
      · intro c c0 c1
        by_cases q : c = (k : Int)
        · subst q
          rw [zput_self, ← k7, ← k8]
          exact hm
        · rw [zput_i (by omega)]
          exact hr c c0 (by omega))
    (fun τ hI => by
      have e := hI.1 1 2 (by omega)
      have : ¬ (((σ 1 2).toNat : Nat) : Int) < τ 1 2 := by omega
      simp only [lc_X0_carry_1, xC_e, xL_e, xU_e, xB_e, xD_e, xF_e, xG_e, xA_e, xE_e, xH_e, xI_e, xZ_e, xK_e, aN_e, aC_e, cR_e, cV_e, cA_e, cO_e, cN_e, bs_e, bn_e, zg_0, zg_S, sS_e, sX_e, sF_e, sG_e, sA_e, sE_e, sEo_e, sK_e, sQ_e, sI_e, sR_e, sV_e, sB_e, sC_e, sD_e, sN_e, st_0, st_S, zc_0, zc_S, r_lt]
      rw [decide_eq_false this])
    (zf_lt (by omega))
  obtain ⟨τ, hI, hl⟩ := hl
  rw [nn] at hI
  refine ⟨τ, ?_, hI⟩
  have hl2 : sW lc_X0_carry_1 lf_X0_carry_1 ls_X0_carry_1 [10, b, 0] σ = some (0, [10, b, (((σ 1 2).toNat : Nat) : Int)], τ) := hl
  simp [e_X0_carry, d_X0_carry, xC_e, xL_e, xU_e, xB_e, xD_e, xF_e, xG_e, xA_e, xE_e, xH_e, xI_e, xZ_e, xK_e, aN_e, aC_e, cR_e, cV_e, cA_e, cO_e, cN_e, bs_e, bn_e, zg_0, zg_S, sS_e, sX_e, sF_e, sG_e, sA_e, sE_e, sEo_e, sK_e, sQ_e, sI_e, sR_e, sV_e, sB_e, sC_e, sD_e, sN_e, st_0, st_S, zc_0, zc_S, hl2]
