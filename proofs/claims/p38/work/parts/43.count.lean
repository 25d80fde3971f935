theorem zpc1 {a b c d : Nat} (ha : a < 256) (hb : b < 256) (hc : c < 256) (hd : d < 256) : (a + 256 * b + 65536 * c + 16777216 * d + 4294967296 - ((a + 256 * b + 65536 * c + 16777216 * d) / 2 &&& 1431655765)) % 4294967296 = zs1 a + 256 * zs1 b + 65536 * zs1 c + 16777216 * zs1 d := by
  have e : (a + 256 * b + 65536 * c + 16777216 * d) / 2 = (a / 2 + 128 * (b % 2)) + 256 * (b / 2 + 128 * (c % 2)) + 65536 * (c / 2 + 128 * (d % 2)) + 16777216 * (d / 2) := by omega
  rw [e, show (1431655765 : Nat) = 85 + 256 * 85 + 65536 * 85 + 16777216 * 85 by rfl, nand32 85 (by omega) (by omega) (by omega) (by omega) (by omega), zs_85 _ (by omega) _ (by omega), zs_85 _ (by omega) _ (by omega), zs_85 _ (by omega) _ (by omega)]
  have h1 := (zs_t a ha).1
  have h2 := (zs_t b hb).1
  have h3 := (zs_t c hc).1
  have h4 := (zs_t d hd).1
  unfold zs1
  omega
theorem zpc2 {a b c d : Nat} (ha : a < 256) (hb : b < 256) (hc : c < 256) (hd : d < 256) : ((zs1 a + 256 * zs1 b + 65536 * zs1 c + 16777216 * zs1 d &&& 858993459) + ((zs1 a + 256 * zs1 b + 65536 * zs1 c + 16777216 * zs1 d) / 4 &&& 858993459)) % 4294967296 = zs2 a + 256 * zs2 b + 65536 * zs2 c + 16777216 * zs2 d := by
  have h1 := (zs_t a ha).2.1
  have h2 := (zs_t b hb).2.1
  have h3 := (zs_t c hc).2.1
  have h4 := (zs_t d hd).2.1
  unfold zs2
  generalize zs1 a = p at *
  generalize zs1 b = q at *
  generalize zs1 c = r at *
  generalize zs1 d = s at *
  have e : (p + 256 * q + 65536 * r + 16777216 * s) / 4 = (p / 4 + 64 * (q % 4)) + 256 * (q / 4 + 64 * (r % 4)) + 65536 * (r / 4 + 64 * (s % 4)) + 16777216 * (s / 4) := by omega
  rw [e, show (858993459 : Nat) = 51 + 256 * 51 + 65536 * 51 + 16777216 * 51 by rfl, nand32 51 h1 h2 h3 h4 (by omega), nand32 51 (by omega) (by omega) (by omega) (by omega) (by omega), zs_51 _ (by omega) _ (by omega), zs_51 _ (by omega) _ (by omega), zs_51 _ (by omega) _ (by omega)]
  have l1 := zs_le p h1
  have l2 := zs_le q h2
  have l3 := zs_le r h3
  have l4 := zs_le s h4
  have l5 := zs_le (p / 4) (by omega)
  have l6 := zs_le (q / 4) (by omega)
  have l7 := zs_le (r / 4) (by omega)
  have l8 := zs_le (s / 4) (by omega)
  omega
theorem zpc3 {a b c d : Nat} (ha : a < 256) (hb : b < 256) (hc : c < 256) (hd : d < 256) : ((zs2 a + 256 * zs2 b + 65536 * zs2 c + 16777216 * zs2 d + (zs2 a + 256 * zs2 b + 65536 * zs2 c + 16777216 * zs2 d) / 16) % 4294967296 &&& 252645135) = zs3 a + 256 * zs3 b + 65536 * zs3 c + 16777216 * zs3 d := by
  obtain ⟨-, -, h1, k1, -⟩ := zs_t a ha
  obtain ⟨-, -, h2, k2, -⟩ := zs_t b hb
  obtain ⟨-, -, h3, k3, -⟩ := zs_t c hc
  obtain ⟨-, -, h4, k4, -⟩ := zs_t d hd
  unfold zs3
  generalize zs2 a = p at *
  generalize zs2 b = q at *
  generalize zs2 c = r at *
  generalize zs2 d = s at *
  have e : (p + 256 * q + 65536 * r + 16777216 * s + (p + 256 * q + 65536 * r + 16777216 * s) / 16) % 4294967296 = (p + p / 16 + 16 * (q % 16)) + 256 * (q + q / 16 + 16 * (r % 16)) + 65536 * (r + r / 16 + 16 * (s % 16)) + 16777216 * (s + s / 16) := by omega
  rw [e, show (252645135 : Nat) = 15 + 256 * 15 + 65536 * 15 + 16777216 * 15 by rfl, nand32 15 (by omega) (by omega) (by omega) (by omega) (by omega), zs_15 (p + p / 16 + 16 * (q % 16)) (by omega), zs_15 (q + q / 16 + 16 * (r % 16)) (by omega), zs_15 (r + r / 16 + 16 * (s % 16)) (by omega), zs_15 (p + p / 16) (by omega), zs_15 (q + q / 16) (by omega), zs_15 (r + r / 16) (by omega), zs_15 (s + s / 16) (by omega)]
  have f1 : (p + p / 16 + 16 * (q % 16)) % 16 = (p + p / 16) % 16 := by omega
  have f2 : (q + q / 16 + 16 * (r % 16)) % 16 = (q + q / 16) % 16 := by omega
  have f3 : (r + r / 16 + 16 * (s % 16)) % 16 = (r + r / 16) % 16 := by omega
  rw [f1, f2, f3]
theorem zcn_byte (u k : Nat) : zcn (fun i => u.testBit (8 * k + i)) 8 = zcn (u / 2 ^ (8 * k) % 256).testBit 8 := by
  refine zcn_c 8 (fun i hi => ?_)
  rw [show (256 : Nat) = 2 ^ 8 by rfl, Nat.testBit_mod_two_pow, Nat.testBit_div_two_pow, Nat.add_comm i]
  simp [hi]
theorem zcn_32 (u : Nat) : zcn u.testBit 32 = zs3 (u % 256) + zs3 (u / 256 % 256) + zs3 (u / 65536 % 256) + zs3 (u / 16777216 % 256) := by
  have e1 : zcn u.testBit 32 = zcn u.testBit 24 + zcn (fun i => u.testBit (24 + i)) 8 := zcn_add u.testBit 24 8
  have e2 : zcn u.testBit 24 = zcn u.testBit 16 + zcn (fun i => u.testBit (16 + i)) 8 := zcn_add u.testBit 16 8
  have e3 : zcn u.testBit 16 = zcn u.testBit 8 + zcn (fun i => u.testBit (8 + i)) 8 := zcn_add u.testBit 8 8
  have b0 := zcn_byte u 0
  have b1 := zcn_byte u 1
  have b2 := zcn_byte u 2
  have b3 := zcn_byte u 3
  simp only [Nat.mul_zero, Nat.zero_add, Nat.pow_zero, Nat.div_one, Nat.mul_one, Nat.reduceMul, Nat.reducePow] at b0 b1 b2 b3
  have b4 : zcn u.testBit 8 = zcn (u % 256).testBit 8 := b0
  rw [(zs_t _ (by omega)).2.2.2.2, (zs_t _ (by omega)).2.2.2.2, (zs_t _ (by omega)).2.2.2.2, (zs_t _ (by omega)).2.2.2.2]
  omega
def zcnt (x : Int) : Int := (zcn (zt x) 32 : Nat)
theorem zcnt_le (x : Int) : 0 ≤ zcnt x ∧ zcnt x ≤ 32 := by
  have := zcn_le (zt x) 32
  unfold zcnt
  omega
theorem zN_of {x : Int} {n : Nat} (h : r32 x) (h2 : zN32 x = n) (h3 : n < 2147483648) : x = n := by
  unfold r32 at h
  unfold zN32 at h2
  omega
theorem zN_15 : zN32 1431655765 = 1431655765 ∧ zN32 858993459 = 858993459 ∧ zN32 252645135 = 252645135 ∧ zN32 63 = 63 := by decide +kernel
theorem w_bitCount (x : Int) (σ : zHp) : m_J6_bitCount_0f7a4 [x] σ = some (zcnt x, σ) := by
  simp only [e_J6_bitCount_0f7a4, d_J6_bitCount_0f7a4, xC_e, xL_e, xU_e, xB_e, xD_e, xF_e, xG_e, xA_e, xE_e, xH_e, xI_e, xZ_e, xK_e, aN_e, aC_e, cR_e, cV_e, cA_e, cO_e, cN_e, bs_e, bn_e, zg_0, zg_S, sS_e, sX_e, sF_e, sG_e, sA_e, sE_e, sEo_e, sK_e, sQ_e, sI_e, sR_e, sV_e, sB_e, sC_e, sD_e, sN_e, st_0, st_S, zc_0, zc_S]
  have hu := zN_lt x
  generalize hu' : zN32 x = u at hu
  have hz : zcnt x = ((zs3 (u % 256) + zs3 (u / 256 % 256) + zs3 (u / 65536 % 256) + zs3 (u / 16777216 % 256) : Nat) : Int) := by
    unfold zcnt
    rw [← zcn_32, ← hu']
    rw [show zt x = (zN32 x).testBit from funext (zt_N x)]
  have b0 : u % 256 < 256 := by omega
  have b1 : u / 256 % 256 < 256 := by omega
  have b2 : u / 65536 % 256 < 256 := by omega
  have b3 : u / 16777216 % 256 < 256 := by omega
  have e0 : u = u % 256 + 256 * (u / 256 % 256) + 65536 * (u / 65536 % 256) + 16777216 * (u / 16777216 % 256) := by omega
  rw [hz]
  generalize u % 256 = a at *
  generalize u / 256 % 256 = b at *
  generalize u / 65536 % 256 = c at *
  generalize u / 16777216 % 256 = d at *
  have s1 : zN32 (o_isub x (zAnd (zUshr x 1) 1431655765)) = zs1 a + 256 * zs1 b + 65536 * zs1 c + 16777216 * zs1 d := by
    have ush := zN_ushr (c := 1) (by decide) x
    rw [zN_sub, zN_and, zN_15.1, show (1 : Int) = ((1 : Nat) : Int) by rfl, ush, hu', e0]
    exact zpc1 b0 b1 b2 b3
  generalize o_isub x (zAnd (zUshr x 1) 1431655765) = x1 at *
  have s2 : zN32 (o_iadd (zAnd x1 858993459) (zAnd (zUshr x1 2) 858993459)) = zs2 a + 256 * zs2 b + 65536 * zs2 c + 16777216 * zs2 d := by
    have ush := zN_ushr (c := 2) (by decide) x1
    rw [zN_add, zN_and, zN_and, zN_15.2.1, show (2 : Int) = ((2 : Nat) : Int) by rfl, ush, s1]
    exact zpc2 b0 b1 b2 b3
  generalize o_iadd (zAnd x1 858993459) (zAnd (zUshr x1 2) 858993459) = x2 at *
  have s3 : zN32 (zAnd (o_iadd x2 (zUshr x2 4)) 252645135) = zs3 a + 256 * zs3 b + 65536 * zs3 c + 16777216 * zs3 d := by
    have ush := zN_ushr (c := 4) (by decide) x2
    rw [zN_and, zN_add, zN_15.2.2.1, show (4 : Int) = ((4 : Nat) : Int) by rfl, ush, s2]
    exact zpc3 b0 b1 b2 b3
  generalize zAnd (o_iadd x2 (zUshr x2 4)) 252645135 = x3 at *
  have c0 : zs3 a ≤ 8 := by rw [(zs_t a b0).2.2.2.2]; exact zcn_le _ 8
  have c1 : zs3 b ≤ 8 := by rw [(zs_t b b1).2.2.2.2]; exact zcn_le _ 8
  have c2 : zs3 c ≤ 8 := by rw [(zs_t c b2).2.2.2.2]; exact zcn_le _ 8
  have c3 : zs3 d ≤ 8 := by rw [(zs_t d b3).2.2.2.2]; exact zcn_le _ 8
  generalize zs3 a = p at *
  generalize zs3 b = q at *
  generalize zs3 c = r at *
  generalize zs3 d = s at *
  have s4 : zN32 (o_iadd x3 (zUshr x3 8)) = (p + q) + 256 * (q + r) + 65536 * (r + s) + 16777216 * s := by
    have ush := zN_ushr (c := 8) (by decide) x3
    rw [zN_add, show (8 : Int) = ((8 : Nat) : Int) by rfl, ush, s3]
    omega
  generalize o_iadd x3 (zUshr x3 8) = x4 at *
  have s5 : zN32 (o_iadd x4 (zUshr x4 16)) % 64 = p + q + r + s := by
    have ush := zN_ushr (c := 16) (by decide) x4
    rw [zN_add, show (16 : Int) = ((16 : Nat) : Int) by rfl, ush, s4]
    clear hz e0 s1 s2 s3 s4 ush hu hu'
    have d1 : (p + q + 256 * (q + r) + 65536 * (r + s) + 16777216 * s) / 2 ^ 16 = r + s + 256 * s := by omega
    rw [d1]
    have d2 : (p + q + 256 * (q + r) + 65536 * (r + s) + 16777216 * s + (r + s + 256 * s)) % 4294967296 = p + q + r + s + 64 * (4 * (q + r) + 4 * s + 1024 * (r + s) + 262144 * s) := by omega
    rw [d2]
    omega
  generalize hx5 : o_iadd x4 (zUshr x4 16) = x5 at *
  have s6 : zAnd x5 63 = ((p + q + r + s : Nat) : Int) := by
    refine zN_of (r32_and _ _) ?_ (by omega)
    rw [zN_and, zN_15.2.2.2, show (63 : Nat) = 2 ^ 6 - 1 by rfl, Nat.and_two_pow_sub_one_eq_mod]
    exact s5
  simp [s6]
  rfl
