/-! sets of cells as words: bit by bit -/
theorem zt_and (x y : Int) (i : Nat) : zt (zAnd x y) i = (zt x i && zt y i) := by
  unfold zt zAnd
  rw [Int32.ofInt_toInt, Int32.toBitVec_and, BitVec.getLsbD_and]
theorem zt_or (x y : Int) (i : Nat) : zt (zOr x y) i = (zt x i || zt y i) := by
  unfold zt zOr
  rw [Int32.ofInt_toInt, Int32.toBitVec_or, BitVec.getLsbD_or]
theorem zt_xor (x y : Int) (i : Nat) : zt (zXor x y) i = (zt x i ^^ zt y i) := by
  unfold zt zXor
  rw [Int32.ofInt_toInt, Int32.toBitVec_xor, BitVec.getLsbD_xor]
theorem zt_big {x : Int} {i : Nat} (h : 32 ≤ i) : zt x i = false := BitVec.getLsbD_of_ge _ _ h
theorem zt_ext {x y : Int} (hx : r32 x) (hy : r32 y) (h : ∀ i : Nat, i < 32 → zt x i = zt y i) : x = y := by
  have e : Int32.ofInt x = Int32.ofInt y := Int32.toBitVec_inj.mp (BitVec.eq_of_getLsbD_eq h)
  rw [← z32_ti hx, ← z32_ti hy, e]
theorem zsh_n : ∀ c : Nat, c < 32 → ((Int32.ofInt (c : Int) &&& 31).toBitVec.smod 32).toNat = c := by decide +kernel
theorem zsh_u : ∀ c : Nat, c < 32 → (((Int32.ofInt (c : Int)).toUInt32 &&& Int32.toUInt32 31).toBitVec % 32).toNat = c := by decide +kernel
theorem zt_shl {c : Nat} (hc : c < 32) (x : Int) {i : Nat} (hi : i < 32) : zt (zShl x c) i = (decide (c ≤ i) && zt x (i - c)) := by
  unfold zt zShl
  rw [Int32.ofInt_toInt, Int32.toBitVec_shiftLeft]
  show ((Int32.ofInt x).toBitVec <<< ((Int32.ofInt (c : Int) &&& 31).toBitVec.smod 32).toNat).getLsbD i = _
  rw [zsh_n c hc, BitVec.getLsbD_shiftLeft]
  by_cases h : c ≤ i
  · have : ¬ i < c := by omega
    simp [hi, h, this]
  · have : i < c := by omega
    simp [h, this]
theorem zt_shr {c : Nat} (hc : c < 32) (x : Int) {i : Nat} (hi : i < 32) : zt (zShr x c) i = if c + i < 32 then zt x (c + i) else zt x 31 := by
  unfold zt zShr
  rw [Int32.ofInt_toInt, Int32.toBitVec_shiftRight]
  show ((Int32.ofInt x).toBitVec.sshiftRight ((Int32.ofInt (c : Int) &&& 31).toBitVec.smod 32).toNat).getLsbD i = _
  rw [zsh_n c hc, BitVec.getLsbD_sshiftRight, BitVec.msb_eq_getLsbD_last]
  simp [hi]
theorem zbt0 (i : Nat) : zt 0 i = false := BitVec.getLsbD_zero
theorem zbt1 (i : Nat) : zt 1 i = decide (i = 0) := by
  rcases Nat.lt_or_ge i 32 with h | h
  · exact (by decide +kernel : ∀ i, i < 32 → zt 1 i = decide (i = 0)) i h
  · rw [zt_big h, decide_eq_false (by omega)]
theorem zt_bit {c : Nat} (hc : c < 32) (i : Nat) : zt (zShl 1 c) i = decide (i = c) := by
  rcases Nat.lt_or_ge i 32 with h | h
  · rw [zt_shl hc 1 h, zbt1]
    by_cases q : c ≤ i
    · by_cases r : i = c
      · simp [r]
      · have : ¬ i - c = 0 := by omega
        simp [this, r]
    · have : ¬ i = c := by omega
      simp [q, this]
  · rw [zt_big h, decide_eq_false (by omega)]
theorem r32_i (v : Int32) : r32 v.toInt := by
  have h1 := v.le_toInt
  have h2 := v.toInt_lt
  unfold r32
  omega
theorem r32_and (x y : Int) : r32 (zAnd x y) := r32_i _
theorem r32_or (x y : Int) : r32 (zOr x y) := r32_i _
theorem r32_xor (x y : Int) : r32 (zXor x y) := r32_i _
theorem r32_shl (x y : Int) : r32 (zShl x y) := r32_i _
theorem r32_shr (x y : Int) : r32 (zShr x y) := r32_i _
theorem zbit {c : Nat} (hc : c < 32) (x : Int) : zAnd (zShr x c) 1 = if zt x c = true then 1 else 0 := by
  refine zt_ext (r32_and _ _) (by split <;> exact ⟨by decide, by decide⟩) (fun i hi => ?_)
  rw [zt_and, zbt1]
  by_cases h : i = 0
  · subst h
    rw [zt_shr hc x hi, if_pos (by omega)]
    cases zt x c <;> simp [zbt1, zbt0]
  · cases zt x c <;> simp [h, zbt1, zbt0]
theorem zbit_i {c : Int} (hc : 0 ≤ c ∧ c < 32) (x : Int) : zAnd (zShr x c) 1 = if zt x c.toNat = true then 1 else 0 := by
  have e : ((c.toNat : Nat) : Int) = c := by omega
  have := zbit (c := c.toNat) (by omega) x
  rw [e] at this
  exact this
theorem zt_bit_i {c : Int} (hc : 0 ≤ c ∧ c < 32) (i : Nat) : zt (zShl 1 c) i = decide ((i : Int) = c) := by
  have e : ((c.toNat : Nat) : Int) = c := by omega
  have := zt_bit (c := c.toNat) (by omega) i
  rw [e] at this
  rw [this]
  by_cases h : (i : Int) = c
  · have : i = c.toNat := by omega
    rw [decide_eq_true h, decide_eq_true this]
  · have : ¬ i = c.toNat := by omega
    rw [decide_eq_false h, decide_eq_false this]
/-! how many -/
def zcn (f : Nat → Bool) : Nat → Nat
  | 0 => 0
  | n + 1 => zcn f n + if f n = true then 1 else 0
theorem zcn_c {f g : Nat → Bool} : ∀ n : Nat, (∀ i, i < n → f i = g i) → zcn f n = zcn g n
  | 0, _ => rfl
  | n + 1, h => by
    unfold zcn
    rw [zcn_c n (fun i hi => h i (by omega)), h n (by omega)]
theorem zcn_le (f : Nat → Bool) : ∀ n, zcn f n ≤ n
  | 0 => Nat.le_refl _
  | n + 1 => by
    have := zcn_le f n
    unfold zcn
    split <;> omega
theorem zcn_add (f : Nat → Bool) (m : Nat) : ∀ n, zcn f (m + n) = zcn f m + zcn (fun i => f (m + i)) n
  | 0 => rfl
  | n + 1 => by
    show zcn f (m + n) + (if f (m + n) = true then 1 else 0) = zcn f m + (zcn (fun i => f (m + i)) n + if f (m + n) = true then 1 else 0)
    rw [zcn_add f m n]
    omega
def zN32 (x : Int) : Nat := (x % 4294967296).toNat
theorem zN32_bv (x : Int) : (Int32.ofInt x).toBitVec.toNat = zN32 x := by
  show (BitVec.ofInt 32 x).toNat = _
  rw [BitVec.toNat_ofInt]
  rfl
theorem zt_N (x : Int) (i : Nat) : zt x i = (zN32 x).testBit i := by
  rw [← zN32_bv]
  exact BitVec.getLsbD_eq_getElem?_getD.trans (by rw [← BitVec.getLsbD_eq_getElem?_getD]; rfl)
theorem zN_and (x y : Int) : zN32 (zAnd x y) = zN32 x &&& zN32 y := by
  rw [← zN32_bv, ← zN32_bv, ← zN32_bv]
  unfold zAnd
  rw [Int32.ofInt_toInt, Int32.toBitVec_and, BitVec.toNat_and]
theorem zN_ushr {c : Nat} (hc : c < 32) (x : Int) : zN32 (zUshr x c) = zN32 x / 2 ^ c := by
  rw [← zN32_bv, ← zN32_bv]
  unfold zUshr
  rw [Int32.ofInt_toInt]
  show ((Int32.ofInt x).toUInt32 >>> ((Int32.ofInt (c : Int)).toUInt32 &&& Int32.toUInt32 31)).toBitVec.toNat = _
  rw [UInt32.toBitVec_shiftRight]
  show ((Int32.ofInt x).toBitVec >>> (((Int32.ofInt (c : Int)).toUInt32 &&& Int32.toUInt32 31).toBitVec % 32).toNat).toNat = _
  rw [zsh_u c hc, BitVec.toNat_ushiftRight, Nat.shiftRight_eq_div_pow]
theorem zN_add (x y : Int) : zN32 (o_iadd x y) = (zN32 x + zN32 y) % 4294967296 := by
  unfold zN32 o_iadd w32
  omega
theorem zN_sub (x y : Int) : zN32 (o_isub x y) = (zN32 x + 4294967296 - zN32 y) % 4294967296 := by
  unfold zN32 o_isub w32
  omega
theorem zN_lt (x : Int) : zN32 x < 4294967296 := by unfold zN32; omega
/-- byte by byte -/
theorem nand8 {a c : Nat} (m k : Nat) (ha : a < 256) (hc : c < 256) : (a + 256 * m) &&& (c + 256 * k) = (a &&& c) + 256 * (m &&& k) := by
  have h1 := @Nat.and_mod_two_pow (a + 256 * m) (c + 256 * k) 8
  have h2 := @Nat.and_div_two_pow (a + 256 * m) (c + 256 * k) 8
  have e1 : (a + 256 * m) % 2 ^ 8 = a := by omega
  have e2 : (c + 256 * k) % 2 ^ 8 = c := by omega
  have e3 : (a + 256 * m) / 2 ^ 8 = m := by omega
  have e4 : (c + 256 * k) / 2 ^ 8 = k := by omega
  rw [e1, e2] at h1
  rw [e3, e4] at h2
  omega
theorem nand32 {a b c d : Nat} (k : Nat) (ha : a < 256) (hb : b < 256) (hc : c < 256) (hd : d < 256) (hk : k < 256) : (a + 256 * b + 65536 * c + 16777216 * d) &&& (k + 256 * k + 65536 * k + 16777216 * k) = (a &&& k) + 256 * (b &&& k) + 65536 * (c &&& k) + 16777216 * (d &&& k) := by
  rw [show a + 256 * b + 65536 * c + 16777216 * d = a + 256 * (b + 256 * (c + 256 * d)) by omega, show k + 256 * k + 65536 * k + 16777216 * k = k + 256 * (k + 256 * (k + 256 * k)) by omega, nand8 _ _ ha hk, nand8 _ _ hb hk, nand8 _ _ hc hk]
  omega
def zs1 (v : Nat) : Nat := v - (v / 2 &&& 85)
def zs2 (v : Nat) : Nat := (zs1 v &&& 51) + (zs1 v / 4 &&& 51)
def zs3 (v : Nat) : Nat := (zs2 v + zs2 v / 16) &&& 15
theorem zs_t : ∀ v : Nat, v < 256 → (v / 2 &&& 85) ≤ v ∧ zs1 v < 256 ∧ zs2 v ≤ 68 ∧ zs2 v % 16 ≤ 4 ∧ zs3 v = zcn v.testBit 8 := by decide +kernel
theorem zs_85 : ∀ v : Nat, v < 128 → ∀ e : Nat, e < 2 → ((v + 128 * e) &&& 85) = (v &&& 85) := by decide +kernel
theorem zs_51 : ∀ v : Nat, v < 64 → ∀ e : Nat, e < 4 → ((v + 64 * e) &&& 51) = (v &&& 51) := by decide +kernel
theorem zs_le : ∀ v : Nat, v < 256 → (v &&& 51) ≤ 51 := by decide +kernel
theorem zs_15 : ∀ v : Nat, v < 256 → (v &&& 15) = v % 16 := by decide +kernel
