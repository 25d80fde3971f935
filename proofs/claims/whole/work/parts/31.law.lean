/-! the law's loop, out of its 35 calls: I holds between the calls -/
theorem xT_e (e : List Int) (σ : zHp) (L : Nat) (xs : Nat → Int32) (g : zX) : xT L xs g e σ = (g e σ).bind fun q => if 0 ≤ q.1 ∧ q.1 < L then some ((xs q.1.toNat).toInt, q.2) else none := rfl
theorem r_ne_self (x : Int) : r_ne x x = false := by simp [r_ne]
theorem zT {L : Nat} {xs : Nat → Int32} {i : Int} (hi : 0 ≤ i) (hL : i + 7 ≤ L) (hL3 : L ≤ 3584) (k : Int) (h0 : 0 ≤ k) (h6 : k ≤ 6) (τ : zHp) : xT L xs (xB o_iadd (xL 3) (xC k)) [0, 0, 37, i] τ = some ((xs (i + k).toNat).toInt, τ) := by
  have e : o_iadd i k = i + k := w32_id ⟨by omega, by omega⟩
  simp only [xT_e, xB_e, xL_e, xC_e, zg_S, zg_0, bs_e, e]
  rw [if_pos ⟨by omega, by omega⟩]
def zPair (I : zHp → Prop) (f g : List Int → zHp → Option (Int × zHp)) (as : List Int) : Prop := ∀ σ, I σ → ∃ r σ1 σ2, f (0 :: as) σ = some (r, σ1) ∧ g (37 :: as) σ1 = some (r, σ2) ∧ I σ2
def zp_0 (I : zHp → Prop) : Prop := ∀ a1 a2 a3 a4 : Int, r32 a1 → r32 a2 → r32 a3 → r32 a4 → zPair I m_X8_land m_X9_land [a1, a2, a3, a4]
theorem zca_0 {I : zHp → Prop} {L : Nat} {xs : Nat → Int32} {i : Int} {σ : zHp} (hi : 0 ≤ i) (hL : i + 7 ≤ L) (hL3 : L ≤ 3584) (hp : zp_0 I) (hI : I σ) : ∃ σ2, ca_L_law_0 L xs [0, 0, 37, i] σ = some (2, [0, 0, 37, i], σ2) ∧ I σ2 := by
  obtain ⟨r, σ1, σ2, h1, h2, h3⟩ := hp ((xs (i + 1).toNat).toInt) ((xs (i + 2).toNat).toInt) ((xs (i + 3).toNat).toInt) ((xs (i + 4).toNat).toInt) (z32_rt _) (z32_rt _) (z32_rt _) (z32_rt _) σ hI
  refine ⟨σ2, ?_, h3⟩
  have t := fun k h0 h6 τ => zT (xs := xs) hi hL hL3 k h0 h6 τ
  simp only [ca_L_law_0, sQ_e, sI_e, cR_e, xK_e, aC_e, aN_e, xC_e, xZ_e, cV_e, sK_e, sB_e, t 1 (by decide) (by decide), t 2 (by decide) (by decide), t 3 (by decide) (by decide), t 4 (by decide) (by decide), bs_e, h1, h2, r_ne_self]
  rfl
def zp_1 (I : zHp → Prop) : Prop := ∀ a1 a2 : Int, r32 a1 → r32 a2 → zPair I m_X8_ofCell m_X9_ofCell [a1, a2]
theorem zca_1 {I : zHp → Prop} {L : Nat} {xs : Nat → Int32} {i : Int} {σ : zHp} (hi : 0 ≤ i) (hL : i + 7 ≤ L) (hL3 : L ≤ 3584) (hp : zp_1 I) (hI : I σ) : ∃ σ2, ca_L_law_1 L xs [0, 0, 37, i] σ = some (2, [0, 0, 37, i], σ2) ∧ I σ2 := by
  obtain ⟨r, σ1, σ2, h1, h2, h3⟩ := hp ((xs (i + 1).toNat).toInt) ((xs (i + 2).toNat).toInt) (z32_rt _) (z32_rt _) σ hI
  refine ⟨σ2, ?_, h3⟩
  have t := fun k h0 h6 τ => zT (xs := xs) hi hL hL3 k h0 h6 τ
  simp only [ca_L_law_1, sQ_e, sI_e, cR_e, xK_e, aC_e, aN_e, xC_e, xZ_e, cV_e, sK_e, sB_e, t 1 (by decide) (by decide), t 2 (by decide) (by decide), bs_e, h1, h2, r_ne_self]
  rfl
def zp_2 (I : zHp → Prop) : Prop := ∀ a1 a2 : Int, r32 a1 → (a2 = 0 ∨ a2 = 1) → zPair I m_X8_plant m_X9_plant [a1, a2]
theorem zca_2 {I : zHp → Prop} {L : Nat} {xs : Nat → Int32} {i : Int} {σ : zHp} (hi : 0 ≤ i) (hL : i + 7 ≤ L) (hL3 : L ≤ 3584) (hp : zp_2 I) (hI : I σ) : ∃ σ2, ca_L_law_2 L xs [0, 0, 37, i] σ = some (2, [0, 0, 37, i], σ2) ∧ I σ2 := by
  obtain ⟨r, σ1, σ2, h1, h2, h3⟩ := hp ((xs (i + 1).toNat).toInt) ((if r_ne (xs (i + 2).toNat).toInt 0 then 1 else 0)) (z32_rt _) (by split <;> simp) σ hI
  refine ⟨σ2, ?_, h3⟩
  have t := fun k h0 h6 τ => zT (xs := xs) hi hL hL3 k h0 h6 τ
  simp only [ca_L_law_2, sQ_e, sI_e, cR_e, xK_e, aC_e, aN_e, xC_e, xZ_e, cV_e, sK_e, sB_e, t 1 (by decide) (by decide), t 2 (by decide) (by decide), bs_e, h1, h2, r_ne_self]
  rfl
def zp_3 (I : zHp → Prop) : Prop := ∀ a1 : Int, r32 a1 → zPair I m_X8_ear m_X9_ear [a1]
theorem zca_3 {I : zHp → Prop} {L : Nat} {xs : Nat → Int32} {i : Int} {σ : zHp} (hi : 0 ≤ i) (hL : i + 7 ≤ L) (hL3 : L ≤ 3584) (hp : zp_3 I) (hI : I σ) : ∃ σ2, ca_L_law_3 L xs [0, 0, 37, i] σ = some (2, [0, 0, 37, i], σ2) ∧ I σ2 := by
  obtain ⟨r, σ1, σ2, h1, h2, h3⟩ := hp ((xs (i + 1).toNat).toInt) (z32_rt _) σ hI
  refine ⟨σ2, ?_, h3⟩
  have t := fun k h0 h6 τ => zT (xs := xs) hi hL hL3 k h0 h6 τ
  simp only [ca_L_law_3, sQ_e, sI_e, cR_e, xK_e, aC_e, aN_e, xC_e, xZ_e, cV_e, sK_e, sB_e, t 1 (by decide) (by decide), bs_e, h1, h2, r_ne_self]
  rfl
def zp_4 (I : zHp → Prop) : Prop := ∀ a1 a2 a3 : Int, r32 a1 → r32 a2 → r32 a3 → zPair I m_X8_bell m_X9_bell [a1, a2, a3]
theorem zca_4 {I : zHp → Prop} {L : Nat} {xs : Nat → Int32} {i : Int} {σ : zHp} (hi : 0 ≤ i) (hL : i + 7 ≤ L) (hL3 : L ≤ 3584) (hp : zp_4 I) (hI : I σ) : ∃ σ2, ca_L_law_4 L xs [0, 0, 37, i] σ = some (2, [0, 0, 37, i], σ2) ∧ I σ2 := by
  obtain ⟨r, σ1, σ2, h1, h2, h3⟩ := hp ((xs (i + 1).toNat).toInt) ((xs (i + 2).toNat).toInt) ((xs (i + 3).toNat).toInt) (z32_rt _) (z32_rt _) (z32_rt _) σ hI
  refine ⟨σ2, ?_, h3⟩
  have t := fun k h0 h6 τ => zT (xs := xs) hi hL hL3 k h0 h6 τ
  simp only [ca_L_law_4, sQ_e, sI_e, cR_e, xK_e, aC_e, aN_e, xC_e, xZ_e, cV_e, sK_e, sB_e, t 1 (by decide) (by decide), t 2 (by decide) (by decide), t 3 (by decide) (by decide), bs_e, h1, h2, r_ne_self]
  rfl
def zp_5 (I : zHp → Prop) : Prop := ∀ a1 a2 : Int, r32 a1 → r32 a2 → zPair I m_X8_ofBell m_X9_ofBell [a1, a2]
theorem zca_5 {I : zHp → Prop} {L : Nat} {xs : Nat → Int32} {i : Int} {σ : zHp} (hi : 0 ≤ i) (hL : i + 7 ≤ L) (hL3 : L ≤ 3584) (hp : zp_5 I) (hI : I σ) : ∃ σ2, ca_L_law_5 L xs [0, 0, 37, i] σ = some (2, [0, 0, 37, i], σ2) ∧ I σ2 := by
  obtain ⟨r, σ1, σ2, h1, h2, h3⟩ := hp ((xs (i + 1).toNat).toInt) ((xs (i + 2).toNat).toInt) (z32_rt _) (z32_rt _) σ hI
  refine ⟨σ2, ?_, h3⟩
  have t := fun k h0 h6 τ => zT (xs := xs) hi hL hL3 k h0 h6 τ
  simp only [ca_L_law_5, sQ_e, sI_e, cR_e, xK_e, aC_e, aN_e, xC_e, xZ_e, cV_e, sK_e, sB_e, t 1 (by decide) (by decide), t 2 (by decide) (by decide), bs_e, h1, h2, r_ne_self]
  rfl
def zp_6 (I : zHp → Prop) : Prop := ∀ a1 a2 : Int, r32 a1 → r32 a2 → zPair I m_X8_recast m_X9_recast [a1, a2]
theorem zca_6 {I : zHp → Prop} {L : Nat} {xs : Nat → Int32} {i : Int} {σ : zHp} (hi : 0 ≤ i) (hL : i + 7 ≤ L) (hL3 : L ≤ 3584) (hp : zp_6 I) (hI : I σ) : ∃ σ2, ca_L_law_6 L xs [0, 0, 37, i] σ = some (2, [0, 0, 37, i], σ2) ∧ I σ2 := by
  obtain ⟨r, σ1, σ2, h1, h2, h3⟩ := hp ((xs (i + 1).toNat).toInt) ((xs (i + 2).toNat).toInt) (z32_rt _) (z32_rt _) σ hI
  refine ⟨σ2, ?_, h3⟩
  have t := fun k h0 h6 τ => zT (xs := xs) hi hL hL3 k h0 h6 τ
  simp only [ca_L_law_6, sQ_e, sI_e, cR_e, xK_e, aC_e, aN_e, xC_e, xZ_e, cV_e, sK_e, sB_e, t 1 (by decide) (by decide), t 2 (by decide) (by decide), bs_e, h1, h2, r_ne_self]
  rfl
def zp_7 (I : zHp → Prop) : Prop := ∀ a1 a2 a3 a4 : Int, r32 a1 → r32 a2 → r32 a3 → r32 a4 → zPair I m_X8_loud m_X9_loud [a1, a2, a3, a4]
theorem zca_7 {I : zHp → Prop} {L : Nat} {xs : Nat → Int32} {i : Int} {σ : zHp} (hi : 0 ≤ i) (hL : i + 7 ≤ L) (hL3 : L ≤ 3584) (hp : zp_7 I) (hI : I σ) : ∃ σ2, ca_L_law_7 L xs [0, 0, 37, i] σ = some (2, [0, 0, 37, i], σ2) ∧ I σ2 := by
  obtain ⟨r, σ1, σ2, h1, h2, h3⟩ := hp ((xs (i + 1).toNat).toInt) ((xs (i + 2).toNat).toInt) ((xs (i + 3).toNat).toInt) ((xs (i + 4).toNat).toInt) (z32_rt _) (z32_rt _) (z32_rt _) (z32_rt _) σ hI
  refine ⟨σ2, ?_, h3⟩
  have t := fun k h0 h6 τ => zT (xs := xs) hi hL hL3 k h0 h6 τ
  simp only [ca_L_law_7, sQ_e, sI_e, cR_e, xK_e, aC_e, aN_e, xC_e, xZ_e, cV_e, sK_e, sB_e, t 1 (by decide) (by decide), t 2 (by decide) (by decide), t 3 (by decide) (by decide), t 4 (by decide) (by decide), bs_e, h1, h2, r_ne_self]
  rfl
def zp_8 (I : zHp → Prop) : Prop := ∀ a1 a2 : Int, r32 a1 → r32 a2 → zPair I m_X8_whose m_X9_whose [a1, a2]
theorem zca_8 {I : zHp → Prop} {L : Nat} {xs : Nat → Int32} {i : Int} {σ : zHp} (hi : 0 ≤ i) (hL : i + 7 ≤ L) (hL3 : L ≤ 3584) (hp : zp_8 I) (hI : I σ) : ∃ σ2, ca_L_law_8 L xs [0, 0, 37, i] σ = some (2, [0, 0, 37, i], σ2) ∧ I σ2 := by
  obtain ⟨r, σ1, σ2, h1, h2, h3⟩ := hp ((xs (i + 1).toNat).toInt) ((xs (i + 2).toNat).toInt) (z32_rt _) (z32_rt _) σ hI
  refine ⟨σ2, ?_, h3⟩
  have t := fun k h0 h6 τ => zT (xs := xs) hi hL hL3 k h0 h6 τ
  simp only [ca_L_law_8, sQ_e, sI_e, cR_e, xK_e, aC_e, aN_e, xC_e, xZ_e, cV_e, sK_e, sB_e, t 1 (by decide) (by decide), t 2 (by decide) (by decide), bs_e, h1, h2, r_ne_self]
  rfl
def zp_9 (I : zHp → Prop) : Prop := ∀ a1 a2 : Int, r32 a1 → r32 a2 → zPair I m_X8_reach m_X9_reach [a1, a2]
theorem zca_9 {I : zHp → Prop} {L : Nat} {xs : Nat → Int32} {i : Int} {σ : zHp} (hi : 0 ≤ i) (hL : i + 7 ≤ L) (hL3 : L ≤ 3584) (hp : zp_9 I) (hI : I σ) : ∃ σ2, ca_L_law_9 L xs [0, 0, 37, i] σ = some (2, [0, 0, 37, i], σ2) ∧ I σ2 := by
  obtain ⟨r, σ1, σ2, h1, h2, h3⟩ := hp ((xs (i + 1).toNat).toInt) ((xs (i + 2).toNat).toInt) (z32_rt _) (z32_rt _) σ hI
  refine ⟨σ2, ?_, h3⟩
  have t := fun k h0 h6 τ => zT (xs := xs) hi hL hL3 k h0 h6 τ
  simp only [ca_L_law_9, sQ_e, sI_e, cR_e, xK_e, aC_e, aN_e, xC_e, xZ_e, cV_e, sK_e, sB_e, t 1 (by decide) (by decide), t 2 (by decide) (by decide), bs_e, h1, h2, r_ne_self]
  rfl
def zp_10 (I : zHp → Prop) : Prop := ∀ a1 a2 a3 a4 a5 a6 : Int, r32 a1 → r32 a2 → r32 a3 → r32 a4 → r32 a5 → r32 a6 → zPair I m_X8_tithes m_X9_tithes [a1, a2, a3, a4, a5, a6]
theorem zca_10 {I : zHp → Prop} {L : Nat} {xs : Nat → Int32} {i : Int} {σ : zHp} (hi : 0 ≤ i) (hL : i + 7 ≤ L) (hL3 : L ≤ 3584) (hp : zp_10 I) (hI : I σ) : ∃ σ2, ca_L_law_10 L xs [0, 0, 37, i] σ = some (2, [0, 0, 37, i], σ2) ∧ I σ2 := by
  obtain ⟨r, σ1, σ2, h1, h2, h3⟩ := hp ((xs (i + 1).toNat).toInt) ((xs (i + 2).toNat).toInt) ((xs (i + 3).toNat).toInt) ((xs (i + 4).toNat).toInt) ((xs (i + 5).toNat).toInt) ((xs (i + 6).toNat).toInt) (z32_rt _) (z32_rt _) (z32_rt _) (z32_rt _) (z32_rt _) (z32_rt _) σ hI
  refine ⟨σ2, ?_, h3⟩
  have t := fun k h0 h6 τ => zT (xs := xs) hi hL hL3 k h0 h6 τ
  simp only [ca_L_law_10, sQ_e, sI_e, cR_e, xK_e, aC_e, aN_e, xC_e, xZ_e, cV_e, sK_e, sB_e, t 1 (by decide) (by decide), t 2 (by decide) (by decide), t 3 (by decide) (by decide), t 4 (by decide) (by decide), t 5 (by decide) (by decide), t 6 (by decide) (by decide), bs_e, h1, h2, r_ne_self]
  rfl
def zp_11 (I : zHp → Prop) : Prop := ∀ a1 a2 a3 : Int, r32 a1 → r32 a2 → r32 a3 → zPair I m_X8_wins m_X9_wins [a1, a2, a3]
theorem zca_11 {I : zHp → Prop} {L : Nat} {xs : Nat → Int32} {i : Int} {σ : zHp} (hi : 0 ≤ i) (hL : i + 7 ≤ L) (hL3 : L ≤ 3584) (hp : zp_11 I) (hI : I σ) : ∃ σ2, ca_L_law_11 L xs [0, 0, 37, i] σ = some (2, [0, 0, 37, i], σ2) ∧ I σ2 := by
  obtain ⟨r, σ1, σ2, h1, h2, h3⟩ := hp ((xs (i + 1).toNat).toInt) ((xs (i + 2).toNat).toInt) ((xs (i + 3).toNat).toInt) (z32_rt _) (z32_rt _) (z32_rt _) σ hI
  refine ⟨σ2, ?_, h3⟩
  have t := fun k h0 h6 τ => zT (xs := xs) hi hL hL3 k h0 h6 τ
  simp only [ca_L_law_11, sQ_e, sI_e, cR_e, xK_e, aC_e, aN_e, xC_e, xZ_e, cV_e, sK_e, sB_e, t 1 (by decide) (by decide), t 2 (by decide) (by decide), t 3 (by decide) (by decide), bs_e, h1, h2, r_ne_self]
  rfl
def zp_12 (I : zHp → Prop) : Prop := ∀ a1 a2 a3 : Int, r32 a1 → r32 a2 → r32 a3 → zPair I m_X8_cheapest m_X9_cheapest [a1, a2, a3]
theorem zca_12 {I : zHp → Prop} {L : Nat} {xs : Nat → Int32} {i : Int} {σ : zHp} (hi : 0 ≤ i) (hL : i + 7 ≤ L) (hL3 : L ≤ 3584) (hp : zp_12 I) (hI : I σ) : ∃ σ2, ca_L_law_12 L xs [0, 0, 37, i] σ = some (2, [0, 0, 37, i], σ2) ∧ I σ2 := by
  obtain ⟨r, σ1, σ2, h1, h2, h3⟩ := hp ((xs (i + 1).toNat).toInt) ((xs (i + 2).toNat).toInt) ((xs (i + 3).toNat).toInt) (z32_rt _) (z32_rt _) (z32_rt _) σ hI
  refine ⟨σ2, ?_, h3⟩
  have t := fun k h0 h6 τ => zT (xs := xs) hi hL hL3 k h0 h6 τ
  simp only [ca_L_law_12, sQ_e, sI_e, cR_e, xK_e, aC_e, aN_e, xC_e, xZ_e, cV_e, sK_e, sB_e, t 1 (by decide) (by decide), t 2 (by decide) (by decide), t 3 (by decide) (by decide), bs_e, h1, h2, r_ne_self]
  rfl
def zp_13 (I : zHp → Prop) : Prop := ∀ a1 a2 a3 a4 : Int, r32 a1 → r32 a2 → r32 a3 → r32 a4 → zPair I m_X8_hang m_X9_hang [a1, a2, a3, a4]
theorem zca_13 {I : zHp → Prop} {L : Nat} {xs : Nat → Int32} {i : Int} {σ : zHp} (hi : 0 ≤ i) (hL : i + 7 ≤ L) (hL3 : L ≤ 3584) (hp : zp_13 I) (hI : I σ) : ∃ σ2, ca_L_law_13 L xs [0, 0, 37, i] σ = some (2, [0, 0, 37, i], σ2) ∧ I σ2 := by
  obtain ⟨r, σ1, σ2, h1, h2, h3⟩ := hp ((xs (i + 1).toNat).toInt) ((xs (i + 2).toNat).toInt) ((xs (i + 3).toNat).toInt) ((xs (i + 4).toNat).toInt) (z32_rt _) (z32_rt _) (z32_rt _) (z32_rt _) σ hI
  refine ⟨σ2, ?_, h3⟩
  have t := fun k h0 h6 τ => zT (xs := xs) hi hL hL3 k h0 h6 τ
  simp only [ca_L_law_13, sQ_e, sI_e, cR_e, xK_e, aC_e, aN_e, xC_e, xZ_e, cV_e, sK_e, sB_e, t 1 (by decide) (by decide), t 2 (by decide) (by decide), t 3 (by decide) (by decide), t 4 (by decide) (by decide), bs_e, h1, h2, r_ne_self]
  rfl
def zp_14 (I : zHp → Prop) : Prop := ∀ a1 a2 a3 : Int, r32 a1 → r32 a2 → r32 a3 → zPair I m_X8_together m_X9_together [a1, a2, a3]
theorem zca_14 {I : zHp → Prop} {L : Nat} {xs : Nat → Int32} {i : Int} {σ : zHp} (hi : 0 ≤ i) (hL : i + 7 ≤ L) (hL3 : L ≤ 3584) (hp : zp_14 I) (hI : I σ) : ∃ σ2, ca_L_law_14 L xs [0, 0, 37, i] σ = some (2, [0, 0, 37, i], σ2) ∧ I σ2 := by
  obtain ⟨r, σ1, σ2, h1, h2, h3⟩ := hp ((xs (i + 1).toNat).toInt) ((xs (i + 2).toNat).toInt) ((xs (i + 3).toNat).toInt) (z32_rt _) (z32_rt _) (z32_rt _) σ hI
  refine ⟨σ2, ?_, h3⟩
  have t := fun k h0 h6 τ => zT (xs := xs) hi hL hL3 k h0 h6 τ
  simp only [ca_L_law_14, sQ_e, sI_e, cR_e, xK_e, aC_e, aN_e, xC_e, xZ_e, cV_e, sK_e, sB_e, t 1 (by decide) (by decide), t 2 (by decide) (by decide), t 3 (by decide) (by decide), bs_e, h1, h2, r_ne_self]
  rfl
def zp_15 (I : zHp → Prop) : Prop := ∀ a1 a2 : Int, r32 a1 → r32 a2 → zPair I m_X8_pacts m_X9_pacts [a1, a2]
theorem zca_15 {I : zHp → Prop} {L : Nat} {xs : Nat → Int32} {i : Int} {σ : zHp} (hi : 0 ≤ i) (hL : i + 7 ≤ L) (hL3 : L ≤ 3584) (hp : zp_15 I) (hI : I σ) : ∃ σ2, ca_L_law_15 L xs [0, 0, 37, i] σ = some (2, [0, 0, 37, i], σ2) ∧ I σ2 := by
  obtain ⟨r, σ1, σ2, h1, h2, h3⟩ := hp ((xs (i + 1).toNat).toInt) ((xs (i + 2).toNat).toInt) (z32_rt _) (z32_rt _) σ hI
  refine ⟨σ2, ?_, h3⟩
  have t := fun k h0 h6 τ => zT (xs := xs) hi hL hL3 k h0 h6 τ
  simp only [ca_L_law_15, sQ_e, sI_e, cR_e, xK_e, aC_e, aN_e, xC_e, xZ_e, cV_e, sK_e, sB_e, t 1 (by decide) (by decide), t 2 (by decide) (by decide), bs_e, h1, h2, r_ne_self]
  rfl
def zp_16 (I : zHp → Prop) : Prop := ∀ a1 a2 a3 a4 : Int, r32 a1 → r32 a2 → r32 a3 → r32 a4 → zPair I m_X8_report m_X9_report [a1, a2, a3, a4]
theorem zca_16 {I : zHp → Prop} {L : Nat} {xs : Nat → Int32} {i : Int} {σ : zHp} (hi : 0 ≤ i) (hL : i + 7 ≤ L) (hL3 : L ≤ 3584) (hp : zp_16 I) (hI : I σ) : ∃ σ2, ca_L_law_16 L xs [0, 0, 37, i] σ = some (2, [0, 0, 37, i], σ2) ∧ I σ2 := by
  obtain ⟨r, σ1, σ2, h1, h2, h3⟩ := hp ((xs (i + 1).toNat).toInt) ((xs (i + 2).toNat).toInt) ((xs (i + 3).toNat).toInt) ((xs (i + 4).toNat).toInt) (z32_rt _) (z32_rt _) (z32_rt _) (z32_rt _) σ hI
  refine ⟨σ2, ?_, h3⟩
  have t := fun k h0 h6 τ => zT (xs := xs) hi hL hL3 k h0 h6 τ
  simp only [ca_L_law_16, sQ_e, sI_e, cR_e, xK_e, aC_e, aN_e, xC_e, xZ_e, cV_e, sK_e, sB_e, t 1 (by decide) (by decide), t 2 (by decide) (by decide), t 3 (by decide) (by decide), t 4 (by decide) (by decide), bs_e, h1, h2, r_ne_self]
  rfl
def zp_17 (I : zHp → Prop) : Prop := ∀ a1 : Int, r32 a1 → zPair I m_X8_back m_X9_back [a1]
theorem zca_17 {I : zHp → Prop} {L : Nat} {xs : Nat → Int32} {i : Int} {σ : zHp} (hi : 0 ≤ i) (hL : i + 7 ≤ L) (hL3 : L ≤ 3584) (hp : zp_17 I) (hI : I σ) : ∃ σ2, ca_L_law_17 L xs [0, 0, 37, i] σ = some (2, [0, 0, 37, i], σ2) ∧ I σ2 := by
  obtain ⟨r, σ1, σ2, h1, h2, h3⟩ := hp ((xs (i + 1).toNat).toInt) (z32_rt _) σ hI
  refine ⟨σ2, ?_, h3⟩
  have t := fun k h0 h6 τ => zT (xs := xs) hi hL hL3 k h0 h6 τ
  simp only [ca_L_law_17, sQ_e, sI_e, cR_e, xK_e, aC_e, aN_e, xC_e, xZ_e, cV_e, sK_e, sB_e, t 1 (by decide) (by decide), bs_e, h1, h2, r_ne_self]
  rfl
def zp_18 (I : zHp → Prop) : Prop := zPair I m_X8_untrue m_X9_untrue []
theorem zca_18 {I : zHp → Prop} {L : Nat} {xs : Nat → Int32} {i : Int} {σ : zHp} (hi : 0 ≤ i) (hL : i + 7 ≤ L) (hL3 : L ≤ 3584) (hp : zp_18 I) (hI : I σ) : ∃ σ2, ca_L_law_18 L xs [0, 0, 37, i] σ = some (2, [0, 0, 37, i], σ2) ∧ I σ2 := by
  obtain ⟨r, σ1, σ2, h1, h2, h3⟩ := hp  σ hI
  refine ⟨σ2, ?_, h3⟩
  have t := fun k h0 h6 τ => zT (xs := xs) hi hL hL3 k h0 h6 τ
  simp only [ca_L_law_18, sQ_e, sI_e, cR_e, xK_e, aC_e, aN_e, xC_e, xZ_e, cV_e, sK_e, sB_e, bs_e, h1, h2, r_ne_self]
  rfl
def zp_19 (I : zHp → Prop) : Prop := ∀ a1 a2 : Int, r32 a1 → r32 a2 → zPair I m_X8_leaves m_X9_leaves [a1, a2]
theorem zca_19 {I : zHp → Prop} {L : Nat} {xs : Nat → Int32} {i : Int} {σ : zHp} (hi : 0 ≤ i) (hL : i + 7 ≤ L) (hL3 : L ≤ 3584) (hp : zp_19 I) (hI : I σ) : ∃ σ2, ca_L_law_19 L xs [0, 0, 37, i] σ = some (2, [0, 0, 37, i], σ2) ∧ I σ2 := by
  obtain ⟨r, σ1, σ2, h1, h2, h3⟩ := hp ((xs (i + 1).toNat).toInt) ((xs (i + 2).toNat).toInt) (z32_rt _) (z32_rt _) σ hI
  refine ⟨σ2, ?_, h3⟩
  have t := fun k h0 h6 τ => zT (xs := xs) hi hL hL3 k h0 h6 τ
  simp only [ca_L_law_19, sQ_e, sI_e, cR_e, xK_e, aC_e, aN_e, xC_e, xZ_e, cV_e, sK_e, sB_e, t 1 (by decide) (by decide), t 2 (by decide) (by decide), bs_e, h1, h2, r_ne_self]
  rfl
def zp_20 (I : zHp → Prop) : Prop := ∀ a1 a2 a3 a4 : Int, r32 a1 → r32 a2 → r32 a3 → r32 a4 → zPair I m_X8_keep m_X9_keep [a1, a2, a3, a4]
theorem zca_20 {I : zHp → Prop} {L : Nat} {xs : Nat → Int32} {i : Int} {σ : zHp} (hi : 0 ≤ i) (hL : i + 7 ≤ L) (hL3 : L ≤ 3584) (hp : zp_20 I) (hI : I σ) : ∃ σ2, ca_L_law_20 L xs [0, 0, 37, i] σ = some (2, [0, 0, 37, i], σ2) ∧ I σ2 := by
  obtain ⟨r, σ1, σ2, h1, h2, h3⟩ := hp ((xs (i + 1).toNat).toInt) ((xs (i + 2).toNat).toInt) ((xs (i + 3).toNat).toInt) ((xs (i + 4).toNat).toInt) (z32_rt _) (z32_rt _) (z32_rt _) (z32_rt _) σ hI
  refine ⟨σ2, ?_, h3⟩
  have t := fun k h0 h6 τ => zT (xs := xs) hi hL hL3 k h0 h6 τ
  simp only [ca_L_law_20, sQ_e, sI_e, cR_e, xK_e, aC_e, aN_e, xC_e, xZ_e, cV_e, sK_e, sB_e, t 1 (by decide) (by decide), t 2 (by decide) (by decide), t 3 (by decide) (by decide), t 4 (by decide) (by decide), bs_e, h1, h2, r_ne_self]
  rfl
def zp_21 (I : zHp → Prop) : Prop := ∀ a1 a2 : Int, r32 a1 → r32 a2 → zPair I m_X8_turns m_X9_turns [a1, a2]
theorem zca_21 {I : zHp → Prop} {L : Nat} {xs : Nat → Int32} {i : Int} {σ : zHp} (hi : 0 ≤ i) (hL : i + 7 ≤ L) (hL3 : L ≤ 3584) (hp : zp_21 I) (hI : I σ) : ∃ σ2, ca_L_law_21 L xs [0, 0, 37, i] σ = some (2, [0, 0, 37, i], σ2) ∧ I σ2 := by
  obtain ⟨r, σ1, σ2, h1, h2, h3⟩ := hp ((xs (i + 1).toNat).toInt) ((xs (i + 2).toNat).toInt) (z32_rt _) (z32_rt _) σ hI
  refine ⟨σ2, ?_, h3⟩
  have t := fun k h0 h6 τ => zT (xs := xs) hi hL hL3 k h0 h6 τ
  simp only [ca_L_law_21, sQ_e, sI_e, cR_e, xK_e, aC_e, aN_e, xC_e, xZ_e, cV_e, sK_e, sB_e, t 1 (by decide) (by decide), t 2 (by decide) (by decide), bs_e, h1, h2, r_ne_self]
  rfl
def zp_22 (I : zHp → Prop) : Prop := ∀ a1 a2 : Int, r32 a1 → r32 a2 → zPair I m_X8_settles m_X9_settles [a1, a2]
theorem zca_22 {I : zHp → Prop} {L : Nat} {xs : Nat → Int32} {i : Int} {σ : zHp} (hi : 0 ≤ i) (hL : i + 7 ≤ L) (hL3 : L ≤ 3584) (hp : zp_22 I) (hI : I σ) : ∃ σ2, ca_L_law_22 L xs [0, 0, 37, i] σ = some (2, [0, 0, 37, i], σ2) ∧ I σ2 := by
  obtain ⟨r, σ1, σ2, h1, h2, h3⟩ := hp ((xs (i + 1).toNat).toInt) ((xs (i + 2).toNat).toInt) (z32_rt _) (z32_rt _) σ hI
  refine ⟨σ2, ?_, h3⟩
  have t := fun k h0 h6 τ => zT (xs := xs) hi hL hL3 k h0 h6 τ
  simp only [ca_L_law_22, sQ_e, sI_e, cR_e, xK_e, aC_e, aN_e, xC_e, xZ_e, cV_e, sK_e, sB_e, t 1 (by decide) (by decide), t 2 (by decide) (by decide), bs_e, h1, h2, r_ne_self]
  rfl
def zp_23 (I : zHp → Prop) : Prop := ∀ a1 a2 a3 : Int, r32 a1 → r32 a2 → r32 a3 → zPair I m_X8_after m_X9_after [a1, a2, a3]
theorem zca_23 {I : zHp → Prop} {L : Nat} {xs : Nat → Int32} {i : Int} {σ : zHp} (hi : 0 ≤ i) (hL : i + 7 ≤ L) (hL3 : L ≤ 3584) (hp : zp_23 I) (hI : I σ) : ∃ σ2, ca_L_law_23 L xs [0, 0, 37, i] σ = some (2, [0, 0, 37, i], σ2) ∧ I σ2 := by
  obtain ⟨r, σ1, σ2, h1, h2, h3⟩ := hp ((xs (i + 1).toNat).toInt) ((xs (i + 2).toNat).toInt) ((xs (i + 3).toNat).toInt) (z32_rt _) (z32_rt _) (z32_rt _) σ hI
  refine ⟨σ2, ?_, h3⟩
  have t := fun k h0 h6 τ => zT (xs := xs) hi hL hL3 k h0 h6 τ
  simp only [ca_L_law_23, sQ_e, sI_e, cR_e, xK_e, aC_e, aN_e, xC_e, xZ_e, cV_e, sK_e, sB_e, t 1 (by decide) (by decide), t 2 (by decide) (by decide), t 3 (by decide) (by decide), bs_e, h1, h2, r_ne_self]
  rfl
def zp_24 (I : zHp → Prop) : Prop := ∀ a1 a2 a3 : Int, r32 a1 → r32 a2 → r32 a3 → zPair I m_X8_sheet m_X9_sheet [a1, a2, a3]
theorem zca_24 {I : zHp → Prop} {L : Nat} {xs : Nat → Int32} {i : Int} {σ : zHp} (hi : 0 ≤ i) (hL : i + 7 ≤ L) (hL3 : L ≤ 3584) (hp : zp_24 I) (hI : I σ) : ∃ σ2, ca_L_law_24 L xs [0, 0, 37, i] σ = some (2, [0, 0, 37, i], σ2) ∧ I σ2 := by
  obtain ⟨r, σ1, σ2, h1, h2, h3⟩ := hp ((xs (i + 1).toNat).toInt) ((xs (i + 2).toNat).toInt) ((xs (i + 3).toNat).toInt) (z32_rt _) (z32_rt _) (z32_rt _) σ hI
  refine ⟨σ2, ?_, h3⟩
  have t := fun k h0 h6 τ => zT (xs := xs) hi hL hL3 k h0 h6 τ
  simp only [ca_L_law_24, sQ_e, sI_e, cR_e, xK_e, aC_e, aN_e, xC_e, xZ_e, cV_e, sK_e, sB_e, t 1 (by decide) (by decide), t 2 (by decide) (by decide), t 3 (by decide) (by decide), bs_e, h1, h2, r_ne_self]
  rfl
def zp_25 (I : zHp → Prop) : Prop := ∀ a1 : Int, r32 a1 → zPair I m_X8_lose m_X9_lose [a1]
theorem zca_25 {I : zHp → Prop} {L : Nat} {xs : Nat → Int32} {i : Int} {σ : zHp} (hi : 0 ≤ i) (hL : i + 7 ≤ L) (hL3 : L ≤ 3584) (hp : zp_25 I) (hI : I σ) : ∃ σ2, ca_L_law_25 L xs [0, 0, 37, i] σ = some (2, [0, 0, 37, i], σ2) ∧ I σ2 := by
  obtain ⟨r, σ1, σ2, h1, h2, h3⟩ := hp ((xs (i + 1).toNat).toInt) (z32_rt _) σ hI
  refine ⟨σ2, ?_, h3⟩
  have t := fun k h0 h6 τ => zT (xs := xs) hi hL hL3 k h0 h6 τ
  simp only [ca_L_law_25, sQ_e, sI_e, cR_e, xK_e, aC_e, aN_e, xC_e, xZ_e, cV_e, sK_e, sB_e, t 1 (by decide) (by decide), bs_e, h1, h2, r_ne_self]
  rfl
def zp_26 (I : zHp → Prop) : Prop := ∀ a1 a2 a3 : Int, r32 a1 → r32 a2 → r32 a3 → zPair I m_X8_put m_X9_put [a1, a2, a3]
theorem zca_26 {I : zHp → Prop} {L : Nat} {xs : Nat → Int32} {i : Int} {σ : zHp} (hi : 0 ≤ i) (hL : i + 7 ≤ L) (hL3 : L ≤ 3584) (hp : zp_26 I) (hI : I σ) : ∃ σ2, ca_L_law_26 L xs [0, 0, 37, i] σ = some (2, [0, 0, 37, i], σ2) ∧ I σ2 := by
  obtain ⟨r, σ1, σ2, h1, h2, h3⟩ := hp ((xs (i + 1).toNat).toInt) ((xs (i + 2).toNat).toInt) ((xs (i + 3).toNat).toInt) (z32_rt _) (z32_rt _) (z32_rt _) σ hI
  refine ⟨σ2, ?_, h3⟩
  have t := fun k h0 h6 τ => zT (xs := xs) hi hL hL3 k h0 h6 τ
  simp only [ca_L_law_26, sQ_e, sI_e, cR_e, xK_e, aC_e, aN_e, xC_e, xZ_e, cV_e, sK_e, sB_e, t 1 (by decide) (by decide), t 2 (by decide) (by decide), t 3 (by decide) (by decide), bs_e, h1, h2, r_ne_self]
  rfl
def zp_27 (I : zHp → Prop) : Prop := ∀ a1 a2 a3 : Int, r32 a1 → r32 a2 → r32 a3 → zPair I m_X8_cell m_X9_cell [a1, a2, a3]
theorem zca_27 {I : zHp → Prop} {L : Nat} {xs : Nat → Int32} {i : Int} {σ : zHp} (hi : 0 ≤ i) (hL : i + 7 ≤ L) (hL3 : L ≤ 3584) (hp : zp_27 I) (hI : I σ) : ∃ σ2, ca_L_law_27 L xs [0, 0, 37, i] σ = some (2, [0, 0, 37, i], σ2) ∧ I σ2 := by
  obtain ⟨r, σ1, σ2, h1, h2, h3⟩ := hp ((xs (i + 1).toNat).toInt) ((xs (i + 2).toNat).toInt) ((xs (i + 3).toNat).toInt) (z32_rt _) (z32_rt _) (z32_rt _) σ hI
  refine ⟨σ2, ?_, h3⟩
  have t := fun k h0 h6 τ => zT (xs := xs) hi hL hL3 k h0 h6 τ
  simp only [ca_L_law_27, sQ_e, sI_e, cR_e, xK_e, aC_e, aN_e, xC_e, xZ_e, cV_e, sK_e, sB_e, t 1 (by decide) (by decide), t 2 (by decide) (by decide), t 3 (by decide) (by decide), bs_e, h1, h2, r_ne_self]
  rfl
def zp_28 (I : zHp → Prop) : Prop := ∀ a1 a2 a3 a4 a5 : Int, r32 a1 → r32 a2 → r32 a3 → r32 a4 → r32 a5 → zPair I m_X8_copy m_X9_copy [a1, a2, a3, a4, a5]
theorem zca_28 {I : zHp → Prop} {L : Nat} {xs : Nat → Int32} {i : Int} {σ : zHp} (hi : 0 ≤ i) (hL : i + 7 ≤ L) (hL3 : L ≤ 3584) (hp : zp_28 I) (hI : I σ) : ∃ σ2, ca_L_law_28 L xs [0, 0, 37, i] σ = some (2, [0, 0, 37, i], σ2) ∧ I σ2 := by
  obtain ⟨r, σ1, σ2, h1, h2, h3⟩ := hp ((xs (i + 1).toNat).toInt) ((xs (i + 2).toNat).toInt) ((xs (i + 3).toNat).toInt) ((xs (i + 4).toNat).toInt) ((xs (i + 5).toNat).toInt) (z32_rt _) (z32_rt _) (z32_rt _) (z32_rt _) (z32_rt _) σ hI
  refine ⟨σ2, ?_, h3⟩
  have t := fun k h0 h6 τ => zT (xs := xs) hi hL hL3 k h0 h6 τ
  simp only [ca_L_law_28, sQ_e, sI_e, cR_e, xK_e, aC_e, aN_e, xC_e, xZ_e, cV_e, sK_e, sB_e, t 1 (by decide) (by decide), t 2 (by decide) (by decide), t 3 (by decide) (by decide), t 4 (by decide) (by decide), t 5 (by decide) (by decide), bs_e, h1, h2, r_ne_self]
  rfl
def zp_29 (I : zHp → Prop) : Prop := ∀ a1 : Int, r32 a1 → zPair I m_X8_tell m_X9_tell [a1]
theorem zca_29 {I : zHp → Prop} {L : Nat} {xs : Nat → Int32} {i : Int} {σ : zHp} (hi : 0 ≤ i) (hL : i + 7 ≤ L) (hL3 : L ≤ 3584) (hp : zp_29 I) (hI : I σ) : ∃ σ2, ca_L_law_29 L xs [0, 0, 37, i] σ = some (2, [0, 0, 37, i], σ2) ∧ I σ2 := by
  obtain ⟨r, σ1, σ2, h1, h2, h3⟩ := hp ((xs (i + 1).toNat).toInt) (z32_rt _) σ hI
  refine ⟨σ2, ?_, h3⟩
  have t := fun k h0 h6 τ => zT (xs := xs) hi hL hL3 k h0 h6 τ
  simp only [ca_L_law_29, sQ_e, sI_e, cR_e, xK_e, aC_e, aN_e, xC_e, xZ_e, cV_e, sK_e, sB_e, t 1 (by decide) (by decide), bs_e, h1, h2, r_ne_self]
  rfl
def zp_30 (I : zHp → Prop) : Prop := ∀ a1 : Int, r32 a1 → zPair I m_X8_bless m_X9_bless [a1]
theorem zca_30 {I : zHp → Prop} {L : Nat} {xs : Nat → Int32} {i : Int} {σ : zHp} (hi : 0 ≤ i) (hL : i + 7 ≤ L) (hL3 : L ≤ 3584) (hp : zp_30 I) (hI : I σ) : ∃ σ2, ca_L_law_30 L xs [0, 0, 37, i] σ = some (2, [0, 0, 37, i], σ2) ∧ I σ2 := by
  obtain ⟨r, σ1, σ2, h1, h2, h3⟩ := hp ((xs (i + 1).toNat).toInt) (z32_rt _) σ hI
  refine ⟨σ2, ?_, h3⟩
  have t := fun k h0 h6 τ => zT (xs := xs) hi hL hL3 k h0 h6 τ
  simp only [ca_L_law_30, sQ_e, sI_e, cR_e, xK_e, aC_e, aN_e, xC_e, xZ_e, cV_e, sK_e, sB_e, t 1 (by decide) (by decide), bs_e, h1, h2, r_ne_self]
  rfl
def zp_31 (I : zHp → Prop) : Prop := ∀ a1 a2 : Int, r32 a1 → r32 a2 → zPair I m_X8_as m_X9_as [a1, a2]
theorem zca_31 {I : zHp → Prop} {L : Nat} {xs : Nat → Int32} {i : Int} {σ : zHp} (hi : 0 ≤ i) (hL : i + 7 ≤ L) (hL3 : L ≤ 3584) (hp : zp_31 I) (hI : I σ) : ∃ σ2, ca_L_law_31 L xs [0, 0, 37, i] σ = some (2, [0, 0, 37, i], σ2) ∧ I σ2 := by
  obtain ⟨r, σ1, σ2, h1, h2, h3⟩ := hp ((xs (i + 1).toNat).toInt) ((xs (i + 2).toNat).toInt) (z32_rt _) (z32_rt _) σ hI
  refine ⟨σ2, ?_, h3⟩
  have t := fun k h0 h6 τ => zT (xs := xs) hi hL hL3 k h0 h6 τ
  simp only [ca_L_law_31, sQ_e, sI_e, cR_e, xK_e, aC_e, aN_e, xC_e, xZ_e, cV_e, sK_e, sB_e, t 1 (by decide) (by decide), t 2 (by decide) (by decide), bs_e, h1, h2, r_ne_self]
  rfl
def zp_32 (I : zHp → Prop) : Prop := zPair I m_X8_trace m_X9_trace []
theorem zca_32 {I : zHp → Prop} {L : Nat} {xs : Nat → Int32} {i : Int} {σ : zHp} (hi : 0 ≤ i) (hL : i + 7 ≤ L) (hL3 : L ≤ 3584) (hp : zp_32 I) (hI : I σ) : ∃ σ2, ca_L_law_32 L xs [0, 0, 37, i] σ = some (2, [0, 0, 37, i], σ2) ∧ I σ2 := by
  obtain ⟨r, σ1, σ2, h1, h2, h3⟩ := hp  σ hI
  refine ⟨σ2, ?_, h3⟩
  have t := fun k h0 h6 τ => zT (xs := xs) hi hL hL3 k h0 h6 τ
  simp only [ca_L_law_32, sQ_e, sI_e, cR_e, xK_e, aC_e, aN_e, xC_e, xZ_e, cV_e, sK_e, sB_e, bs_e, h1, h2, r_ne_self]
  rfl
def zp_33 (I : zHp → Prop) : Prop := zPair I m_X8_fault m_X9_fault []
theorem zca_33 {I : zHp → Prop} {L : Nat} {xs : Nat → Int32} {i : Int} {σ : zHp} (hi : 0 ≤ i) (hL : i + 7 ≤ L) (hL3 : L ≤ 3584) (hp : zp_33 I) (hI : I σ) : ∃ σ2, ca_L_law_33 L xs [0, 0, 37, i] σ = some (2, [0, 0, 37, i], σ2) ∧ I σ2 := by
  obtain ⟨r, σ1, σ2, h1, h2, h3⟩ := hp  σ hI
  refine ⟨σ2, ?_, h3⟩
  have t := fun k h0 h6 τ => zT (xs := xs) hi hL hL3 k h0 h6 τ
  simp only [ca_L_law_33, sQ_e, sI_e, cR_e, xK_e, aC_e, aN_e, xC_e, xZ_e, cV_e, sK_e, sB_e, bs_e, h1, h2, r_ne_self]
  rfl
def zp_34 (I : zHp → Prop) : Prop := ∀ a1 : Int, r32 a1 → zPair I m_X8_many m_X9_many [a1]
theorem zca_34 {I : zHp → Prop} {L : Nat} {xs : Nat → Int32} {i : Int} {σ : zHp} (hi : 0 ≤ i) (hL : i + 7 ≤ L) (hL3 : L ≤ 3584) (hp : zp_34 I) (hI : I σ) : ∃ σ2, ca_L_law_34 L xs [0, 0, 37, i] σ = some (2, [0, 0, 37, i], σ2) ∧ I σ2 := by
  obtain ⟨r, σ1, σ2, h1, h2, h3⟩ := hp ((xs (i + 1).toNat).toInt) (z32_rt _) σ hI
  refine ⟨σ2, ?_, h3⟩
  have t := fun k h0 h6 τ => zT (xs := xs) hi hL hL3 k h0 h6 τ
  simp only [ca_L_law_34, sQ_e, sI_e, cR_e, xK_e, aC_e, aN_e, xC_e, xZ_e, cV_e, sK_e, sB_e, t 1 (by decide) (by decide), bs_e, h1, h2, r_ne_self]
  rfl
def zCalls (I : zHp → Prop) : Prop := zp_0 I ∧ zp_1 I ∧ zp_2 I ∧ zp_3 I ∧ zp_4 I ∧ zp_5 I ∧ zp_6 I ∧ zp_7 I ∧ zp_8 I ∧ zp_9 I ∧ zp_10 I ∧ zp_11 I ∧ zp_12 I ∧ zp_13 I ∧ zp_14 I ∧ zp_15 I ∧ zp_16 I ∧ zp_17 I ∧ zp_18 I ∧ zp_19 I ∧ zp_20 I ∧ zp_21 I ∧ zp_22 I ∧ zp_23 I ∧ zp_24 I ∧ zp_25 I ∧ zp_26 I ∧ zp_27 I ∧ zp_28 I ∧ zp_29 I ∧ zp_30 I ∧ zp_31 I ∧ zp_32 I ∧ zp_33 I ∧ zp_34 I
theorem zl_inv {c : zC} {f s : zS} (E : Nat → List Int) (I : Nat → zHp → Prop) (n : Nat) {σ : zHp} (h0 : I 0 σ) (hc : ∀ k σ, k < n → I k σ → c (E k) σ = some (true, σ))
    (hb : ∀ k σ, k < n → I k σ → ∃ t e τ τ2, f (E k) σ = some (t, e, τ) ∧ (t = 0 ∨ t = 3) ∧ s e τ = some (0, E (k + 1), τ2) ∧ I (k + 1) τ2) (hn : ∀ σ, I n σ → c (E n) σ = some (false, σ)) (hf : n < zfuel) : ∃ τ, I n τ ∧ sW c f s (E 0) σ = some (0, E n, τ) := by
  have key : ∀ (j k m : Nat) (σ : zHp), k + j = n → j < m → I k σ → ∃ τ, I n τ ∧ zloop c f s m (E k) σ = some (0, E n, τ) := by
    intro j
    induction j with
    | zero =>
      intro k m σ hk hm hI
      obtain ⟨m, rfl⟩ : ∃ m', m = m' + 1 := ⟨m - 1, by omega⟩
      have : k = n := by omega
      subst this
      refine ⟨σ, hI, ?_⟩
      simp only [zloop, hn σ hI, bs_e]
      rfl
    | succ j ih =>
      intro k m σ hk hm hI
      obtain ⟨m, rfl⟩ : ∃ m', m = m' + 1 := ⟨m - 1, by omega⟩
      obtain ⟨t, e, τ, τ2, h1, h2, h3, h4⟩ := hb k σ (by omega) hI
      obtain ⟨τ3, h5, h6⟩ := ih (k + 1) m τ2 (by omega) (by omega) h4
      refine ⟨τ3, h5, ?_⟩
      simp only [zloop, hc k σ (by omega) hI, bs_e, h1, h2, h3, if_true]
      exact h6
  exact key n 0 zfuel σ (by omega) hf h0
theorem zpick_out {d : zS} : ∀ (gs : List zS) (v : Int), (gs.length : Int) ≤ v → zpick d gs v = d
  | [], _, _ => rfl
  | g :: gs, v, h => by
    have h2 : ((gs.length + 1 : Nat) : Int) ≤ v := by simpa using h
    show (if v = 0 then g else zpick d gs (v - 1)) = d
    rw [if_neg (by omega)]
    exact zpick_out gs (v - 1) (by omega)
theorem zAnd_63 (x : Int) : 0 ≤ zAnd x 63 ∧ zAnd x 63 < 64 := by
  unfold zAnd
  have e : (Int32.ofInt x &&& Int32.ofInt 63).toInt = ((Int32.ofInt x &&& Int32.ofInt 63).toBitVec.toNat : Int) := by
    show BitVec.toInt _ = _
    refine BitVec.toInt_eq_toNat_of_lt ?_
    have h : (Int32.ofInt x &&& Int32.ofInt 63).toBitVec.toNat ≤ 63 := by
      rw [Int32.toBitVec_and, BitVec.toNat_and]
      exact Nat.le_trans Nat.and_le_right (Nat.le_of_ble_eq_true rfl)
    omega
  have h : (Int32.ofInt x &&& Int32.ofInt 63).toBitVec.toNat ≤ 63 := by
    rw [Int32.toBitVec_and, BitVec.toNat_and]
    exact Nat.le_trans Nat.and_le_right (Nat.le_of_ble_eq_true rfl)
  rw [e]
  omega
theorem zlaw_body {I : zHp → Prop} {L : Nat} {xs : Nat → Int32} {i : Int} {σ : zHp} (hi : 0 ≤ i) (hL : i + 7 ≤ L) (hL3 : L ≤ 3584) (hp : zCalls I) (hI : I σ) : ∃ σ2, lf_L_law_1 L xs [0, 0, 37, i] σ = some (0, [0, 0, 37, i], σ2) ∧ I σ2 := by
  obtain ⟨p0, p1, p2, p3, p4, p5, p6, p7, p8, p9, p10, p11, p12, p13, p14, p15, p16, p17, p18, p19, p20, p21, p22, p23, p24, p25, p26, p27, p28, p29, p30, p31, p32, p33, p34⟩ := hp
  have t : xT L xs (xL 3) [0, 0, 37, i] σ = some ((xs i.toNat).toInt, σ) := by
    simp only [xT_e, xL_e, zg_S, zg_0, bs_e]
    rw [if_pos ⟨by omega, by omega⟩]
  have key : ∀ v : Int, 0 ≤ v → v < 64 → ∃ σ2, (zpick sB [(ca_L_law_0 L xs), (ca_L_law_1 L xs), (ca_L_law_2 L xs), (ca_L_law_3 L xs), (ca_L_law_4 L xs), (ca_L_law_5 L xs), (ca_L_law_6 L xs), (ca_L_law_7 L xs), (ca_L_law_8 L xs), (ca_L_law_9 L xs), (ca_L_law_10 L xs), (ca_L_law_11 L xs), (ca_L_law_12 L xs), (ca_L_law_13 L xs), (ca_L_law_14 L xs), (ca_L_law_15 L xs), (ca_L_law_16 L xs), (ca_L_law_17 L xs), (ca_L_law_18 L xs), (ca_L_law_19 L xs), (ca_L_law_20 L xs), (ca_L_law_21 L xs), (ca_L_law_22 L xs), (ca_L_law_23 L xs), (ca_L_law_24 L xs), (ca_L_law_25 L xs), (ca_L_law_26 L xs), (ca_L_law_27 L xs), (ca_L_law_28 L xs), (ca_L_law_29 L xs), (ca_L_law_30 L xs), (ca_L_law_31 L xs), (ca_L_law_32 L xs), (ca_L_law_33 L xs), (ca_L_law_34 L xs)] v) [0, 0, 37, i] σ = some (2, [0, 0, 37, i], σ2) ∧ I σ2 := by
    intro v h0 h1
    rcases (show v = 0 ∨ v = 1 ∨ v = 2 ∨ v = 3 ∨ v = 4 ∨ v = 5 ∨ v = 6 ∨ v = 7 ∨ v = 8 ∨ v = 9 ∨ v = 10 ∨ v = 11 ∨ v = 12 ∨ v = 13 ∨ v = 14 ∨ v = 15 ∨ v = 16 ∨ v = 17 ∨ v = 18 ∨ v = 19 ∨ v = 20 ∨ v = 21 ∨ v = 22 ∨ v = 23 ∨ v = 24 ∨ v = 25 ∨ v = 26 ∨ v = 27 ∨ v = 28 ∨ v = 29 ∨ v = 30 ∨ v = 31 ∨ v = 32 ∨ v = 33 ∨ v = 34 ∨ 35 ≤ v by omega) with rfl | rfl | rfl | rfl | rfl | rfl | rfl | rfl | rfl | rfl | rfl | rfl | rfl | rfl | rfl | rfl | rfl | rfl | rfl | rfl | rfl | rfl | rfl | rfl | rfl | rfl | rfl | rfl | rfl | rfl | rfl | rfl | rfl | rfl | rfl | hv
    · exact zca_0 (xs := xs) hi hL hL3 p0 hI
    · exact zca_1 (xs := xs) hi hL hL3 p1 hI
    · exact zca_2 (xs := xs) hi hL hL3 p2 hI
    · exact zca_3 (xs := xs) hi hL hL3 p3 hI
    · exact zca_4 (xs := xs) hi hL hL3 p4 hI
    · exact zca_5 (xs := xs) hi hL hL3 p5 hI
    · exact zca_6 (xs := xs) hi hL hL3 p6 hI
    · exact zca_7 (xs := xs) hi hL hL3 p7 hI
    · exact zca_8 (xs := xs) hi hL hL3 p8 hI
    · exact zca_9 (xs := xs) hi hL hL3 p9 hI
    · exact zca_10 (xs := xs) hi hL hL3 p10 hI
    · exact zca_11 (xs := xs) hi hL hL3 p11 hI
    · exact zca_12 (xs := xs) hi hL hL3 p12 hI
    · exact zca_13 (xs := xs) hi hL hL3 p13 hI
    · exact zca_14 (xs := xs) hi hL hL3 p14 hI
    · exact zca_15 (xs := xs) hi hL hL3 p15 hI
    · exact zca_16 (xs := xs) hi hL hL3 p16 hI
    · exact zca_17 (xs := xs) hi hL hL3 p17 hI
    · exact zca_18 (xs := xs) hi hL hL3 p18 hI
    · exact zca_19 (xs := xs) hi hL hL3 p19 hI
    · exact zca_20 (xs := xs) hi hL hL3 p20 hI
    · exact zca_21 (xs := xs) hi hL hL3 p21 hI
    · exact zca_22 (xs := xs) hi hL hL3 p22 hI
    · exact zca_23 (xs := xs) hi hL hL3 p23 hI
    · exact zca_24 (xs := xs) hi hL hL3 p24 hI
    · exact zca_25 (xs := xs) hi hL hL3 p25 hI
    · exact zca_26 (xs := xs) hi hL hL3 p26 hI
    · exact zca_27 (xs := xs) hi hL hL3 p27 hI
    · exact zca_28 (xs := xs) hi hL hL3 p28 hI
    · exact zca_29 (xs := xs) hi hL hL3 p29 hI
    · exact zca_30 (xs := xs) hi hL hL3 p30 hI
    · exact zca_31 (xs := xs) hi hL hL3 p31 hI
    · exact zca_32 (xs := xs) hi hL hL3 p32 hI
    · exact zca_33 (xs := xs) hi hL hL3 p33 hI
    · exact zca_34 (xs := xs) hi hL hL3 p34 hI
    · refine ⟨σ, ?_, hI⟩
      rw [zpick_out _ _ (by simpa using hv)]
      rfl
  obtain ⟨h0, h1⟩ := zAnd_63 (xs i.toNat).toInt
  obtain ⟨σ2, h2, h3⟩ := key _ h0 h1
  refine ⟨σ2, ?_, h3⟩
  simp only [lf_L_law_1, sN_e, xB_e, t, xC_e, bs_e]
  rw [if_neg (by omega), Int.sub_zero, h2]
  rfl
theorem zlaw {I : zHp → Prop} {L : Nat} {xs : Nat → Int32} (hL3 : L ≤ 3584) (hp : zCalls I) (h0 : I zsig0) : ∃ τ, d_L_law L xs [0, 0, 37, 0] zsig0 = some (1, [1], τ) := by
  have hl := zl_inv (c := lc_L_law_1 L xs) (f := lf_L_law_1 L xs) (s := ls_L_law_1 L xs) (fun k => [0, 0, 37, 7 * (k : Int)]) (fun _ σ => I σ) (L / 7) (σ := zsig0) h0 ?_ ?_ ?_ (zf_lt (by omega))
  · obtain ⟨τ, -, h2⟩ := hl
    refine ⟨τ, ?_⟩
    have h3 : sW (lc_L_law_1 L xs) (lf_L_law_1 L xs) (ls_L_law_1 L xs) [0, 0, 37, 0] zsig0 = some (0, [0, 0, 37, 7 * ((L / 7 : Nat) : Int)], τ) := h2
    simp only [d_L_law, sQ_e, sD_e, sS_e, xC_e, bs_e, st_S, st_0, if_true, h3, sR_e]
    rfl
  · intro k σ hk hI
    have e : o_isub (L : Int) 7 = L - 7 := w32_id ⟨by omega, by omega⟩
    simp only [lc_L_law_1, cR_e, xL_e, xB_e, xC_e, zg_S, zg_0, bs_e, e]
    rw [show r_le (7 * (k : Int)) (L - 7) = true from decide_eq_true (by omega)]
  · intro k σ hk hI
    obtain ⟨σ2, h1, h2⟩ := zlaw_body (xs := xs) (i := 7 * (k : Int)) (by omega) (by omega) hL3 hp hI
    refine ⟨0, _, σ2, σ2, h1, Or.inl rfl, ?_, h2⟩
    have e : o_iadd (7 * (k : Int)) 7 = 7 * ((k + 1 : Nat) : Int) := by
      unfold o_iadd
      rw [w32_id ⟨by omega, by omega⟩]
      omega
    simp only [ls_L_law_1, sS_e, xB_e, xL_e, xC_e, zg_S, zg_0, bs_e, st_S, st_0, e]
  · intro σ hI
    have e : o_isub (L : Int) 7 = L - 7 := w32_id ⟨by omega, by omega⟩
    simp only [lc_L_law_1, cR_e, xL_e, xB_e, xC_e, zg_S, zg_0, bs_e, e]
    rw [show r_le (7 * ((L / 7 : Nat) : Int)) (L - 7) = false from decide_eq_false (by omega)]
