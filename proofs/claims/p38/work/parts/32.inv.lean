/-! what holds between two calls: the class's cells (0 .. 36) and the reference's (37 .. 56) tell the same -/
def zt (x : Int) (i : Nat) : Bool := (Int32.ofInt x).toBitVec.getLsbD i
/-- planted: 1, else 0 -/
def zpl (σ : zHp) (c : Int) : Int := if zt (σ 1 3) c.toNat = true then 1 else 0
theorem zpl_n (σ : zHp) (c : Nat) : zpl σ (c : Int) = if zt (σ 1 3) c = true then 1 else 0 := rfl
theorem zpl_c {σ τ : zHp} (h : τ 1 3 = σ 1 3) (k : Int) : zpl τ k = zpl σ k := by unfold zpl; rw [h]
def zU (kind : Int) : Int := if kind = 0 then 1 else 2
def zIF (_ : zHp) : Prop := True
def zIL (σ : zHp) : Prop := ((σ 1 0 = 0 ∧ σ 1 1 = 0) ∨ (2 ≤ σ 1 0 ∧ σ 1 0 ≤ 5 ∧ 2 ≤ σ 1 1 ∧ σ 1 1 ≤ 6)) ∧ σ 1 0 = σ 1 0 ∧ σ 1 1 = σ 1 1 ∧ σ 1 2 = σ 1 0 * σ 1 1
def zIH (σ : zHp) : Prop := ∀ c : Int, 0 ≤ c → c < σ 1 2 → 0 ≤ σ 2 c ∧ σ 2 c ≤ 9 ∧ σ 2 c = σ 2 c ∧ σ 3 c = c / σ 1 1 ∧ σ 4 c = c % σ 1 1
def zIB (σ : zHp) : Prop := ∀ h : Int, 0 ≤ h → h < 10 → ∀ c : Nat, c < 32 → zt (σ 5 h) c = decide ((c : Int) < σ 1 2 ∧ h < σ 2 c)
def zIP (σ : zHp) : Prop := ∀ c : Nat, c < 32 → zt (σ 1 3) c = decide ((c : Int) < σ 1 2 ∧ zpl σ c = 1)
def zIE (σ : zHp) : Prop := σ 10 2 = σ 10 2 ∧ 0 ≤ σ 10 2 ∧ σ 10 2 ≤ 99
def zIN (σ : zHp) : Prop := σ 6 0 = σ 6 0 ∧ 0 ≤ σ 6 0 ∧ σ 6 0 ≤ 6 ∧ ∀ b : Int, 0 ≤ b → b < σ 6 0 → (σ 7 b = σ 7 b ∧ 0 ≤ σ 7 b ∧ σ 7 b ≤ 2) ∧ (σ 8 b = σ 8 b ∧ 0 ≤ σ 8 b ∧ σ 8 b < σ 1 2) ∧ (σ 9 b = σ 9 b ∧ 1 ≤ σ 9 b ∧ σ 9 b ≤ 99)
/-- how far: rows and columns from a cell to another one -/
def zRo (σ : zHp) (f t : Int) : Int := t / σ 1 1 - f / σ 1 1
def zCo (σ : zHp) (f t : Int) : Int := t % σ 1 1 - f % σ 1 1
def zFar (σ : zHp) (f t : Int) : Int := zRo σ f t * zRo σ f t + zCo σ f t * zCo σ f t
def zLen (σ : zHp) (f t : Int) : Int := max (max (zRo σ f t) (-zRo σ f t)) (max (zCo σ f t) (-zCo σ f t))
def zOn (on k n : Int) : Int := ((if 2 * k * on < 0 then 2 * k * on - n else 2 * k * on + n)).tdiv (2 * n)
/-- the k-th cell between -/
def zBt (σ : zHp) (f t k : Int) : Int := σ 1 1 * (f / σ 1 1 + zOn (zRo σ f t) k (zLen σ f t)) + f % σ 1 1 + zOn (zCo σ f t) k (zLen σ f t)
/-- by how much it is dimmed by the first k of them -/
def zDim (σ : zHp) (kind f t : Int) : Nat → Int
  | 0 => 1
  | k + 1 => zDim σ kind f t k * ((if σ 2 f < σ 2 (zBt σ f t (k + 1)) ∧ σ 2 t < σ 2 (zBt σ f t (k + 1)) ∧ kind ≠ 2 then 2 else 1) * (if zpl σ (zBt σ f t (k + 1)) = 1 then 2 else 1))
def zDn (σ : zHp) (kind f t : Int) : Int := (zU kind + zFar σ f t) * zDim σ kind f t (zLen σ f t - 1).toNat
def zONE : Int := 59579996636160
def zIC (σ : zHp) : Prop := ∀ b c : Int, 0 ≤ b → b < σ 6 0 → 0 ≤ c → c < σ 1 2 → σ 11 (30 * b + c) * zDn σ (σ 7 b) (σ 8 b) c = zONE * zU (σ 7 b)
def zIR (_ : zHp) : Prop := True
def zIS (σ : zHp) : Prop := ∀ k : Int, 0 ≤ k → k < 4 → 0 ≤ σ (29 + 2 * k) 3 ∧ σ (29 + 2 * k) 3 ≤ 60
def zInv (σ : zHp) : Prop := zOk σ ∧ zIF σ ∧ zIL σ ∧ zIH σ ∧ zIB σ ∧ zIP σ ∧ zIE σ ∧ zIN σ ∧ zIC σ ∧ zIR σ ∧ zIS σ
/-! small steps -/
theorem rb_0 : rb 0 = false := rfl
theorem rb_1 : rb 1 = true := rfl
theorem rb_ite {P : Prop} {hd : Decidable P} : rb (if P then 1 else 0) = decide P := by
  unfold rb
  by_cases h : P <;> simp [h]
theorem zi_d {b : Bool} : (if b = true then (1 : Int) else 0) = if b then 1 else 0 := rfl
theorem w_isCell (c : Int) (σ : zHp) : m_X8_isCell [0, c] σ = some (if 0 ≤ c ∧ c < σ 1 2 then 1 else 0, σ) := by
  simp only [e_X8_isCell, d_X8_isCell, xC_e, xL_e, xU_e, xB_e, xD_e, xF_e, xG_e, xA_e, xE_e, xH_e, xI_e, xZ_e, xK_e, aN_e, aC_e, cR_e, cV_e, cA_e, cO_e, cN_e, bs_e, bn_e, zg_0, zg_S, sS_e, sX_e, sF_e, sG_e, sA_e, sE_e, sEo_e, sK_e, sQ_e, sI_e, sR_e, sV_e, sB_e, sC_e, sD_e, sN_e, st_0, st_S, zc_0, zc_S, r_ge, r_lt]
  by_cases h : 0 ≤ c <;> by_cases h2 : c < σ 1 2 <;> simp [h, h2, xC_e, xL_e, xU_e, xB_e, xD_e, xF_e, xG_e, xA_e, xE_e, xH_e, xI_e, xZ_e, xK_e, aN_e, aC_e, cR_e, cV_e, cA_e, cO_e, cN_e, bs_e, bn_e, zg_0, zg_S, sS_e, sX_e, sF_e, sG_e, sA_e, sE_e, sEo_e, sK_e, sQ_e, sI_e, sR_e, sV_e, sB_e, sC_e, sD_e, sN_e, st_0, st_S, zc_0, zc_S]
theorem w_isBell (c : Int) (σ : zHp) : m_X8_isBell [0, c] σ = some (if 0 ≤ c ∧ c < σ 6 0 then 1 else 0, σ) := by
  simp only [e_X8_isBell, d_X8_isBell, xC_e, xL_e, xU_e, xB_e, xD_e, xF_e, xG_e, xA_e, xE_e, xH_e, xI_e, xZ_e, xK_e, aN_e, aC_e, cR_e, cV_e, cA_e, cO_e, cN_e, bs_e, bn_e, zg_0, zg_S, sS_e, sX_e, sF_e, sG_e, sA_e, sE_e, sEo_e, sK_e, sQ_e, sI_e, sR_e, sV_e, sB_e, sC_e, sD_e, sN_e, st_0, st_S, zc_0, zc_S, r_ge, r_lt]
  by_cases h : 0 ≤ c <;> by_cases h2 : c < σ 6 0 <;> simp [h, h2, xC_e, xL_e, xU_e, xB_e, xD_e, xF_e, xG_e, xA_e, xE_e, xH_e, xI_e, xZ_e, xK_e, aN_e, aC_e, cR_e, cV_e, cA_e, cO_e, cN_e, bs_e, bn_e, zg_0, zg_S, sS_e, sX_e, sF_e, sG_e, sA_e, sE_e, sEo_e, sK_e, sQ_e, sI_e, sR_e, sV_e, sB_e, sC_e, sD_e, sN_e, st_0, st_S, zc_0, zc_S]
