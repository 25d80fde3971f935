theorem w_isSheet (k : Int) (σ : zHp) : m_X8_isSheet [k] σ = some (if 0 ≤ k ∧ k < 4 then 1 else 0, σ) := by
  simp only [e_X8_isSheet, d_X8_isSheet, xC_e, xL_e, xU_e, xB_e, xD_e, xF_e, xG_e, xA_e, xE_e, xH_e, xI_e, xZ_e, xK_e, aN_e, aC_e, cR_e, cV_e, cA_e, cO_e, cN_e, bs_e, bn_e, zg_0, zg_S, sS_e, sX_e, sF_e, sG_e, sA_e, sE_e, sEo_e, sK_e, sQ_e, sI_e, sR_e, sV_e, sB_e, sC_e, sD_e, sN_e, st_0, st_S, zc_0, zc_S, r_eq, r_ne, r_lt, r_le, r_gt, r_ge, rb_ite, rb_0, rb_1]
  by_cases h : 0 ≤ k <;> by_cases h2 : k < 4 <;> simp [h, h2, xC_e, xL_e, xU_e, xB_e, xD_e, xF_e, xG_e, xA_e, xE_e, xH_e, xI_e, xZ_e, xK_e, aN_e, aC_e, cR_e, cV_e, cA_e, cO_e, cN_e, bs_e, bn_e, zg_0, zg_S, sS_e, sX_e, sF_e, sG_e, sA_e, sE_e, sEo_e, sK_e, sQ_e, sI_e, sR_e, sV_e, sB_e, sC_e, sD_e, sN_e, st_0, st_S, zc_0, zc_S]
theorem w_isSort (k : Int) (σ : zHp) : m_X8_isSort [k] σ = some (if 0 ≤ k ∧ k ≤ 2 then 1 else 0, σ) := by
  simp only [e_X8_isSort, d_X8_isSort, xC_e, xL_e, xU_e, xB_e, xD_e, xF_e, xG_e, xA_e, xE_e, xH_e, xI_e, xZ_e, xK_e, aN_e, aC_e, cR_e, cV_e, cA_e, cO_e, cN_e, bs_e, bn_e, zg_0, zg_S, sS_e, sX_e, sF_e, sG_e, sA_e, sE_e, sEo_e, sK_e, sQ_e, sI_e, sR_e, sV_e, sB_e, sC_e, sD_e, sN_e, st_0, st_S, zc_0, zc_S, r_eq, r_ne, r_lt, r_le, r_gt, r_ge, rb_ite, rb_0, rb_1]
  by_cases h : 0 ≤ k <;> by_cases h2 : k ≤ 2 <;> simp [h, h2, xC_e, xL_e, xU_e, xB_e, xD_e, xF_e, xG_e, xA_e, xE_e, xH_e, xI_e, xZ_e, xK_e, aN_e, aC_e, cR_e, cV_e, cA_e, cO_e, cN_e, bs_e, bn_e, zg_0, zg_S, sS_e, sX_e, sF_e, sG_e, sA_e, sE_e, sEo_e, sK_e, sQ_e, sI_e, sR_e, sV_e, sB_e, sC_e, sD_e, sN_e, st_0, st_S, zc_0, zc_S]
theorem w_isKind (k : Int) (σ : zHp) : m_X8_isKind [k] σ = some (if 0 ≤ k ∧ k ≤ 2 then 1 else 0, σ) := by
  simp only [e_X8_isKind, d_X8_isKind, xC_e, xL_e, xU_e, xB_e, xD_e, xF_e, xG_e, xA_e, xE_e, xH_e, xI_e, xZ_e, xK_e, aN_e, aC_e, cR_e, cV_e, cA_e, cO_e, cN_e, bs_e, bn_e, zg_0, zg_S, sS_e, sX_e, sF_e, sG_e, sA_e, sE_e, sEo_e, sK_e, sQ_e, sI_e, sR_e, sV_e, sB_e, sC_e, sD_e, sN_e, st_0, st_S, zc_0, zc_S, r_eq, r_ne, r_lt, r_le, r_gt, r_ge, rb_ite, rb_0, rb_1]
  by_cases h : 0 ≤ k <;> by_cases h2 : k ≤ 2 <;> simp [h, h2, xC_e, xL_e, xU_e, xB_e, xD_e, xF_e, xG_e, xA_e, xE_e, xH_e, xI_e, xZ_e, xK_e, aN_e, aC_e, cR_e, cV_e, cA_e, cO_e, cN_e, bs_e, bn_e, zg_0, zg_S, sS_e, sX_e, sF_e, sG_e, sA_e, sE_e, sEo_e, sK_e, sQ_e, sI_e, sR_e, sV_e, sB_e, sC_e, sD_e, sN_e, st_0, st_S, zc_0, zc_S]
theorem w_isWeight (k : Int) (σ : zHp) : m_X8_isWeight [k] σ = some (if 1 ≤ k ∧ k ≤ 99 then 1 else 0, σ) := by
  simp only [e_X8_isWeight, d_X8_isWeight, xC_e, xL_e, xU_e, xB_e, xD_e, xF_e, xG_e, xA_e, xE_e, xH_e, xI_e, xZ_e, xK_e, aN_e, aC_e, cR_e, cV_e, cA_e, cO_e, cN_e, bs_e, bn_e, zg_0, zg_S, sS_e, sX_e, sF_e, sG_e, sA_e, sE_e, sEo_e, sK_e, sQ_e, sI_e, sR_e, sV_e, sB_e, sC_e, sD_e, sN_e, st_0, st_S, zc_0, zc_S, r_eq, r_ne, r_lt, r_le, r_gt, r_ge, rb_ite, rb_0, rb_1]
  by_cases h : 1 ≤ k <;> by_cases h2 : k ≤ 99 <;> simp [h, h2, xC_e, xL_e, xU_e, xB_e, xD_e, xF_e, xG_e, xA_e, xE_e, xH_e, xI_e, xZ_e, xK_e, aN_e, aC_e, cR_e, cV_e, cA_e, cO_e, cN_e, bs_e, bn_e, zg_0, zg_S, sS_e, sX_e, sF_e, sG_e, sA_e, sE_e, sEo_e, sK_e, sQ_e, sI_e, sR_e, sV_e, sB_e, sC_e, sD_e, sN_e, st_0, st_S, zc_0, zc_S]
theorem w_isWind (k : Int) (σ : zHp) : m_X8_isWind [k] σ = some (if 0 ≤ k ∧ k ≤ 39 then 1 else 0, σ) := by
  simp only [e_X8_isWind, d_X8_isWind, xC_e, xL_e, xU_e, xB_e, xD_e, xF_e, xG_e, xA_e, xE_e, xH_e, xI_e, xZ_e, xK_e, aN_e, aC_e, cR_e, cV_e, cA_e, cO_e, cN_e, bs_e, bn_e, zg_0, zg_S, sS_e, sX_e, sF_e, sG_e, sA_e, sE_e, sEo_e, sK_e, sQ_e, sI_e, sR_e, sV_e, sB_e, sC_e, sD_e, sN_e, st_0, st_S, zc_0, zc_S, r_eq, r_ne, r_lt, r_le, r_gt, r_ge, rb_ite, rb_0, rb_1]
  by_cases h : 0 ≤ k <;> by_cases h2 : k ≤ 39 <;> simp [h, h2, xC_e, xL_e, xU_e, xB_e, xD_e, xF_e, xG_e, xA_e, xE_e, xH_e, xI_e, xZ_e, xK_e, aN_e, aC_e, cR_e, cV_e, cA_e, cO_e, cN_e, bs_e, bn_e, zg_0, zg_S, sS_e, sX_e, sF_e, sG_e, sA_e, sE_e, sEo_e, sK_e, sQ_e, sI_e, sR_e, sV_e, sB_e, sC_e, sD_e, sN_e, st_0, st_S, zc_0, zc_S]
theorem w_isOneOfTwo (k : Int) (σ : zHp) : m_X8_isOneOfTwo [k] σ = some (if 0 ≤ k ∧ k ≤ 1 then 1 else 0, σ) := by
  simp only [e_X8_isOneOfTwo, d_X8_isOneOfTwo, xC_e, xL_e, xU_e, xB_e, xD_e, xF_e, xG_e, xA_e, xE_e, xH_e, xI_e, xZ_e, xK_e, aN_e, aC_e, cR_e, cV_e, cA_e, cO_e, cN_e, bs_e, bn_e, zg_0, zg_S, sS_e, sX_e, sF_e, sG_e, sA_e, sE_e, sEo_e, sK_e, sQ_e, sI_e, sR_e, sV_e, sB_e, sC_e, sD_e, sN_e, st_0, st_S, zc_0, zc_S, r_eq, r_ne, r_lt, r_le, r_gt, r_ge, rb_ite, rb_0, rb_1]
  by_cases h : k = 0
  · simp [h, xC_e, xL_e, xU_e, xB_e, xD_e, xF_e, xG_e, xA_e, xE_e, xH_e, xI_e, xZ_e, xK_e, aN_e, aC_e, cR_e, cV_e, cA_e, cO_e, cN_e, bs_e, bn_e, zg_0, zg_S, sS_e, sX_e, sF_e, sG_e, sA_e, sE_e, sEo_e, sK_e, sQ_e, sI_e, sR_e, sV_e, sB_e, sC_e, sD_e, sN_e, st_0, st_S, zc_0, zc_S]
  · by_cases h2 : k = 1
    · simp [h2, xC_e, xL_e, xU_e, xB_e, xD_e, xF_e, xG_e, xA_e, xE_e, xH_e, xI_e, xZ_e, xK_e, aN_e, aC_e, cR_e, cV_e, cA_e, cO_e, cN_e, bs_e, bn_e, zg_0, zg_S, sS_e, sX_e, sF_e, sG_e, sA_e, sE_e, sEo_e, sK_e, sQ_e, sI_e, sR_e, sV_e, sB_e, sC_e, sD_e, sN_e, st_0, st_S, zc_0, zc_S]
    · have h3 : ¬ (0 ≤ k ∧ k ≤ 1) := by omega
      simp [h, h2, h3, xC_e, xL_e, xU_e, xB_e, xD_e, xF_e, xG_e, xA_e, xE_e, xH_e, xI_e, xZ_e, xK_e, aN_e, aC_e, cR_e, cV_e, cA_e, cO_e, cN_e, bs_e, bn_e, zg_0, zg_S, sS_e, sX_e, sF_e, sG_e, sA_e, sE_e, sEo_e, sK_e, sQ_e, sI_e, sR_e, sV_e, sB_e, sC_e, sD_e, sN_e, st_0, st_S, zc_0, zc_S]
theorem w_faulty (n : Int) (h0 : 0 ≤ n) (h1 : n ≤ 10) (σ : zHp) : m_X8_faulty [0, n] σ = some (-10 - n, zput σ 0 8 n) := by
  have e : o_isub (-10) n = -10 - n := w32_id ⟨by omega, by omega⟩
  simp only [e_X8_faulty, d_X8_faulty, xC_e, xL_e, xU_e, xB_e, xD_e, xF_e, xG_e, xA_e, xE_e, xH_e, xI_e, xZ_e, xK_e, aN_e, aC_e, cR_e, cV_e, cA_e, cO_e, cN_e, bs_e, bn_e, zg_0, zg_S, sS_e, sX_e, sF_e, sG_e, sA_e, sE_e, sEo_e, sK_e, sQ_e, sI_e, sR_e, sV_e, sB_e, sC_e, sD_e, sN_e, st_0, st_S, zc_0, zc_S, e]
  simp [xC_e, xL_e, xU_e, xB_e, xD_e, xF_e, xG_e, xA_e, xE_e, xH_e, xI_e, xZ_e, xK_e, aN_e, aC_e, cR_e, cV_e, cA_e, cO_e, cN_e, bs_e, bn_e, zg_0, zg_S, sS_e, sX_e, sF_e, sG_e, sA_e, sE_e, sEo_e, sK_e, sQ_e, sI_e, sR_e, sV_e, sB_e, sC_e, sD_e, sN_e, st_0, st_S, zc_0, zc_S]
/-! the same, once it is known -/
theorem w_isCell_t {c : Int} {σ : zHp} (h : 0 ≤ c ∧ c < σ 1 2) : m_X8_isCell [0, c] σ = some (1, σ) := by rw [w_isCell, if_pos h]
theorem w_isCell_f {c : Int} {σ : zHp} (h : ¬ (0 ≤ c ∧ c < σ 1 2)) : m_X8_isCell [0, c] σ = some (0, σ) := by rw [w_isCell, if_neg h]
theorem w_isBell_t {c : Int} {σ : zHp} (h : 0 ≤ c ∧ c < σ 6 0) : m_X8_isBell [0, c] σ = some (1, σ) := by rw [w_isBell, if_pos h]
theorem w_isBell_f {c : Int} {σ : zHp} (h : ¬ (0 ≤ c ∧ c < σ 6 0)) : m_X8_isBell [0, c] σ = some (0, σ) := by rw [w_isBell, if_neg h]
theorem w_isSheet_t {c : Int} {σ : zHp} (h : 0 ≤ c ∧ c < 4) : m_X8_isSheet [c] σ = some (1, σ) := by rw [w_isSheet, if_pos h]
theorem w_isSheet_f {c : Int} {σ : zHp} (h : ¬ (0 ≤ c ∧ c < 4)) : m_X8_isSheet [c] σ = some (0, σ) := by rw [w_isSheet, if_neg h]
theorem w_isSort_t {c : Int} {σ : zHp} (h : 0 ≤ c ∧ c ≤ 2) : m_X8_isSort [c] σ = some (1, σ) := by rw [w_isSort, if_pos h]
theorem w_isSort_f {c : Int} {σ : zHp} (h : ¬ (0 ≤ c ∧ c ≤ 2)) : m_X8_isSort [c] σ = some (0, σ) := by rw [w_isSort, if_neg h]
theorem w_isKind_t {c : Int} {σ : zHp} (h : 0 ≤ c ∧ c ≤ 2) : m_X8_isKind [c] σ = some (1, σ) := by rw [w_isKind, if_pos h]
theorem w_isKind_f {c : Int} {σ : zHp} (h : ¬ (0 ≤ c ∧ c ≤ 2)) : m_X8_isKind [c] σ = some (0, σ) := by rw [w_isKind, if_neg h]
theorem w_isWeight_t {c : Int} {σ : zHp} (h : 1 ≤ c ∧ c ≤ 99) : m_X8_isWeight [c] σ = some (1, σ) := by rw [w_isWeight, if_pos h]
theorem w_isWeight_f {c : Int} {σ : zHp} (h : ¬ (1 ≤ c ∧ c ≤ 99)) : m_X8_isWeight [c] σ = some (0, σ) := by rw [w_isWeight, if_neg h]
theorem w_isWind_t {c : Int} {σ : zHp} (h : 0 ≤ c ∧ c ≤ 39) : m_X8_isWind [c] σ = some (1, σ) := by rw [w_isWind, if_pos h]
theorem w_isWind_f {c : Int} {σ : zHp} (h : ¬ (0 ≤ c ∧ c ≤ 39)) : m_X8_isWind [c] σ = some (0, σ) := by rw [w_isWind, if_neg h]
theorem w_isOneOfTwo_t {c : Int} {σ : zHp} (h : 0 ≤ c ∧ c ≤ 1) : m_X8_isOneOfTwo [c] σ = some (1, σ) := by rw [w_isOneOfTwo, if_pos h]
theorem w_isOneOfTwo_f {c : Int} {σ : zHp} (h : ¬ (0 ≤ c ∧ c ≤ 1)) : m_X8_isOneOfTwo [c] σ = some (0, σ) := by rw [w_isOneOfTwo, if_neg h]
/-! places that no later answer looks at -/
def zfree (a b : Int) : Bool := decide ((a = 10 ∧ b = 5) ∨ a = 12 ∨ a = 13 ∨ (a = 0 ∧ b = 8) ∨ a = -1 ∨ (38 ≤ a ∧ a ≤ 42))
def zSame (σ τ : zHp) : Prop := ∀ a b : Int, zfree a b = false → τ a b = σ a b
theorem zSame.rf (σ : zHp) : zSame σ σ := fun _ _ _ => rfl
theorem zSame.tr {σ τ υ : zHp} (h1 : zSame σ τ) (h2 : zSame τ υ) : zSame σ υ := fun a b h => (h2 a b h).trans (h1 a b h)
theorem zSame.put {σ τ : zHp} {o i v : Int} (h : zSame σ τ) (hf : zfree o i = true) : zSame σ (zput τ o i v) := by
  intro a b hb
  unfold zput
  rw [if_neg, h a b hb]
  rintro ⟨rfl, rfl⟩
  rw [hf] at hb
  cases hb
/-- the walks between cells look at the land alone -/
theorem zRo_eq {σ τ : zHp} (h : τ 1 1 = σ 1 1) (f t : Int) : zRo τ f t = zRo σ f t := by unfold zRo; rw [h]
theorem zCo_eq {σ τ : zHp} (h : τ 1 1 = σ 1 1) (f t : Int) : zCo τ f t = zCo σ f t := by unfold zCo; rw [h]
theorem zLen_eq {σ τ : zHp} (h : τ 1 1 = σ 1 1) (f t : Int) : zLen τ f t = zLen σ f t := by unfold zLen; rw [zRo_eq h, zCo_eq h]
theorem zBt_eq {σ τ : zHp} (h : τ 1 1 = σ 1 1) (f t k : Int) : zBt τ f t k = zBt σ f t k := by unfold zBt; rw [zRo_eq h, zCo_eq h, zLen_eq h, h]
theorem zDim_eq {σ τ : zHp} (h : τ 1 1 = σ 1 1) (h2 : ∀ k, τ 2 k = σ 2 k) (h3 : ∀ k, zpl τ k = zpl σ k) (kind f t : Int) : ∀ n, zDim τ kind f t n = zDim σ kind f t n
  | 0 => rfl
  | n + 1 => by
    unfold zDim
    rw [zDim_eq h h2 h3 kind f t n, zBt_eq h, h2, h2, h2, h3]
theorem zDn_eq {σ τ : zHp} (h : τ 1 1 = σ 1 1) (h2 : ∀ k, τ 2 k = σ 2 k) (h3 : ∀ k, zpl τ k = zpl σ k) (kind f t : Int) : zDn τ kind f t = zDn σ kind f t := by
  unfold zDn
  rw [zDim_eq h h2 h3, zLen_eq h]
  unfold zFar
  rw [zRo_eq h, zCo_eq h]
section CONG
variable {σ τ : zHp}
theorem zIL_c {σ τ : zHp} (h : zIL σ) (e0 : τ 1 0 = σ 1 0) (e1 : τ 1 1 = σ 1 1) (e2 : τ 1 2 = σ 1 2) (_ : τ 1 0 = σ 1 0) (_ : τ 1 1 = σ 1 1) : zIL τ := by
  unfold zIL at h ⊢
  rw [e0, e1, e2]; exact h
theorem zIH_c {σ τ : zHp} (h : zIH σ) (e1 : τ 1 1 = σ 1 1) (e2 : τ 1 2 = σ 1 2) (r2 : ∀ k, τ 2 k = σ 2 k) (r3 : ∀ k, τ 3 k = σ 3 k) (r4 : ∀ k, τ 4 k = σ 4 k) (_ : ∀ k, τ 2 k = σ 2 k) : zIH τ := by
  intro c h0 h1
  rw [e2] at h1
  rw [e1, r2, r3, r4]; exact h c h0 h1
theorem zIB_c (h : zIB σ) (e2 : τ 1 2 = σ 1 2) (r2 : ∀ k, τ 2 k = σ 2 k) (r5 : ∀ k, τ 5 k = σ 5 k) : zIB τ := by
  intro i h0 h1 c hc
  rw [e2, r2, r5]; exact h i h0 h1 c hc
theorem zIP_c (h : zIP σ) (e2 : τ 1 2 = σ 1 2) (e3 : τ 1 3 = σ 1 3) (r42 : ∀ k, zpl τ k = zpl σ k) : zIP τ := by
  intro c hc
  rw [e2, e3, r42]; exact h c hc
theorem zIE_c {σ τ : zHp} (h : zIE σ) (e1 : τ 10 2 = σ 10 2) (_ : τ 10 2 = σ 10 2) : zIE τ := by
  unfold zIE at h ⊢
  rw [e1]; exact h
theorem zIN_c {σ τ : zHp} (h : zIN σ) (_ : τ 6 0 = σ 6 0) (e2 : τ 6 0 = σ 6 0) (e3 : τ 1 2 = σ 1 2) (r7 : ∀ k, τ 7 k = σ 7 k) (r8 : ∀ k, τ 8 k = σ 8 k) (r9 : ∀ k, τ 9 k = σ 9 k) (_ : ∀ k, τ 7 k = σ 7 k) (_ : ∀ k, τ 8 k = σ 8 k) (_ : ∀ k, τ 9 k = σ 9 k) : zIN τ := by
  unfold zIN at h ⊢
  rw [e2]
  refine ⟨h.1, h.2.1, h.2.2.1, fun b h0 h1 => ?_⟩
  rw [r7, r8, r9, e3]
  exact h.2.2.2 b h0 h1
theorem zIC_c (h : zIC σ) (e1 : τ 1 1 = σ 1 1) (e2 : τ 1 2 = σ 1 2) (e6 : τ 6 0 = σ 6 0) (r2 : ∀ k, τ 2 k = σ 2 k) (r7 : ∀ k, τ 7 k = σ 7 k) (r8 : ∀ k, τ 8 k = σ 8 k) (r11 : ∀ k, τ 11 k = σ 11 k) (r42 : ∀ k, zpl τ k = zpl σ k) : zIC τ := by
  intro b c h0 h1 h2 h3
  rw [e6] at h1
  rw [e2] at h3
  rw [r11, r7, r8, zDn_eq e1 r2 r42]
  exact h b c h0 h1 h2 h3
theorem zIS_c {σ τ : zHp} (h : zIS σ) (r : ∀ o : Int, 29 ≤ o → o ≤ 36 → τ o 3 = σ o 3) : zIS τ := fun k h0 h1 => by
  rw [r (29 + 2 * k) (by omega) (by omega)]
  exact h k h0 h1
end CONG
theorem zpl_s {σ τ : zHp} (hs : zSame σ τ) (k : Int) : zpl τ k = zpl σ k := zpl_c (hs 1 3 rfl) k
theorem zInv_same {σ τ : zHp} (ho : zOk τ) (hs : zSame σ τ) (h : zInv σ) : zInv τ := by
  obtain ⟨-, hF, hL, hH, hB, hP, hE, hN, hC, hR, hS⟩ := h
  have r : ∀ a : Int, a ≠ 0 → a ≠ 10 → a ≠ 12 → a ≠ 13 → a ≠ -1 → ¬ (38 ≤ a ∧ a ≤ 42) → ∀ k, τ a k = σ a k := fun a h1 h2 h3 h4 h5 h6 k => hs a k (by
    unfold zfree
    exact decide_eq_false (by omega))
  refine ⟨ho, trivial, ?_, ?_, ?_, ?_, ?_, ?_, ?_, trivial, ?_⟩
  · exact zIL_c hL (hs 1 0 rfl) (hs 1 1 rfl) (hs 1 2 rfl) (hs 1 0 rfl) (hs 1 1 rfl)
  · exact zIH_c hH (hs 1 1 rfl) (hs 1 2 rfl) (fun k => hs 2 k rfl) (fun k => hs 3 k rfl) (fun k => hs 4 k rfl) (fun k => hs 2 k rfl)
  · exact zIB_c hB (hs 1 2 rfl) (fun k => hs 2 k rfl) (fun k => hs 5 k rfl)
  · exact zIP_c hP (hs 1 2 rfl) (hs 1 3 rfl) (zpl_s hs)
  · exact zIE_c hE (hs 10 2 rfl) (hs 10 2 rfl)
  · exact zIN_c hN (hs 6 0 rfl) (hs 6 0 rfl) (hs 1 2 rfl) (fun k => hs 7 k rfl) (fun k => hs 8 k rfl) (fun k => hs 9 k rfl) (fun k => hs 7 k rfl) (fun k => hs 8 k rfl) (fun k => hs 9 k rfl)
  · exact zIC_c hC (hs 1 1 rfl) (hs 1 2 rfl) (hs 6 0 rfl) (fun k => hs 2 k rfl) (fun k => hs 7 k rfl) (fun k => hs 8 k rfl) (fun k => hs 11 k rfl) (zpl_s hs)
  · exact zIS_c hS (fun o h1 h2 => r o (by omega) (by omega) (by omega) (by omega) (by omega) (by omega) 3)
/-- how many cells: the same on both sides -/
theorem zN_eq {σ : zHp} (h : zIL σ) : w32 (σ 1 0 * σ 1 1) = σ 1 2 ∧ 0 ≤ σ 1 2 ∧ σ 1 2 ≤ 30 := by
  obtain ⟨h1, h2, h3, h4⟩ := h
  rw [h2, h3, h4]
  rcases h1 with ⟨q1, q2⟩ | ⟨q1, q2, q3, q4⟩
  · rw [q1, q2]; exact ⟨rfl, by decide, by decide⟩
  · have b1 : 0 ≤ σ 1 0 * σ 1 1 := Int.mul_nonneg (by omega) (by omega)
    have b2 : σ 1 0 * σ 1 1 ≤ 5 * 6 := Int.mul_le_mul q2 q4 (by omega) (by omega)
    exact ⟨w32_id ⟨by omega, by omega⟩, b1, by omega⟩
