/-! only the reference's mark of the loudest is another -/
/-- whether bell b is loudest and heard in a cell -/
def zRb (F : Int) (W : Int → Int) (G : Int → Int → Int) (n : Nat) (b : Int) (c : Nat) : Bool := decide (F ≤ zLd W G c (zMo (zLd W G c) n).2 ∧ zLd W G c b = zLd W G c (zMo (zLd W G c) n).2)
theorem zShl0 {c : Nat} (hc : c < 32) : zShl 0 (c : Int) = 0 := zt_ext (r32_shl _ _) r32_0 (fun i hi => by rw [zt_shl hc 0 hi, zbt0, zbt0, Bool.and_false])
theorem zLI_b {F : Int} {W : Int → Int} {G : Int → Int → Int} {n : Nat} (hn : n ≤ 31) {b : Int} (hb : 0 ≤ b ∧ b < n) (c : Nat) : zAnd (zShr (zLI F (zLd W G c) n).2 b) 1 = if zRb F W G n b c = true then 1 else 0 := by
  have b2 : ((b.toNat : Nat) : Int) = b := by omega
  rw [zbit_i (by omega), zLI_t F _ n (by omega), b2]
  unfold zRb
  generalize zMo (zLd W G c) n = r
  by_cases p : F ≤ zLd W G c r.2 ∧ zLd W G c b = zLd W G c r.2
  · rw [decide_eq_true p, decide_eq_true ⟨by omega, p.1, p.2⟩]
  · rw [decide_eq_false p, decide_eq_false (fun z => p z.2)]
theorem w_reBody {σ : zHp} {b w s k l x : Int} (h : m_X0_loudestIn [10, k] σ = some (l, σ)) (hx : zAnd (zShr l b) 1 = x) : lf_X8_reach_1 [0, b, w, s, k] σ = some (0, [0, b, w, zOr s (zShl x k), k], σ) := by
  simp [lf_X8_reach_1, xC_e, xL_e, xU_e, xB_e, xD_e, xF_e, xG_e, xA_e, xE_e, xH_e, xI_e, xZ_e, xK_e, aN_e, aC_e, cR_e, cV_e, cA_e, cO_e, cN_e, bs_e, bn_e, zg_0, zg_S, sS_e, sX_e, sF_e, sG_e, sA_e, sE_e, sEo_e, sK_e, sQ_e, sI_e, sR_e, sV_e, sB_e, sC_e, sD_e, sN_e, st_0, st_S, zc_0, zc_S, h, hx]
