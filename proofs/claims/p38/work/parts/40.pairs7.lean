/-- places i0 .. i0 + n - 1 of a row become v -/
def zfill (σ : zHp) (o i0 n v : Int) : zHp := fun a b => if a = o ∧ i0 ≤ b ∧ b < i0 + n then v else σ a b
theorem zfill_0 (σ : zHp) (o i0 v : Int) : zfill σ o i0 0 v = σ := by
  funext a b
  unfold zfill
  rw [if_neg (by omega)]
theorem zfill_S (σ : zHp) (o i0 n v : Int) (h : 0 ≤ n) : zput (zfill σ o i0 n v) o (i0 + n) v = zfill σ o i0 (n + 1) v := by
  funext a b
  show (if a = o ∧ b = i0 + n then v else if a = o ∧ i0 ≤ b ∧ b < i0 + n then v else σ a b) = if a = o ∧ i0 ≤ b ∧ b < i0 + (n + 1) then v else σ a b
  by_cases h1 : a = o ∧ b = i0 + n
  · rw [if_pos h1, if_pos (by omega)]
  · rw [if_neg h1]
    by_cases h2 : a = o ∧ i0 ≤ b ∧ b < i0 + n
    · rw [if_pos h2, if_pos (by omega)]
    · rw [if_neg h2, if_neg (by omega)]
theorem zfill_o {σ : zHp} {o i0 n v a : Int} (h : a ≠ o) (b : Int) : zfill σ o i0 n v a b = σ a b := by
  unfold zfill
  rw [if_neg (fun q => h q.1)]
theorem zfill_n {σ : zHp} {o i0 n v a b : Int} (h : ¬ (a = o ∧ i0 ≤ b ∧ b < i0 + n)) : zfill σ o i0 n v a b = σ a b := if_neg h
theorem zfill_y {σ : zHp} {o i0 n v a b : Int} (h : a = o ∧ i0 ≤ b ∧ b < i0 + n) : zfill σ o i0 n v a b = v := if_pos h
theorem zput_n {σ : zHp} {o i v a b : Int} (h : ¬ (a = o ∧ b = i)) : zput σ o i v a b = σ a b := if_neg h
theorem w_fill60 (o v : Int) (σ : zHp) : m_J7_fill_53178_b [o, v] σ = some (0, zfill σ o 0 60 v) := by
  have hl := zl_seq (c := lc_J7_fill_53178_b_1) (f := lf_J7_fill_53178_b_1) (s := ls_J7_fill_53178_b_1) (fun k => [o, v, (k : Int), 60]) (fun k => zfill σ o 0 (k : Int) v) 60
    (fun k hk => by
      have : (k : Int) < 60 := by omega
      simp [lc_J7_fill_53178_b_1, xC_e, xL_e, xU_e, xB_e, xD_e, xF_e, xG_e, xA_e, xE_e, xH_e, xI_e, xZ_e, xK_e, aN_e, aC_e, cR_e, cV_e, cA_e, cO_e, cN_e, bs_e, bn_e, zg_0, zg_S, sS_e, sX_e, sF_e, sG_e, sA_e, sE_e, sEo_e, sK_e, sQ_e, sI_e, sR_e, sV_e, sB_e, sC_e, sD_e, sN_e, st_0, st_S, zc_0, zc_S, r_lt, this])
    (fun k hk => by
      refine ⟨0, [o, v, (k : Int), 60], zput (zfill σ o 0 (k : Int) v) o k v, ?_, Or.inl rfl, ?_⟩
      · have : 0 ≤ (k : Int) ∧ (k : Int) < 60 := by omega
        simp [lf_J7_fill_53178_b_1, xC_e, xL_e, xU_e, xB_e, xD_e, xF_e, xG_e, xA_e, xE_e, xH_e, xI_e, xZ_e, xK_e, aN_e, aC_e, cR_e, cV_e, cA_e, cO_e, cN_e, bs_e, bn_e, zg_0, zg_S, sS_e, sX_e, sF_e, sG_e, sA_e, sE_e, sEo_e, sK_e, sQ_e, sI_e, sR_e, sV_e, sB_e, sC_e, sD_e, sN_e, st_0, st_S, zc_0, zc_S, this]
      · have e : o_iadd (k : Int) 1 = ((k + 1 : Nat) : Int) := by
          have : o_iadd (k : Int) 1 = (k : Int) + 1 := w32_id ⟨by omega, by omega⟩
          omega
        have q := zfill_S σ o 0 (k : Int) v (by omega)
        rw [show (0 : Int) + (k : Int) = k by omega] at q
        simp [ls_J7_fill_53178_b_1, xC_e, xL_e, xU_e, xB_e, xD_e, xF_e, xG_e, xA_e, xE_e, xH_e, xI_e, xZ_e, xK_e, aN_e, aC_e, cR_e, cV_e, cA_e, cO_e, cN_e, bs_e, bn_e, zg_0, zg_S, sS_e, sX_e, sF_e, sG_e, sA_e, sE_e, sEo_e, sK_e, sQ_e, sI_e, sR_e, sV_e, sB_e, sC_e, sD_e, sN_e, st_0, st_S, zc_0, zc_S, e, q])
    (by simp [lc_J7_fill_53178_b_1, xC_e, xL_e, xU_e, xB_e, xD_e, xF_e, xG_e, xA_e, xE_e, xH_e, xI_e, xZ_e, xK_e, aN_e, aC_e, cR_e, cV_e, cA_e, cO_e, cN_e, bs_e, bn_e, zg_0, zg_S, sS_e, sX_e, sF_e, sG_e, sA_e, sE_e, sEo_e, sK_e, sQ_e, sI_e, sR_e, sV_e, sB_e, sC_e, sD_e, sN_e, st_0, st_S, zc_0, zc_S, r_lt])
    (zf_lt (by decide))
  have hl2 : sW lc_J7_fill_53178_b_1 lf_J7_fill_53178_b_1 ls_J7_fill_53178_b_1 [o, v, 0, 60] σ = some (0, [o, v, 60, 60], zfill σ o 0 60 v) := by
    have := hl
    simp only [Int.natCast_zero, zfill_0] at this
    exact this
  simp [e_J7_fill_53178_b, d_J7_fill_53178_b, xC_e, xL_e, xU_e, xB_e, xD_e, xF_e, xG_e, xA_e, xE_e, xH_e, xI_e, xZ_e, xK_e, aN_e, aC_e, cR_e, cV_e, cA_e, cO_e, cN_e, bs_e, bn_e, zg_0, zg_S, sS_e, sX_e, sF_e, sG_e, sA_e, sE_e, sEo_e, sK_e, sQ_e, sI_e, sR_e, sV_e, sB_e, sC_e, sD_e, sN_e, st_0, st_S, zc_0, zc_S, hl2]
