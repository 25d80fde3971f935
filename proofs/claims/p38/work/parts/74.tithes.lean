/-! tithes: both sides on places of which fault and scratch may be others -/
def zCl (σ τ : zHp) : Prop := ∀ a b : Int, a ≠ 12 → ¬ (a = 10 ∧ b = 5) → τ a b = σ a b
theorem zCl.tr {σ τ υ : zHp} (h : zCl σ τ) (h2 : zCl τ υ) : zCl σ υ := fun a b q1 q2 => by rw [h2 a b q1 q2, h a b q1 q2]
/-! a day's parts -/
def zPo (F : Int) (W : Int → Int) (G : Int → Int → Int) (n : Nat) (h : Nat → Int) (b : Int) (i : Nat) : Int := if zRb F W G n b i = true then 60 * (10 - h i) / ((zMo (zLd W G i) n).1 : Int) else 0
theorem zLI_n {F : Int} {L : Int → Int} {n : Nat} (hn : n ≤ 31) (n1 : 1 ≤ n) (hF : F ≤ L (zMo L n).2) : zcnt (zLI F L n).2 = ((zMo L n).1 : Int) := by
  unfold zcnt
  rw [zcn_cut (m := n) (n := 32) (by omega) (fun i h1 h2 => by rw [zLI_t F L n (by omega), decide_eq_false]; omega), (zMo_s L n n1).2.2.2.2]
  congr 1
  refine zcn_c n (fun i hi => ?_)
  rw [zLI_t F L n (by omega)]
  by_cases q : L i = L (zMo L n).2
  · rw [decide_eq_true q, decide_eq_true ⟨hi, hF, q⟩]
  · rw [decide_eq_false q, decide_eq_false (fun z => q z.2.2)]
theorem zPo_b {F : Int} {W : Int → Int} {G : Int → Int → Int} {n : Nat} {h : Nat → Int} {b : Int} {i : Nat} (n1 : 1 ≤ n) (hh : 0 ≤ h i ∧ h i ≤ 9) : 0 ≤ zPo F W G n h b i ∧ zPo F W G n h b i ≤ 600 := by
  unfold zPo
  split
  · have s := (zMo_s (zLd W G i) n n1).1
    generalize (zMo (zLd W G i) n).1 = m at *
    have h1 := Int.ediv_nonneg (show 0 ≤ 60 * (10 - h i) by omega) (show 0 ≤ (m : Int) by omega)
    have h2 := Int.ediv_le_self (m : Int) (show 0 ≤ 60 * (10 - h i) by omega)
    omega
  · omega
theorem w_poBody {υ : zHp} {b s k l t u x m y : Int} {bit : Bool} (h1 : m_X0_loudestIn [10, k] υ = some (l, υ)) (hb : zAnd (zShr l b) 1 = if bit = true then 1 else 0) (h2 : m_X3_titheOf [1, k] υ = some (t, υ)) (o1 : o_imul t 60 = u) (hm : bit = true → zcnt l = m ∧ m ≠ 0 ∧ zdiv u m = x) (hx : bit = false → x = 0) (o2 : o_iadd s x = y) (hy : bit = false → y = s) : lf_X8_partsOfTithe_1 [0, b, s, k, 0] υ = some (0, [0, b, y, k, 0], υ) := by
  cases bit
  · simp at hb
    simp [lf_X8_partsOfTithe_1, xC_e, xL_e, xU_e, xB_e, xD_e, xF_e, xG_e, xA_e, xE_e, xH_e, xI_e, xZ_e, xK_e, aN_e, aC_e, cR_e, cV_e, cA_e, cO_e, cN_e, bs_e, bn_e, zg_0, zg_S, sS_e, sX_e, sF_e, sG_e, sA_e, sE_e, sEo_e, sK_e, sQ_e, sI_e, sR_e, sV_e, sB_e, sC_e, sD_e, sN_e, st_0, st_S, zc_0, zc_S, r_eq, r_ne, r_lt, r_le, r_gt, r_ge, rb_ite, rb_0, rb_1, h1, hb, hy rfl]
  · simp at hb
    obtain ⟨m1, m2, m3⟩ := hm rfl
    simp [lf_X8_partsOfTithe_1, xC_e, xL_e, xU_e, xB_e, xD_e, xF_e, xG_e, xA_e, xE_e, xH_e, xI_e, xZ_e, xK_e, aN_e, aC_e, cR_e, cV_e, cA_e, cO_e, cN_e, bs_e, bn_e, zg_0, zg_S, sS_e, sX_e, sF_e, sG_e, sA_e, sE_e, sEo_e, sK_e, sQ_e, sI_e, sR_e, sV_e, sB_e, sC_e, sD_e, sN_e, st_0, st_S, zc_0, zc_S, r_eq, r_ne, r_lt, r_le, r_gt, r_ge, rb_ite, rb_0, rb_1, h1, hb, h2, o1, w_bitCount, m1, m2, m3, o2]
theorem w_poEval {υ : zHp} {b s k : Int} (hl : sW lc_X8_partsOfTithe_1 lf_X8_partsOfTithe_1 ls_X8_partsOfTithe_1 [0, b, 0, 0, 0] υ = some (0, [0, b, s, k, 0], υ)) : m_X8_partsOfTithe [0, b] υ = some (s, υ) := by
  simp [e_X8_partsOfTithe, d_X8_partsOfTithe, xC_e, xL_e, xU_e, xB_e, xD_e, xF_e, xG_e, xA_e, xE_e, xH_e, xI_e, xZ_e, xK_e, aN_e, aC_e, cR_e, cV_e, cA_e, cO_e, cN_e, bs_e, bn_e, zg_0, zg_S, sS_e, sX_e, sF_e, sG_e, sA_e, sE_e, sEo_e, sK_e, sQ_e, sI_e, sR_e, sV_e, sB_e, sC_e, sD_e, sN_e, st_0, st_S, zc_0, zc_S, hl]
theorem w_po {σ : zHp} {n C : Nat} {F : Int} {W : Int → Int} {G : Int → Int → Int} (hC : zCp σ n C F W G) (hQ : zCq n C F G) (hW : zWt n W) {h : Nat → Int} (h2 : ∀ i : Nat, i < C → σ 2 i = h i) (hh : ∀ i, i < C → 0 ≤ h i ∧ h i ≤ 9) {b : Int} (hb : 0 ≤ b ∧ b < n) : m_X8_partsOfTithe [0, b] σ = some (zSm (zPo F W G n h b) C, σ) := by
  have c30 := hQ.2.1
  have n6 := hQ.1
  refine w_poEval (k := 0 + (C : Int)) (zforP (c := lc_X8_partsOfTithe_1) (f := lf_X8_partsOfTithe_1) (i := 3) (lo := 0) C (fun k => [0, b, zSm (zPo F W G n h b) k, 0 + (k : Int), 0]) (fun k => rfl) (by decide) (by omega)
    (fun k hk => zc_lt (i := 3) (x := 0 + (k : Int)) rfl (zx_G (N := C) hC.2.1) (by omega)) (fun k hk => ?_))
  have hk9 := hh k hk
  have sb := zSm_b (f := zPo F W G n h b) (lo := 0) (hi := 600) k (fun i hi => zPo_b (by omega) (hh i (by omega)))
  have pb := zPo_b (F := F) (W := W) (G := G) (n := n) (b := b) (i := k) (by omega) hk9
  have e : o_imul (10 - h k) 60 = 60 * (10 - h k) := by
    have : o_imul (10 - h k) 60 = (10 - h k) * 60 := w32_id ⟨by omega, by omega⟩
    omega
  have body := w_poBody (b := b) (s := zSm (zPo F W G n h b) k) (k := (k : Int)) (x := zPo F W G n h b k) (m := ((zMo (zLd W G k) n).1 : Int)) (y := zSm (zPo F W G n h b) k + zPo F W G n h b k) (bit := zRb F W G n b k) (w_li hC hQ hW (c := (k : Int)) (by omega)) (zLI_b (by omega) hb k) (w_tiOf (by omega) (h2 k hk) hk9) e
    (fun ht => by
      have hd := of_decide_eq_true ht
      have s := (zMo_s (zLd W G k) n (by omega)).1
      refine ⟨zLI_n (by omega) (by omega) hd.1, by omega, ?_⟩
      unfold zPo
      rw [if_pos ht]
      exact zdiv_e (by omega) (by omega))
    (fun hf => by unfold zPo; rw [if_neg (by rw [hf]; decide)]) (w32_id ⟨by omega, by omega⟩) (fun hf => by unfold zPo; rw [if_neg (show ¬ zRb F W G n b k = true by rw [hf]; decide)]; omega)
  rw [z0k, z0k]
  exact ⟨_, _, body, Or.inl rfl, rfl, rfl⟩
