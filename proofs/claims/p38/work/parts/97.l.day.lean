/-! a day's cells -/
section QDAY
variable {L : Nat} {xs : Nat → Int32}
theorem q_cntS {F : Int} {W : Int → Int} {G : Int → Int → Int} {n c : Nat} (n31 : n ≤ 31) (n1 : 1 ≤ n) (hF : F ≤ zLd W G c (zMo (zLd W G c) n).2) : ((zcn (zt (zLI F (zLd W G c) n).2) n : Nat) : Int) = ((zMo (zLd W G c) n).1 : Int) := by
  have h := zLI_n (F := F) (L := zLd W G c) n31 n1 hF
  unfold zcnt at h
  rw [zcn_cut (m := n) (n := 32) (by omega) (fun i h1 h2 => by rw [zLI_t F _ n (by omega), decide_eq_false]; omega)] at h
  exact h
theorem T_cnt {S : Int} {N : Nat} (h6 : N ≤ 6) {y : zHp} {n C D k w c : Int} : sW (lc_L_law_7 L xs) (lf_L_law_7 L xs) (ls_L_law_7 L xs) [0, 0, 37, n, C, (N : Int), 38, D, 40, k, w, c, S, 0, 0, 0, 0] y = some (0, [0, 0, 37, n, C, (N : Int), 38, D, 40, k, w, c, S, ((zcn (zt S) N : Nat) : Int), 0 + (N : Int), 0, 0], y) :=
  zforP (c := lc_L_law_7 L xs) (f := lf_L_law_7 L xs) (i := 14) (lo := 0) (σ := y) N (fun j => [0, 0, 37, n, C, (N : Int), 38, D, 40, k, w, c, S, ((zcn (zt S) j : Nat) : Int), 0 + (j : Int), 0, 0]) (fun k => rfl) (by decide) (by omega)
    (fun j hj => by
      rw [q_lwC7]
      have : (0 + (j : Int) < (N : Int)) ↔ j < N := by omega
      simp only [this])
    (fun j hj => by
      have hb := zbit (c := j) (by omega) S
      have le := zcn_le (zt S) j
      have e := zcn_S (zt S) j
      have o : o_iadd ((zcn (zt S) j : Nat) : Int) (if zt S j = true then 1 else 0) = ((zcn (zt S) (j + 1) : Nat) : Int) := by
        rw [e]
        generalize zcn (zt S) j = z at *
        split
        · exact w32_id (x := (z : Int) + 1) ⟨by omega, by omega⟩
        · exact w32_id (x := (z : Int) + 0) ⟨by omega, by omega⟩
      rw [z0k]
      exact ⟨_, _, q_lwB7 hb o, Or.inl rfl, rfl, rfl⟩)
theorem T_dcell {σ x : zHp} (hI : zInv σ) (hq : zGq σ) (h : qW σ x) (hu : qU (zNb σ) (σ 9) x) {n D k w : Int} {c : Nat} (hc : c < zNc σ) (hw : 0 ≤ w ∧ w ≤ 39) (hcap : zct x < zcap) {P : Int → Int} (hP : ∀ b : Int, 0 ≤ b → b < zNb σ → 0 ≤ P b ∧ P b ≤ 90000) (hs : ∀ b : Int, 0 ≤ b → b < zNb σ → x 40 b = P b + zSm (zPo (zFF σ w) (σ 9) (zGG σ w) (zNb σ) (fun i => σ 2 i) b) c) :
    ∃ y, lf_L_law_9 L xs [0, 0, 37, n, (zNc σ : Int), (zNb σ : Int), 38, D, 40, k, w, (c : Int), 0, 0, 0, 0, 0] x = some (0, [0, 0, 37, n, (zNc σ : Int), (zNb σ : Int), 38, D, 40, k, w, (c : Int), 0, 0, 0, 0, 0], y) ∧ qW σ y ∧ qU (zNb σ) (σ 9) y ∧ zct y = zct x + 1 ∧ (∀ j : Int, y 31 j = x 31 j ∧ y 32 j = x 32 j) ∧ ∀ b : Int, 0 ≤ b → b < zNb σ → y 40 b = P b + zSm (zPo (zFF σ w) (σ 9) (zGG σ w) (zNb σ) (fun i => σ 2 i) b) (c + 1) := by
  obtain ⟨n1, n2⟩ := zNb_e hI
  obtain ⟨c1, c2⟩ := zNc_e hI
  have hc2 : (0 : Int) ≤ (c : Int) ∧ (c : Int) < σ 1 2 := ⟨by omega, by omega⟩
  have hh : ∀ i : Nat, i < zNc σ → 0 ≤ σ 2 i ∧ σ 2 i ≤ 9 := fun i hi => by
    have := hI.2.2.2.1 (i : Int) (by omega) (by omega)
    exact ⟨this.1, this.2.1⟩
  obtain ⟨y, y1, y2, y3, y4, y5, y6⟩ := W_hear hI hq h hu hc2 hw hcap
  have uy : qU (zNb σ) (σ 9) y := hu.cl (fun b => y3 37 b (by decide) (by decide) (by decide))
  have cnt := fun (n1 : 1 ≤ zNb σ) (hF : zFF σ w ≤ zLd (σ 9) (zGG σ w) c (zMo (zLd (σ 9) (zGG σ w) c) (zNb σ)).2) => q_cntS (F := zFF σ w) (W := σ 9) (G := zGG σ w) (n := zNb σ) (c := c) (by omega) n1 hF
  have bits := fun (b : Int) (hb : 0 ≤ b ∧ b < zNb σ) => zLI_b (F := zFF σ w) (W := σ 9) (G := zGG σ w) (n := zNb σ) (by omega) hb c
  generalize (zLI (zFF σ w) (zLd (σ 9) (zGG σ w) (c : Int)) (zNb σ)).2 = S at y6 cnt bits
  obtain ⟨z, hl, z1, z2, z3, z4, z5, z6⟩ := zfor0 (c := lc_L_law_8 L xs) (f := lf_L_law_8 L xs) (i := 14) (lo := 0) (σ := y) (zNb σ) (fun b => [0, 0, 37, n, (zNc σ : Int), (zNb σ : Int), 38, D, 40, k, w, (c : Int), S, ((zcn (zt S) (zNb σ) : Nat) : Int), 0 + (b : Int), 0, 0])
    (fun b z => qW σ z ∧ qU (zNb σ) (σ 9) z ∧ zct z = zct y ∧ (∀ j : Int, z 31 j = y 31 j ∧ z 32 j = y 32 j) ∧ (∀ d : Int, 0 ≤ d → d < b → z 40 d = P d + zSm (zPo (zFF σ w) (σ 9) (zGG σ w) (zNb σ) (fun i => σ 2 i) d) (c + 1)) ∧ ∀ d : Int, (b : Int) ≤ d → d < zNb σ → z 40 d = P d + zSm (zPo (zFF σ w) (σ 9) (zGG σ w) (zNb σ) (fun i => σ 2 i) d) c)
    ⟨y2, uy, rfl, fun j => ⟨rfl, rfl⟩, fun d d0 d1 => by omega, fun d d0 d1 => by rw [y3 40 d (by decide) (by decide) (by decide)]; exact hs d (by omega) d1⟩ (fun k => rfl) (by decide) (by omega)
    (fun b z hb hz => by
      rw [q_lwC8]
      have : (0 + (b : Int) < ((zNb σ : Nat) : Int)) ↔ b < zNb σ := by omega
      simp only [this])
    (fun b z hb hz => by
      obtain ⟨z1, z2, z3, z4, z5, z6⟩ := hz
      have hb2 : 0 ≤ (b : Int) ∧ (b : Int) < zNb σ := ⟨by omega, by omega⟩
      have gq := z1.gq hI hq
      have hgt : z 37 (3 + (c : Int)) = σ 2 c := by
        rw [gq.1.2.2.1 c (by omega) (by rw [z1.g (a := 1) (by decide) rfl]; omega), z1.g (a := 2) (by decide) rfl]
      have hk9 := hh c hc
      have ue : o_imul (o_isub 10 (σ 2 c)) 60 = 60 * (10 - σ 2 c) := by
        have e1 : o_isub 10 (σ 2 c) = 10 - σ 2 c := w32_id ⟨by omega, by omega⟩
        rw [e1]
        have : o_imul (10 - σ 2 c) 60 = (10 - σ 2 c) * 60 := w32_id ⟨by omega, by omega⟩
        omega
      have n1' : 1 ≤ zNb σ := by omega
      have sb := zSm_b (f := zPo (zFF σ w) (σ 9) (zGG σ w) (zNb σ) (fun i => σ 2 i) (b : Int)) (lo := 0) (hi := 600) c (fun i hi => zPo_b n1' (hh i (by omega)))
      have pb := zPo_b (F := zFF σ w) (W := σ 9) (G := zGG σ w) (n := zNb σ) (h := fun i => σ 2 i) (b := (b : Int)) (i := c) n1' hk9
      have Pb := hP (b : Int) hb2.1 hb2.2
      have sS : zSm (zPo (zFF σ w) (σ 9) (zGG σ w) (zNb σ) (fun i => σ 2 i) (b : Int)) (c + 1) = zSm (zPo (zFF σ w) (σ 9) (zGG σ w) (zNb σ) (fun i => σ 2 i) (b : Int)) c + zPo (zFF σ w) (σ 9) (zGG σ w) (zNb σ) (fun i => σ 2 i) (b : Int) c := rfl
      have old := z6 (b : Int) (Int.le_refl _) hb2.2
      have se : o_ladd (z 40 (b : Int)) (zPo (zFF σ w) (σ 9) (zGG σ w) (zNb σ) (fun i => σ 2 i) (b : Int) c) = P (b : Int) + zSm (zPo (zFF σ w) (σ 9) (zGG σ w) (zNb σ) (fun i => σ 2 i) (b : Int)) (c + 1) := by
        rw [old, sS, ← Int.add_assoc]
        exact w64_id ⟨by omega, by omega⟩
      have body := q_lwB8 (L := L) (xs := xs) (υ := z) (n := n) (C := (zNc σ : Int)) (N := (zNb σ : Int)) (D := D) (k := k) (w := w) (c := (c : Int)) (m := ((zcn (zt S) (zNb σ) : Nat) : Int)) (bit := zRb (zFF σ w) (σ 9) (zGG σ w) (zNb σ) (b : Int) c) ⟨hb2.1, by omega⟩ (bits (b : Int) hb2) (show o_iadd 3 (c : Int) = 3 + (c : Int) from w32_id ⟨by omega, by omega⟩) ⟨by omega, by omega⟩ hgt ue
        (fun ht => by
          have hd := of_decide_eq_true ht
          have s := (zMo_s (zLd (σ 9) (zGG σ w) c) (zNb σ) n1').1
          rw [cnt n1' hd.1]
          refine ⟨by omega, ?_⟩
          show _ = zPo (zFF σ w) (σ 9) (zGG σ w) (zNb σ) (fun i => σ 2 i) (b : Int) c
          unfold zPo
          rw [if_pos ht]
          exact zdiv_e (by omega) (by omega))
        (fun hf => by unfold zPo; rw [if_neg (by rw [hf]; decide)]) se
      rw [z0k]
      have vr : r64 (P (b : Int) + zSm (zPo (zFF σ w) (σ 9) (zGG σ w) (zNb σ) (fun i => σ 2 i) (b : Int)) (c + 1)) := by
        rw [sS]
        exact ⟨by omega, by omega⟩
      refine ⟨_, _, _, body, Or.inl rfl, rfl, rfl, z1.free (zOk_40 z1.1 ⟨by omega, by omega⟩ vr) (k := 40) (by decide) (fun a j q => zput_o q j), z2.cl (fun j => zput_o (by decide) j), (zct_put (o := 40)).trans z3, fun j => ⟨by rw [zput_o (by decide)]; exact (z4 j).1, by rw [zput_o (by decide)]; exact (z4 j).2⟩, fun d d0 d1 => ?_, fun d d0 d1 => ?_⟩
      · by_cases q : d = (b : Int)
        · rw [q, zput_self]
        · rw [zput_i q]
          exact z5 d d0 (by omega)
      · rw [zput_i (by omega)]
        exact z6 d (by omega) d1)
  have hl2 : sW (lc_L_law_8 L xs) (lf_L_law_8 L xs) (ls_L_law_8 L xs) [0, 0, 37, n, (zNc σ : Int), (zNb σ : Int), 38, D, 40, k, w, (c : Int), S, ((zcn (zt S) (zNb σ) : Nat) : Int), 0, 0, 0] y = some (0, [0, 0, 37, n, (zNc σ : Int), (zNb σ : Int), 38, D, 40, k, w, (c : Int), S, ((zcn (zt S) (zNb σ) : Nat) : Int), 0 + (zNb σ : Int), 0, 0], z) := hl
  refine ⟨z, q_lwB9 y1 y6 (T_cnt (by omega)) hl2, z1, z2, by omega, fun j => ?_, z5⟩
  rw [(z4 j).1, (z4 j).2, y3 31 j (by decide) (by decide) (by decide), y3 32 j (by decide) (by decide) (by decide)]
  exact ⟨rfl, rfl⟩
end QDAY
