/-- the array that a value of kind t stands for is in the world -/
def zpr (M : zM) (t : Nat) : Prop := t ≤ 7 ∨ (10 ≤ t ∧ t < 47) ∨ (47 ≤ t ∧ t - 10 ∈ zns M)
theorem zp_a {M : zM} {t : Nat} (h : t ≤ 7 ∨ 10 ≤ t ∧ t < 47) : zpr M t := h.elim Or.inl (fun q => Or.inr (Or.inl q))
theorem zp_b {M : zM} {o : Nat} (h : 37 ≤ o) (hm : o ∈ zns M) : zpr M (o + 10) := Or.inr (Or.inr ⟨by omega, by rw [Nat.add_sub_cancel]; exact hm⟩)
theorem zp_7 {M : zM} {t : Nat} (h : zpr M t) : t ≤ 7 ∨ 10 ≤ t := by
  rcases h with h | h | h <;> omega
theorem zp_in {M : zM} {t : Nat} {o : Nat} (h : zpr M t) (ht : 5 ≤ t) (hx : inR t (o : Int)) (hn : zNs (zns M)) : o ∈ zns M := by
  rcases h with h | ⟨h1, h2⟩ | ⟨h1, h2⟩
  · refine hn.2 o ?_
    rcases (show t = 5 ∨ t = 6 ∨ t = 7 by omega) with rfl | rfl | rfl
    · have : (o : Int) = 29 ∨ (o : Int) = 31 ∨ (o : Int) = 33 ∨ (o : Int) = 35 := hx
      omega
    · have : (o : Int) = 30 ∨ (o : Int) = 32 ∨ (o : Int) = 34 ∨ (o : Int) = 36 := hx
      omega
    · have : (o : Int) = 9 ∨ (o : Int) = 26 := hx
      omega
  · obtain ⟨n, rfl⟩ : ∃ n, t = n + 10 := ⟨t - 10, by omega⟩
    have h3 : (o : Int) = ((n + 10 : Nat) : Int) - 10 ∧ 0 ≤ (o : Int) ∧ (o : Int) < 43 := hx
    exact hn.2 o (by omega)
  · obtain ⟨n, rfl⟩ : ∃ n, t = n + 10 := ⟨t - 10, by omega⟩
    have h3 : (o : Int) = ((n + 10 : Nat) : Int) - 10 ∧ 0 ≤ (o : Int) ∧ (o : Int) < 43 := hx
    have h4 : n + 10 - 10 = o := by omega
    rw [h4] at h2
    exact h2
theorem zoc_37 {o : Nat} (h : zoc o < 100) : o < 37 := by
  by_cases q : o < 43
  · have hall : ∀ i : Fin 43, zoc i < 100 → (i : Nat) < 37 := by decide +kernel
    exact hall ⟨o, q⟩ h
  · exfalso
    unfold zoc at h
    rw [List.getD_eq_getElem?_getD, List.getElem?_eq_none (by show zOC.length ≤ o; have : zOC.length = 43 := rfl; omega)] at h
    simp at h
section ZM
variable {M : zM} {Γ : List (Nat × Nat)} {e : List Int} {st : List (Nat × Int)} {σ τ : zHp} {pc pc2 : Nat}
theorem zsv_ref {ad : Nat → Nat} {b t : Nat} {x : Int} (ht : 5 ≤ t) (st : List (Nat × Int)) : zsv ad b ((t, x) :: st) = Value.ref (ad x.toNat) :: zsv ad b st := by simp [zsv, zV_ref ht]
theorem zcl_lt {t : Nat} {q : vw_C} (h : vwCl[zcl t]? = some q) : zcl t < 100 := by
  have h1 := (List.getElem?_eq_some_iff.mp h).1
  have h2 : vwCl.length = 9 := rfl
  omega
theorem zr_getf {t t2 k index N : Nat} {x : Int} {C : String} {T : u_T} (ht : 5 ≤ t) (h7 : t ≤ 7 ∨ 10 ≤ t) (hx : inR t x) (hc : vwCl[zcl t]? = some (C, T, N)) (hN : zln t = N) (hk : k < N) (hin : ∀ w ∈ u_ws C T N, w ∈ zTs M)
    (hw : Cond.fieldLink (zown M) index (T k).1 (T k).2.1 (T k).2.2.1 ∈ zTs M) (hf : zft (zcl t) k = t2) (h2 : ¬ t2 = 2) (hd : decode (zcc M) pc = .ok (.getfield index, 3)) (kn : zRn M (pc + 3) Γ e ((t2, σ x k) :: st) σ) : zRn M pc Γ e ((t, x) :: st) σ := by
  have hlt := zcl_lt hc
  obtain ⟨o, h1, rfl, h3, h4⟩ := zcl_ok ht h7 hx
  refine zr_a kn (fun p l en R s m args below meth c cells slots Q D cs ad A b H locs ls K hcc ho hP hS hl kk => ?_)
  rw [zsv_ref ht]
  have hg := zW_get cs ad σ (ns := zns M) ((K.2.2.2.2.2.2.2.2.2.2.2.2.1).2 o (zoc_37 (by omega)))
  rw [zcell_o (by omega), h3] at hg
  refine va_get (D := D) (ci := zcl t) (v := zV ad b t2 (σ o k)) (C := C) (T := T) (N := N) K.1 K.2.1 K.2.2.2.2.1 hin K.2.2.2.1 K.2.2.2.2.2.1 hP _ hg hc k hk (K.2.2.2.2.1 _ hw) (fun _ h9 => h9) ?_ hd kk
  rw [List.getElem?_map, List.getElem?_range (by omega)]
  simp only [Option.map_some, zfv, h3, hf, if_neg h2]
  congr 1
  unfold zft at hf
  have hz : t2 = 0 ∨ t2 = 1 ∨ t2 = 4 := by
    have hall : ∀ l ∈ zFT, ∀ z ∈ l, z = 0 ∨ z = 1 ∨ z = 4 ∨ z = 2 := by decide +kernel
    rw [List.getD_eq_getElem?_getD, List.getD_eq_getElem?_getD] at hf
    cases q1 : zFT[zcl t]? with
    | none => rw [q1] at hf; simp at hf; exact Or.inl hf.symm
    | some l =>
      rw [q1] at hf
      simp only [Option.getD_some] at hf
      cases q2 : l[k]? with
      | none => rw [q2] at hf; simp at hf; exact Or.inl hf.symm
      | some z =>
        rw [q2] at hf
        simp only [Option.getD_some] at hf
        have := hall l (List.mem_of_getElem? q1) z (List.mem_of_getElem? q2)
        omega
  rcases hz with rfl | rfl | rfl <;> rfl
theorem zr_getr {t t2 k index N : Nat} {x y : Int} {C : String} {T : u_T} (ht : 5 ≤ t) (h7 : t ≤ 7 ∨ 10 ≤ t) (hx : inR t x) (hc : vwCl[zcl t]? = some (C, T, N)) (hN : zln t = N) (hk : k < N) (hin : ∀ w ∈ u_ws C T N, w ∈ zTs M)
    (hw : Cond.fieldLink (zown M) index (T k).1 (T k).2.1 (T k).2.2.1 ∈ zTs M) (hf : zft (zcl t) k = 2) (ht2 : 5 ≤ t2) (hy : ∀ o : Nat, x = o → y.toNat = zsh o k) (hd : decode (zcc M) pc = .ok (.getfield index, 3)) (kn : zRn M (pc + 3) Γ e ((t2, y) :: st) σ) : zRn M pc Γ e ((t, x) :: st) σ := by
  have hlt := zcl_lt hc
  obtain ⟨o, h1, rfl, h3, h4⟩ := zcl_ok ht h7 hx
  refine zr_a kn (fun p l en R s m args below meth c cells slots Q D cs ad A b H locs ls K hcc ho hP hS hl kk => ?_)
  rw [zsv_ref ht2] at kk
  rw [zsv_ref ht]
  have hg := zW_get cs ad σ (ns := zns M) ((K.2.2.2.2.2.2.2.2.2.2.2.2.1).2 o (zoc_37 (by omega)))
  rw [zcell_o (by omega), h3] at hg
  refine va_get (D := D) (ci := zcl t) (v := Value.ref (ad y.toNat)) (C := C) (T := T) (N := N) K.1 K.2.1 K.2.2.2.2.1 hin K.2.2.2.1 K.2.2.2.2.2.1 hP _ hg hc k hk (K.2.2.2.2.1 _ hw) (fun _ h9 => h9) ?_ hd kk
  rw [List.getElem?_map, List.getElem?_range (by omega)]
  simp only [Option.map_some, zfv, h3, hf, if_pos]
  rw [hy o rfl]
theorem zr_putf {t t2 k index N : Nat} {x v : Int} {C : String} {T : u_T} {ty0 : Nat → FieldType} {ty : FieldType} (ht : 5 ≤ t) (h7 : t ≤ 7 ∨ 10 ≤ t) (hx : inR t x) (hv : inR t2 v) (hc : vwCl[zcl t]? = some (C, T, N)) (hN : zln t = N) (hk : k < N) (hin : ∀ w ∈ u_ws C T N, w ∈ zTs M)
    (hw : Cond.fieldLink (zown M) index (T k).1 (T k).2.1 (T k).2.2.1 ∈ zTs M) (hty : ∀ k, k < N → parseFieldDescriptor (T k).2.2.1 = some (ty0 k)) (hnm : ∀ a, a < N → ∀ b, b < N → a ≠ b → (T a).2.1 ≠ (T b).2.1) (hfin : (T k).2.2.2 = false) (hds : parseFieldDescriptor (T k).2.2.1 = some ty)
    (hf : zft (zcl t) k = t2) (h2 : t2 = 0 ∧ ty = .int ∨ t2 = 1 ∧ ty = .long ∨ t2 = 4 ∧ ty = .boolean) (hd : decode (zcc M) pc = .ok (.putfield index, 3)) (kn : zRn M (pc + 3) Γ e st (zput σ x k v)) : zRn M pc Γ e ((t2, v) :: (t, x) :: st) σ := by
  have hlt := zcl_lt hc
  obtain ⟨o, h1, rfl, h3, h4⟩ := zcl_ok ht h7 hx
  have hst : zst o k = t2 := by
    unfold zst
    rw [if_neg (by omega), if_neg (by omega), if_neg (by omega), h3, hf, if_neg (by omega)]
  refine zr_w (fun ho => zOk_put ho (by rw [hst]; exact hv)) zct_put kn (fun p l en R s m args below meth c cells slots Q D cs ad A b H locs ls K hcc ho hP hD hS hl kk => ?_)
  have hst2 : zsv ad b ((t2, v) :: (t, (o : Int)) :: st) = zV ad b t2 v :: Value.ref (ad o) :: zsv ad b st := by simp [zsv, zV_ref ht]
  rw [hst2]
  have hg := zW_get cs ad σ (ns := zns M) ((K.2.2.2.2.2.2.2.2.2.2.2.2.1).2 o (zoc_37 (by omega)))
  rw [zcell_o (by omega), h3] at hg
  have hb0 : zV ad b t2 v = zV ad 0 t2 v := by rcases h2 with ⟨rfl, -⟩ | ⟨rfl, -⟩ | ⟨rfl, -⟩ <;> rfl
  rw [hb0]
  have hnw : narrow ty (zV ad 0 t2 v) = zV ad 0 t2 v ∧ fits ty (zV ad 0 t2 v) = true := by
    rcases h2 with ⟨rfl, rfl⟩ | ⟨rfl, rfl⟩ | ⟨rfl, rfl⟩
    · exact ⟨rfl, rfl⟩
    · exact ⟨rfl, rfl⟩
    · rcases hv with rfl | rfl
      · exact ⟨by show narrow .boolean (.int (Int32.ofInt 0)) = .int (Int32.ofInt 0); first | rfl | decide +kernel, by show fits .boolean (.int (Int32.ofInt 0)) = true; first | rfl | decide +kernel⟩
      · exact ⟨by show narrow .boolean (.int (Int32.ofInt 1)) = .int (Int32.ofInt 1); first | rfl | decide +kernel, by show fits .boolean (.int (Int32.ofInt 1)) = true; first | rfl | decide +kernel⟩
  refine va_put (D := D) (ci := zcl t) (v := zV ad 0 t2 v) (ty := ty) (C := C) (T := T) (N := N) K.1 K.2.1 K.2.2.2.2.1 hin ty0 hty hnm K.2.2.2.1 K.2.2.2.2.2.1 hP hD hS _ hg hc k hk (K.2.2.2.2.1 _ hw) (fun _ h9 => h9) hfin hds hnw.1 hnw.2 (by simp; omega) hd (fun H1 locs1 hP1 hD1 hS1 => ?_)
  rw [zW_set (τ := zput σ o k v) (K.2.2.2.2.2.2.2.2.2.2.2.2.1).1 ((K.2.2.2.2.2.2.2.2.2.2.2.2.1).2 o (zoc_37 (by omega))) (by rw [zcell_oput (by omega) (by omega) (by rw [h3, hf]; omega), h3, hf]) zput_on] at hP1
  exact kk H1 locs1 hP1 hS1
theorem zr_iald {t : Nat} {x i : Int} (ht : 5 ≤ t) (h7 : zpr M t) (hx : inR t x) (hc : zcl t = 100) (h0 : 0 ≤ i) (hi : i < zln t) (hd : decode (zcc M) pc = .ok (.iaload, 1)) (kn : zRn M (pc + 1) Γ e ((0, σ x i) :: st) σ) : zRn M pc Γ e ((0, i) :: (t, x) :: st) σ := by
  obtain ⟨o, h1, rfl, h3, h4⟩ := zcl_ok ht (zp_7 h7) hx
  refine zr_a kn (fun p l en R s m args below meth c cells slots Q D cs ad A b H locs ls K hcc ho hP hS hl kk => ?_)
  have hst2 : zsv ad b ((0, i) :: (t, (o : Int)) :: st) = Value.int (Int32.ofInt i) :: Value.ref (ad o) :: zsv ad b st := by (simp only [zsv, List.map_cons, zV_ref ht, Int.toNat_natCast]; rfl)
  rw [hst2]
  obtain ⟨g1, g2⟩ := z32_in (n := zon o) h0 (by omega) (zon_lt o)
  have hin := zp_in h7 ht hx K.2.2.2.2.2.2.2.2.2.2.2.2.1
  have hg := zW_get cs ad σ (ns := zns M) hin
  rw [zcell_i (h3.trans hc)] at hg
  refine va_iald (D := D) K.1 K.2.1 K.2.2.2.2.2.1 hP _ 0 (f := (fun j : Nat => Int32.ofInt (σ o j))) hg rfl g1 hd ?_
  have e1 : ((i.toNat : Nat) : Int) = i := Int.toNat_of_nonneg h0
  simp only [g2, e1]
  exact kk
theorem zr_lald {t : Nat} {x i : Int} (ht : 5 ≤ t) (h7 : zpr M t) (hx : inR t x) (hc : zcl t = 101) (h0 : 0 ≤ i) (hi : i < zln t) (hd : decode (zcc M) pc = .ok (.laload, 1)) (kn : zRn M (pc + 1) Γ e ((1, σ x i) :: st) σ) : zRn M pc Γ e ((0, i) :: (t, x) :: st) σ := by
  obtain ⟨o, h1, rfl, h3, h4⟩ := zcl_ok ht (zp_7 h7) hx
  refine zr_a kn (fun p l en R s m args below meth c cells slots Q D cs ad A b H locs ls K hcc ho hP hS hl kk => ?_)
  have hst2 : zsv ad b ((0, i) :: (t, (o : Int)) :: st) = Value.int (Int32.ofInt i) :: Value.ref (ad o) :: zsv ad b st := by (simp only [zsv, List.map_cons, zV_ref ht, Int.toNat_natCast]; rfl)
  rw [hst2]
  obtain ⟨g1, g2⟩ := z32_in (n := zon o) h0 (by omega) (zon_lt o)
  have hin := zp_in h7 ht hx K.2.2.2.2.2.2.2.2.2.2.2.2.1
  have hg := zW_get cs ad σ (ns := zns M) hin
  rw [zcell_l (h3.trans hc)] at hg
  refine va_lald (D := D) K.1 K.2.1 K.2.2.2.2.2.1 hP _ 1 (f := (fun j : Nat => Int64.ofInt (σ o j))) hg rfl g1 hd ?_
  have e1 : ((i.toNat : Nat) : Int) = i := Int.toNat_of_nonneg h0
  simp only [g2, e1]
  exact kk
theorem zr_iast {t : Nat} {x i v : Int} (ht : 5 ≤ t) (h7 : zpr M t) (hx : inR t x) (hv : inR 0 v) (hc : zcl t = 100) (h0 : 0 ≤ i) (hi : i < zln t) (hd : decode (zcc M) pc = .ok (.iastore, 1)) (kn : zRn M (pc + 1) Γ e st (zput σ x i v)) : zRn M pc Γ e ((0, v) :: (0, i) :: (t, x) :: st) σ := by
  obtain ⟨o, h1, rfl, h3, h4⟩ := zcl_ok ht (zp_7 h7) hx
  obtain ⟨j, rfl⟩ : ∃ j : Nat, i = j := ⟨i.toNat, by omega⟩
  have hst : zst o j = 0 := by simp [zst, h3, hc]
  refine zr_w (fun ho => zOk_put ho (by rw [hst]; exact hv)) zct_put kn (fun p l en R s m args below meth c cells slots Q D cs ad A b H locs ls K hcc ho hP hD hS hl kk => ?_)
  have hst2 : zsv ad b ((0, v) :: (0, (j : Int)) :: (t, (o : Int)) :: st) = Value.int (Int32.ofInt v) :: Value.int (Int32.ofInt j) :: Value.ref (ad o) :: zsv ad b st := by (simp only [zsv, List.map_cons, zV_ref ht, Int.toNat_natCast]; rfl)
  rw [hst2]
  obtain ⟨g1, g2⟩ := z32_in (n := zon o) h0 (by omega) (zon_lt o)
  have hin := zp_in h7 ht hx K.2.2.2.2.2.2.2.2.2.2.2.2.1
  have hg := zW_get cs ad σ (ns := zns M) hin
  rw [zcell_i (h3.trans hc)] at hg
  refine va_iast (D := D) K.1 K.2.1 K.2.2.2.2.2.1 hP hD hS _ 0 (f := (fun j : Nat => Int32.ofInt (σ o j))) hg rfl g1 hd (fun H1 locs1 hP1 hD1 hS1 => ?_)
  rw [g2, Int.toNat_natCast, zW_set (τ := zput σ o j v) (K.2.2.2.2.2.2.2.2.2.2.2.2.1).1 hin (zcell_iput (h3.trans hc) j v) zput_on] at hP1
  exact kk H1 locs1 hP1 hS1
theorem zr_last {t : Nat} {x i v : Int} (ht : 5 ≤ t) (h7 : zpr M t) (hx : inR t x) (hv : inR 1 v) (hc : zcl t = 101) (h0 : 0 ≤ i) (hi : i < zln t) (hd : decode (zcc M) pc = .ok (.lastore, 1)) (kn : zRn M (pc + 1) Γ e st (zput σ x i v)) : zRn M pc Γ e ((1, v) :: (0, i) :: (t, x) :: st) σ := by
  obtain ⟨o, h1, rfl, h3, h4⟩ := zcl_ok ht (zp_7 h7) hx
  obtain ⟨j, rfl⟩ : ∃ j : Nat, i = j := ⟨i.toNat, by omega⟩
  have hst : zst o j = 1 := by simp [zst, h3, hc]
  refine zr_w (fun ho => zOk_put ho (by rw [hst]; exact hv)) zct_put kn (fun p l en R s m args below meth c cells slots Q D cs ad A b H locs ls K hcc ho hP hD hS hl kk => ?_)
  have hst2 : zsv ad b ((1, v) :: (0, (j : Int)) :: (t, (o : Int)) :: st) = Value.long (Int64.ofInt v) :: Value.int (Int32.ofInt j) :: Value.ref (ad o) :: zsv ad b st := by (simp only [zsv, List.map_cons, zV_ref ht, Int.toNat_natCast]; rfl)
  rw [hst2]
  obtain ⟨g1, g2⟩ := z32_in (n := zon o) h0 (by omega) (zon_lt o)
  have hin := zp_in h7 ht hx K.2.2.2.2.2.2.2.2.2.2.2.2.1
  have hg := zW_get cs ad σ (ns := zns M) hin
  rw [zcell_l (h3.trans hc)] at hg
  refine va_last (D := D) K.1 K.2.1 K.2.2.2.2.2.1 hP hD hS _ 1 (f := (fun j : Nat => Int64.ofInt (σ o j))) hg rfl g1 hd (fun H1 locs1 hP1 hD1 hS1 => ?_)
  rw [g2, Int.toNat_natCast, zW_set (τ := zput σ o j v) (K.2.2.2.2.2.2.2.2.2.2.2.2.1).1 hin (zcell_lput (h3.trans hc) j v) zput_on] at hP1
  exact kk H1 locs1 hP1 hS1
theorem zr_aald {i : Int} (h0 : 0 ≤ i) (hi : i < 4) (hd : decode (zcc M) pc = .ok (.aaload, 1)) (kn : zRn M (pc + 1) Γ e ((5, 29 + 2 * i) :: st) σ) : zRn M pc Γ e ((0, i) :: (38, 28) :: st) σ := by
  refine zr_a kn (fun p l en R s m args below meth c cells slots Q D cs ad A b H locs ls K hcc ho hP hS hl kk => ?_)
  have hst2 : zsv ad b ((0, i) :: (38, (28 : Int)) :: st) = Value.int (Int32.ofInt i) :: Value.ref (ad 28) :: zsv ad b st := rfl
  rw [hst2]
  obtain ⟨g1, g2⟩ := z32_in (n := zon 28) h0 (by show i < 4; exact hi) (zon_lt 28)
  have hg := zW_get cs ad σ (ns := zns M) ((K.2.2.2.2.2.2.2.2.2.2.2.2.1).2 28 (by decide))
  rw [zcell_q rfl] at hg
  refine va_aldq (D := D) K.1 K.2.1 K.2.2.2.2.2.1 hP _ 2 (f := fun j : Nat => some (ad (zsh 28 j))) hg rfl g1 hd ?_
  rw [g2]
  rw [zsv_ref (by decide)] at kk
  have e1 : zsh 28 i.toNat = (29 + 2 * i).toNat := by
    rcases (show i = 0 ∨ i = 1 ∨ i = 2 ∨ i = 3 by omega) with rfl | rfl | rfl | rfl <;> rfl
  show W p l en R s m args below meth c H locs cells slots Q (F0 m (pc + 1) ls (Value.ref (ad (zsh 28 i.toNat)) :: zsv ad b st))
  rw [e1]
  exact kk
theorem zr_alen {t : Nat} {x : Int} (ht : 5 ≤ t) (h7 : zpr M t) (hx : inR t x) (hc : zcl t = 100) (hd : decode (zcc M) pc = .ok (.arraylength, 1)) (kn : zRn M (pc + 1) Γ e ((0, (zln t : Nat)) :: st) σ) : zRn M pc Γ e ((t, x) :: st) σ := by
  obtain ⟨o, h1, rfl, h3, h4⟩ := zcl_ok ht (zp_7 h7) hx
  refine zr_a kn (fun p l en R s m args below meth c cells slots Q D cs ad A b H locs ls K hcc ho hP hS hl kk => ?_)
  rw [zsv_ref ht]
  have hin := zp_in h7 ht hx K.2.2.2.2.2.2.2.2.2.2.2.2.1
  have hg := zW_get cs ad σ (ns := zns M) hin
  rw [zcell_i (h3.trans hc)] at hg
  exact va_alen (D := D) K.1 K.2.1 K.2.2.2.2.2.1 hP _ 0 hg rfl (v := Int32.ofInt (zln t : Nat)) (by rw [Int32.ofInt_eq_ofNat, ← h4]) hd kk
theorem zr_sld {L : Nat} {xs : Nat → Int32} {i y : Int} (hs : zsc M = some (L, xs)) (h0 : 0 ≤ i) (hi : i < L) (hy : y = (xs i.toNat).toInt) (hd : decode (zcc M) pc = .ok (.iaload, 1)) (kn : zRn M (pc + 1) Γ e ((0, y) :: st) σ) : zRn M pc Γ e ((0, i) :: (3, 0) :: st) σ := by
  refine zr_a kn (fun p l en R s m args below meth c cells slots Q D cs ad A b H locs ls K hcc ho hP hS hl kk => ?_)
  obtain ⟨hL, hX, hbl, hbA⟩ := K.2.2.2.2.2.2.2.2.2.2.2.1 L xs hs
  obtain ⟨g1, g2⟩ := z32_in (n := L) h0 hi hL
  refine va_sld K.1 K.2.1 hX hbl hbA hS g1 hd ?_
  rw [g2, show xs i.toNat = Int32.ofInt y by rw [hy, Int32.ofInt_toInt]]
  exact kk
theorem zr_slen {L : Nat} {xs : Nat → Int32} (hs : zsc M = some (L, xs)) (hd : decode (zcc M) pc = .ok (.arraylength, 1)) (kn : zRn M (pc + 1) Γ e ((0, (L : Nat)) :: st) σ) : zRn M pc Γ e ((3, 0) :: st) σ := by
  refine zr_a kn (fun p l en R s m args below meth c cells slots Q D cs ad A b H locs ls K hcc ho hP hS hl kk => ?_)
  obtain ⟨hL, hX, hbl, hbA⟩ := K.2.2.2.2.2.2.2.2.2.2.2.1 L xs hs
  refine va_slen K.1 K.2.1 hX hbl hbA hS hd ?_
  rw [show Int32.ofNat L = Int32.ofInt (L : Nat) from Int32.ofInt_eq_ofNat.symm]
  exact kk
theorem zr_mmax {x y : Int} {index : Nat} (hx : r32 x) (hy : r32 y) (hw1 : Cond.methodLink (zown M) index Lib.Math.max.name ∈ zTs M) (hw2 : Cond.static Lib.Math.max.name ∈ zTs M) (hw3 : Cond.initialized "java/lang/Math" ∈ zTs M) (hw4 : Cond.code Lib.Math.max.name Lib.Math.max.code 2 (some .int) ∈ zTs M)
    (hfr : 1 ≤ zfr M) (hlo : zwt st + 13 ≤ zlo M) (hd : decode (zcc M) pc = .ok (.invokestatic index, 3)) (k : zRn M (pc + 3) Γ e ((0, if x < y then y else x) :: st) σ) : zRn M pc Γ e ((0, y) :: (0, x) :: st) σ := by
  refine zr_a k (fun p l en R s m args below meth c cells slots Q D cs ad A b H locs ls K hcc ho hP hS hl kk => ?_)
  have h : (if Int32.ofInt x < Int32.ofInt y then Int32.ofInt y else Int32.ofInt x) = Int32.ofInt (if x < y then y else x) := by
    by_cases q : x < y
    · rw [if_pos q, if_pos ((z32_lt hx hy).mpr q)]
    · rw [if_neg q, if_neg (fun z => q ((z32_lt hx hy).mp z))]
  show W p l en R s m args below meth c H locs cells slots Q (F0 m pc ls (Value.int (Int32.ofInt y) :: Value.int (Int32.ofInt x) :: zsv ad b st))
  refine va_mmax K.1 K.2.1 (K.2.2.1.trans hl.1.symm) K.2.2.2.1 (K.2.2.2.2.1 _ hw1) (K.2.2.2.2.1 _ hw2) (K.2.2.2.2.1 _ hw3) (K.2.2.2.2.1 _ hw4) (Nat.le_trans hfr K.2.2.2.2.2.2.2.2.2.1) (by rw [zsv_cat]; exact Nat.le_trans hlo K.2.2.2.2.2.2.2.2.2.2.1) hcc.1 hcc.2 hd ?_
  rw [h]
  exact kk
theorem zr_mmin {x y : Int} {index : Nat} (hx : r32 x) (hy : r32 y) (hw1 : Cond.methodLink (zown M) index Lib.Math.min.name ∈ zTs M) (hw2 : Cond.static Lib.Math.min.name ∈ zTs M) (hw3 : Cond.initialized "java/lang/Math" ∈ zTs M) (hw4 : Cond.code Lib.Math.min.name Lib.Math.min.code 2 (some .int) ∈ zTs M)
    (hfr : 1 ≤ zfr M) (hlo : zwt st + 13 ≤ zlo M) (hd : decode (zcc M) pc = .ok (.invokestatic index, 3)) (k : zRn M (pc + 3) Γ e ((0, if y < x then y else x) :: st) σ) : zRn M pc Γ e ((0, y) :: (0, x) :: st) σ := by
  refine zr_a k (fun p l en R s m args below meth c cells slots Q D cs ad A b H locs ls K hcc ho hP hS hl kk => ?_)
  have h : (if Int32.ofInt y < Int32.ofInt x then Int32.ofInt y else Int32.ofInt x) = Int32.ofInt (if y < x then y else x) := by
    by_cases q : y < x
    · rw [if_pos q, if_pos ((z32_lt hy hx).mpr q)]
    · rw [if_neg q, if_neg (fun z => q ((z32_lt hy hx).mp z))]
  show W p l en R s m args below meth c H locs cells slots Q (F0 m pc ls (Value.int (Int32.ofInt y) :: Value.int (Int32.ofInt x) :: zsv ad b st))
  refine va_mmin K.1 K.2.1 (K.2.2.1.trans hl.1.symm) K.2.2.2.1 (K.2.2.2.2.1 _ hw1) (K.2.2.2.2.1 _ hw2) (K.2.2.2.2.1 _ hw3) (K.2.2.2.2.1 _ hw4) (Nat.le_trans hfr K.2.2.2.2.2.2.2.2.2.1) (by rw [zsv_cat]; exact Nat.le_trans hlo K.2.2.2.2.2.2.2.2.2.2.1) hcc.1 hcc.2 hd ?_
  rw [h]
  exact kk
theorem zr_mabs {x : Int} {index : Nat} (hx : r32 x) (hw1 : Cond.methodLink (zown M) index Lib.Math.abs.name ∈ zTs M) (hw2 : Cond.static Lib.Math.abs.name ∈ zTs M) (hw3 : Cond.initialized "java/lang/Math" ∈ zTs M) (hw4 : Cond.code Lib.Math.abs.name Lib.Math.abs.code 1 (some .int) ∈ zTs M)
    (hfr : 1 ≤ zfr M) (hlo : zwt st + 13 ≤ zlo M) (hd : decode (zcc M) pc = .ok (.invokestatic index, 3)) (k : zRn M (pc + 3) Γ e ((0, if 0 ≤ x then x else zneg x) :: st) σ) : zRn M pc Γ e ((0, x) :: st) σ := by
  refine zr_a k (fun p l en R s m args below meth c cells slots Q D cs ad A b H locs ls K hcc ho hP hS hl kk => ?_)
  have h : (if 0 ≤ Int32.ofInt x then Int32.ofInt x else 0 - Int32.ofInt x) = Int32.ofInt (if 0 ≤ x then x else zneg x) := by
    have h00 : (0 : Int32) ≤ Int32.ofInt x ↔ 0 ≤ x := z32_le z32_00 hx
    by_cases q : 0 ≤ x
    · rw [if_pos q, if_pos (h00.mpr q)]
    · rw [if_neg q, if_neg (fun z => q (h00.mp z))]
      unfold zneg
      rw [z32_w, show (-x : Int) = 0 - x by omega, Int32.ofInt_sub]
      rfl
  show W p l en R s m args below meth c H locs cells slots Q (F0 m pc ls (Value.int (Int32.ofInt x) :: zsv ad b st))
  refine va_mabs K.1 K.2.1 (K.2.2.1.trans hl.1.symm) K.2.2.2.1 (K.2.2.2.2.1 _ hw1) (K.2.2.2.2.1 _ hw2) (K.2.2.2.2.1 _ hw3) (K.2.2.2.2.1 _ hw4) (Nat.le_trans hfr K.2.2.2.2.2.2.2.2.2.1) (by rw [zsv_cat]; exact Nat.le_trans hlo K.2.2.2.2.2.2.2.2.2.2.1) hcc.1 hcc.2 hd ?_
  rw [h]
  exact kk
theorem zr_mmaxl {x y : Int} {index : Nat} (hx : r64 x) (hy : r64 y) (hw1 : Cond.methodLink (zown M) index Lib.MathLoose.max_long.x ∈ zTs M) (hw2 : Cond.static Lib.MathLoose.max_long.x ∈ zTs M) (hw3 : Cond.initialized "java/lang/Math" ∈ zTs M) (hw4 : Cond.code Lib.MathLoose.max_long.x Lib.MathLoose.max_long.code 4 (some .long) ∈ zTs M)
    (hfr : 1 ≤ zfr M) (hlo : zwt st + 15 ≤ zlo M) (hd : decode (zcc M) pc = .ok (.invokestatic index, 3)) (k : zRn M (pc + 3) Γ e ((1, if y < x then x else y) :: st) σ) : zRn M pc Γ e ((1, y) :: (1, x) :: st) σ := by
  refine zr_a k (fun p l en R s m args below meth c cells slots Q D cs ad A b H locs ls K hcc ho hP hS hl kk => ?_)
  have h : (if Int64.ofInt y < Int64.ofInt x then Int64.ofInt x else Int64.ofInt y) = Int64.ofInt (if y < x then x else y) := by
    by_cases q : y < x
    · rw [if_pos q, if_pos ((z64_lt hy hx).mpr q)]
    · rw [if_neg q, if_neg (fun z => q ((z64_lt hy hx).mp z))]
  show W p l en R s m args below meth c H locs cells slots Q (F0 m pc ls (Value.long (Int64.ofInt y) :: Value.long (Int64.ofInt x) :: zsv ad b st))
  refine va_mmax_long K.1 K.2.1 (K.2.2.1.trans hl.1.symm) K.2.2.2.1 (K.2.2.2.2.1 _ hw1) (K.2.2.2.2.1 _ hw2) (K.2.2.2.2.1 _ hw3) (K.2.2.2.2.1 _ hw4) (Nat.le_trans hfr K.2.2.2.2.2.2.2.2.2.1) (by rw [zsv_cat]; exact Nat.le_trans hlo K.2.2.2.2.2.2.2.2.2.2.1) hcc.1 hcc.2 hd ?_
  rw [h]
  exact kk
end ZM
