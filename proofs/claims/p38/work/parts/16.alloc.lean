/-! a row made on the way: cell k, of N places; it is in the world until the block's end -/
def zfresh (σ : zHp) (k : Int) : zHp := fun a b => if a = k then 0 else if a = -1 ∧ b = 0 then σ (-1) 0 + 1 else σ a b
def sNw (k slot : Nat) (f : zS) : zS := fun e σ => if zct σ < zcap then f (e.set slot k) (zfresh σ k) else none
theorem zct_fresh (σ : zHp) (k : Nat) : zct (zfresh σ k) = zct σ + 1 := by
  unfold zct zfresh
  rw [if_neg (by omega), if_pos ⟨rfl, rfl⟩]
theorem zfresh_k (σ : zHp) (k b : Int) : zfresh σ k k b = 0 := by
  unfold zfresh
  rw [if_pos rfl]
theorem zfresh_o {σ : zHp} {k a : Int} (h : a ≠ k) (h1 : 0 ≤ a) (b : Int) : zfresh σ k a b = σ a b := by
  unfold zfresh
  rw [if_neg h, if_neg (by omega)]
theorem zOk_fresh {σ : zHp} {k : Nat} (hk : zoc k = 100 ∨ zoc k = 101) (h : zOk σ) (hc : zct σ < zcap) : zOk (zfresh σ k) := by
  refine ⟨fun a b => ?_, by rw [zct_fresh]; have := h.2.1; omega, by rw [zct_fresh]; omega⟩
  by_cases q : (a : Int) = k
  · have e : a = k := by omega
    subst e
    rw [zfresh_k]
    rcases hk with hk | hk
    · have : zst a b = 0 := by unfold zst; rw [if_pos hk]
      rw [this]; exact ⟨by decide, by decide⟩
    · have : zst a b = 1 := by unfold zst; rw [if_neg (by omega), if_pos hk]
      rw [this]; exact ⟨by decide, by decide⟩
  · rw [zfresh_o q (by omega)]
    exact h.1 a b
abbrev zMn (M : zM) (k : Nat) : zM := (M.1, M.2.1, M.2.2.1, M.2.2.2.1, M.2.2.2.2.1, M.2.2.2.2.2.1, M.2.2.2.2.2.2.1, M.2.2.2.2.2.2.2.1, zn0 M, k :: zns M, zcp M, zpo M)
def zup (ad : Nat → Nat) (k q : Nat) : Nat → Nat := fun i => if i = k then q else ad i
theorem zup_k (ad : Nat → Nat) (k q : Nat) : zup ad k q k = q := by unfold zup; rw [if_pos rfl]
theorem zup_o {ad : Nat → Nat} {k q i : Nat} (h : i ≠ k) : zup ad k q i = ad i := by unfold zup; rw [if_neg h]
theorem zfv_kind (ci k : Nat) : zft ci k = 0 ∨ zft ci k = 1 ∨ zft ci k = 2 ∨ zft ci k = 4 := by
  have hall : ∀ l ∈ zFT, ∀ z ∈ l, z = 0 ∨ z = 1 ∨ z = 2 ∨ z = 4 := by decide +kernel
  unfold zft
  rw [List.getD_eq_getElem?_getD, List.getD_eq_getElem?_getD]
  cases q1 : zFT[ci]? with
  | none => left; simp
  | some l =>
    simp only [Option.getD_some]
    cases q2 : l[k]? with
    | none => left; simp
    | some z => simpa using hall l (List.mem_of_getElem? q1) z (List.mem_of_getElem? q2)
/-- a cell stays what it is where another is put beside it -/
theorem zcell_up {cs : zCs} {ad : Nat → Nat} {σ : zHp} {k q o : Nat} (hk : 37 ≤ k) : zcell cs (zup ad k q) σ o = zcell cs ad σ o := by
  have hs : ∀ j, zup ad k q (zsh o j) = ad (zsh o j) := fun j => zup_o (by have := zsh_lt o j; omega)
  have hv : ∀ j, zfv (zup ad k q) σ o j = zfv ad σ o j := fun j => by
    unfold zfv
    rw [hs]
    rcases zfv_kind (zoc o) j with h | h | h | h <;> rw [h] <;> rfl
  unfold zcell
  have hf : zfv (zup ad k q) σ o = zfv ad σ o := funext hv
  rw [hf]
  simp only [hs]
theorem zW_up {cs : zCs} {ad : Nat → Nat} {σ τ : zHp} {k q : Nat} {ns : List Nat} (hk : 37 ≤ k) (hn : k ∉ ns) (h : ∀ o : Nat, o ≠ k → ∀ j : Int, τ o j = σ o j) : zW cs (zup ad k q) τ ns = zW cs ad σ ns := by
  unfold zW
  refine List.map_congr_left (fun o ho => ?_)
  have hne : o ≠ k := fun e => hn (e ▸ ho)
  rw [zup_o hne, zcell_up hk, zcell_eq (h o hne)]
theorem zV_up {ad : Nat → Nat} {b t k q : Nat} {x : Int} (hk : 37 ≤ k) (ht : t ≠ k + 10 ∧ t ≠ 2) (hx : inR t x) : zV (zup ad k q) b t x = zV ad b t x := by
  by_cases h5 : 5 ≤ t
  · rw [zV_ref h5, zV_ref h5, zup_o]
    intro e
    by_cases h10 : 10 ≤ t
    · obtain ⟨n, rfl⟩ : ∃ n, t = n + 10 := ⟨t - 10, by omega⟩
      obtain ⟨h1, h2, h3⟩ := inR_o hx
      omega
    · rcases (show t = 5 ∨ t = 6 ∨ t = 7 ∨ t = 8 ∨ t = 9 by omega) with rfl | rfl | rfl | rfl | rfl
      · have : x = 29 ∨ x = 31 ∨ x = 33 ∨ x = 35 := hx
        omega
      · have : x = 30 ∨ x = 32 ∨ x = 34 ∨ x = 36 := hx
        omega
      · have : x = 9 ∨ x = 26 := hx
        omega
      · have : x = ((8 : Nat) : Int) - 10 ∧ 0 ≤ x ∧ x < 43 := hx
        omega
      · have : x = ((9 : Nat) : Int) - 10 ∧ 0 ≤ x ∧ x < 43 := hx
        omega
  · rcases (show t = 0 ∨ t = 1 ∨ t = 3 ∨ t = 4 by omega) with rfl | rfl | rfl | rfl <;> rfl
theorem zLs_up {ad : Nat → Nat} {b k q : Nat} {M : zM} {Γ : List (Nat × Nat)} {e : List Int} (hk : 37 ≤ k) (hE : zE M Γ e) (hΓ : ∀ z ∈ Γ, z.2 ≠ k + 10 ∧ z.2 ≠ 2) : zLs (zup ad k q) b Γ e = zLs ad b Γ e := by
  unfold zLs
  refine List.map_congr_left (fun z hz => ?_)
  rw [zV_up hk (hΓ z hz) (hE.2 z hz)]
/-- what the row is at first -/
def zrow0 (cA : ClassId) (k : Nat) : va_E := if zoc k = 100 then .inl (cA, zon k, .inl (fun _ => (0 : Int32))) else .inl (cA, zon k, .inr (.inl (fun _ => (0 : Int64))))
theorem zrow_i {cs : zCs} {ad : Nat → Nat} {σ : zHp} {k : Nat} (h : zoc k = 100) : zcell cs ad (zfresh σ k) k = .inl (cs.1, zon k, .inl (fun _ => (0 : Int32))) := by
  rw [zcell_i h]
  congr 4
  funext j
  rw [zfresh_k]
  rfl
theorem zrow_l {cs : zCs} {ad : Nat → Nat} {σ : zHp} {k : Nat} (h : zoc k = 101) : zcell cs ad (zfresh σ k) k = .inl (cs.2.1, zon k, .inr (.inl (fun _ => (0 : Int64)))) := by
  rw [zcell_l h]
  congr 5
  funext j
  rw [zfresh_k]
  rfl
section ZNEW
variable {M : zM} {Γ Γ1 Γ2 Γ3 : List (Nat × Nat)} {a b a1 a3 k N slot : Nat} {X : Nat → Nat × List (Nat × Nat)} {f : zS}
/-- from behind 'newarray' with the row on the stack, back to ahead of it -/
theorem zr_new {e : List Int} {σ : zHp} {pc : Nat} {at0 : ArrayType} (hk : 37 ≤ k) (hN : zon k = N) (hN16 : N ≤ 16) (hm : k ∉ zns M) (hm0 : k ∉ zn0 M) (hE : zE M Γ e) (hΓ : ∀ z ∈ Γ, z.2 ≠ k + 10 ∧ z.2 ≠ 2) (ho : zOk σ) (hc : zct σ < zcap)
    (hty : at0 = .int ∧ zoc k = 100 ∨ at0 = .long ∧ zoc k = 101) (harr : Cond.arrayClass (newarray.typeOf at0) ∈ zTs M) (hd : decode (zcc M) pc = .ok (.newarray at0, 2))
    (kn : zRn (zMn M k) (pc + 2) Γ e [(k + 10, (k : Int))] (zfresh σ k)) : zRn M pc Γ e [(0, (N : Int))] σ := by
  have hct := zct_fresh σ k
  refine ⟨by have := kn.1; show zct σ ≤ zcp M; have h2 : zct (zfresh σ k) ≤ zcp M := this; omega, ?_⟩
  intro p l en R s m args below meth c cells slots Q D cs ad A b H locs ls K hcc hr hok hP hS hl
  have hle : zct (zfresh σ k) ≤ zcp M := kn.1
  unfold zRom at hcc
  have hokf : zOk (zfresh σ k) := zOk_fresh (hty.elim (fun q => Or.inl q.2) (fun q => Or.inr q.2)) ho hc
  have nK : zNs (zns M) := K.2.2.2.2.2.2.2.2.2.2.2.2.1
  have hn0 : ¬ Int32.ofInt (N : Int) < 0 := fun q => by
    have := (z32_lt (x := (N : Int)) (y := 0) ⟨by omega, by omega⟩ z32_00).mp q
    omega
  have hcl : (Int32.ofInt (N : Int)).toNatClampNeg = N := by
    rw [Int32.toNatClampNeg_ofInt_of_le (by omega) (by omega)]
    omega
  have go : ∀ (q : Nat) (H1 : Heap) (x0 : va_E), zcell cs (zup ad k q) (zfresh σ k) k = x0 → va_P D vwCl (zW cs ad σ (zns M) ++ [(q, x0)]) H1 → va_D A (zW cs ad σ (zns M) ++ [(q, x0)]) → va_S A s.heap H1 locs →
      W p l en R s m args below meth c H1 locs (cells + 1) (slots + N) Q (F0 m (pc + 2) ls (Value.ref q :: [])) := by
    intro q H1 x0 hx0 hP1 hD1 hS1
    have hw : zW cs (zup ad k q) (zfresh σ k) (zns M) = zW cs ad σ (zns M) := zW_up hk hm (fun o h j => zfresh_o (by omega) (by omega) j)
    have hlen : (zW cs ad σ (zns M)).length = (zns M).length := by unfold zW; rw [List.length_map]
    have hlast : (zW cs ad σ (zns M) ++ [(q, x0)])[(zns M).length]? = some (q, x0) := by
      rw [← hlen, List.getElem?_append_right (Nat.le_refl _), Nat.sub_self]; rfl
    have hat : ∀ i ∈ zns M, (zW cs ad σ (zns M) ++ [(q, x0)])[(zns M).idxOf i]? = some (ad i, zcell cs ad σ i) := fun i hi => by
      rw [List.getElem?_append_left (by rw [hlen]; exact List.idxOf_lt_length_of_mem hi)]
      exact zW_get cs ad σ hi
    have hq : ∀ i ∈ zns M, ad i ≠ q := fun i hi e => by
      have h1 := hD1.1 _ _ _ _ (hat i hi) hlast e
      have h2 := List.idxOf_lt_length_of_mem hi
      omega
    have hP2 : va_P D vwCl (zW cs (zup ad k q) (zfresh σ k) (k :: zns M)) H1 := by
      intro i z hz
      obtain ⟨o, h1, h2, rfl⟩ := zW_of hz
      rcases List.mem_cons.mp h2 with rfl | h2
      · rw [zup_k, hx0]
        exact hP1 _ _ hlast
      · have h3 := zW_get cs (zup ad k q) (zfresh σ k) h2
        rw [hw] at h3
        refine hP1 ((zns M).idxOf o) _ ?_
        rw [List.getElem?_append_left (by rw [hlen]; exact List.idxOf_lt_length_of_mem h2)]
        exact h3
    have hne : ∀ i ∈ zns M, i ≠ k := fun i hi e => hm (e ▸ hi)
    have e2 : zsv (zup ad k q) b [(k + 10, (k : Int))] = [Value.ref q] := by
      rw [zsv_ref (by omega), Int.toNat_natCast, zup_k]
      rfl
    show W p l en R s m args below meth c H1 locs (cells + 1) (slots + N) Q (F0 m (pc + 2) ls [Value.ref q])
    rw [← e2]
    refine kn.2 p l en R s m args below meth c (cells + 1) (slots + N) Q D cs (zup ad k q) A b H1 locs ls ⟨K.1, K.2.1, K.2.2.1, K.2.2.2.1, K.2.2.2.2.1, K.2.2.2.2.2.1, ?_, ?_, K.2.2.2.2.2.2.2.2.1, K.2.2.2.2.2.2.2.2.2.1, K.2.2.2.2.2.2.2.2.2.2.1, K.2.2.2.2.2.2.2.2.2.2.2.1, ⟨List.nodup_cons.mpr ⟨hm, nK.1⟩, fun o h => List.mem_cons_of_mem _ (nK.2 o h)⟩, fun o h => List.mem_cons_of_mem _ (K.2.2.2.2.2.2.2.2.2.2.2.2.2 o h)⟩ ?_ ?_ hokf hP2 hS1 ?_
    · intro i j hi hj hij
      rcases List.mem_cons.mp hi with e1 | i2
      · rcases List.mem_cons.mp hj with e2 | j2
        · exact e1.trans e2.symm
        · rw [e1, zup_k, zup_o (hne j j2)] at hij
          exact absurd hij.symm (hq j j2)
      · rcases List.mem_cons.mp hj with e2 | j2
        · rw [e2, zup_k, zup_o (hne i i2)] at hij
          exact absurd hij (hq i i2)
        · rw [zup_o (hne i i2), zup_o (hne j j2)] at hij
          exact K.2.2.2.2.2.2.1 i j i2 j2 hij
    · intro i hi
      rcases List.mem_cons.mp hi with rfl | hi
      · rw [zup_k]
        exact hD1.2 _ _ hlast
      · rw [zup_o (hne i hi)]
        exact K.2.2.2.2.2.2.2.1 i hi
    · show ((cells + 1 : Nat) : Int) + (zcp M - zct (zfresh σ k)) ≤ R.cells ∧ ((slots + N : Nat) : Int) + 16 * (zcp M - zct (zfresh σ k)) ≤ R.slots
      omega
    · intro v τ H2 locs2 ls2 pc2 cells2 slots2 h1 h2 h3 h4 h5 h6
      refine hr v τ H2 locs2 ls2 pc2 cells2 slots2 h1 h2 h3 h4 h5 ?_
      have e0 : zW cs (zup ad k q) τ (zn0 M) = zW cs ad τ (zn0 M) := zW_up hk hm0 (fun o h j => rfl)
      rw [← e0]
      exact h6
    · have e1 : zLs (zup ad k q) b Γ e = zLs ad b Γ e := zLs_up hk hE hΓ
      show lv_has ls (znl M) (zLs (zup ad k q) b Γ e)
      rw [e1]
      exact hl
  have hK := K.2.2.2.2.2.1
  rcases hty with ⟨rfl, hz⟩ | ⟨rfl, hz⟩
  · refine va_newa (atype := .int) (ty := .int) (a0 := (N, .inl (fun _ => (0 : Int32)))) K.1 K.2.1 (K.2.2.2.2.1 _ harr) rfl hK hP (zD σ nK.1 K.2.2.2.2.2.2.1 K.2.2.2.2.2.2.2.1) hS K.2.2.2.2.2.2.2.2.1 (fun _ => rfl) hn0 hcl (Nat.le_trans (Nat.mul_le_mul_right _ hN16) (by decide)) (by omega) (by omega) hd (fun q cA H1 hK1 hP1 hD1 hS1 => ?_)
    have e1 : cA = cs.1 := by
      have h1 : s.vm.findClass ("[" ++ (.int : FieldType).toString) = some cA := (hK1.2 3 (cA, .int) rfl).2
      have h2 : s.vm.findClass ("[" ++ (.int : FieldType).toString) = some cs.1 := (hK.2 0 (cs.1, .int) rfl).2
      exact Option.some.inj (h1.symm.trans h2)
    subst e1
    exact go q H1 _ (by rw [zrow_i hz, hN]) hP1 hD1 hS1
  · refine va_newa (atype := .long) (ty := .long) (a0 := (N, .inr (.inl (fun _ => (0 : Int64))))) K.1 K.2.1 (K.2.2.2.2.1 _ harr) rfl hK hP (zD σ nK.1 K.2.2.2.2.2.2.1 K.2.2.2.2.2.2.2.1) hS K.2.2.2.2.2.2.2.2.1 (fun _ => rfl) hn0 hcl (Nat.le_trans (Nat.mul_le_mul_right _ hN16) (by decide)) (by omega) (by omega) hd (fun q cA H1 hK1 hP1 hD1 hS1 => ?_)
    have e1 : cA = cs.2.1 := by
      have h1 : s.vm.findClass ("[" ++ (.long : FieldType).toString) = some cA := (hK1.2 3 (cA, .long) rfl).2
      have h2 : s.vm.findClass ("[" ++ (.long : FieldType).toString) = some cs.2.1 := (hK.2 1 (cs.2.1, .long) rfl).2
      exact Option.some.inj (h1.symm.trans h2)
    subst e1
    exact go q H1 _ (by rw [zrow_l hz, hN]) hP1 hD1 hS1
/-- the row is forgotten -/
theorem zr_drop {e : List Int} {st : List (Nat × Int)} {σ : zHp} {pc : Nat} (hk : 37 ≤ k) (hm0 : k ∉ zn0 M) (kn : zRn M pc Γ e st σ) : zRn (zMn M k) pc Γ e st σ := by
  refine ⟨kn.1, ?_⟩
  intro p l en R s m args below meth c cells slots Q D cs ad A b H locs ls K hcc hr hok hP hS hl
  have nK : zNs (k :: zns M) := K.2.2.2.2.2.2.2.2.2.2.2.2.1
  have nn := List.nodup_cons.mp nK.1
  have h0 : ∀ o ∈ zn0 M, o ∈ zns M := fun o h => by
    rcases List.mem_cons.mp (K.2.2.2.2.2.2.2.2.2.2.2.2.2 o h) with e | h2
    · exact absurd h (e ▸ hm0)
    · exact h2
  exact kn.2 p l en R s m args below meth c cells slots Q D cs ad A b H locs ls ⟨K.1, K.2.1, K.2.2.1, K.2.2.2.1, K.2.2.2.2.1, K.2.2.2.2.2.1, fun i j hi hj h => K.2.2.2.2.2.2.1 i j (List.mem_cons_of_mem _ hi) (List.mem_cons_of_mem _ hj) h, fun i hi => K.2.2.2.2.2.2.2.1 i (List.mem_cons_of_mem _ hi), K.2.2.2.2.2.2.2.2.1, K.2.2.2.2.2.2.2.2.2.1, K.2.2.2.2.2.2.2.2.2.2.1, K.2.2.2.2.2.2.2.2.2.2.2.1, ⟨nn.2, fun o h => (List.mem_cons.mp (nK.2 o h)).resolve_left (by omega)⟩, h0⟩ hcc hr hok (zW_sub (fun o h => List.mem_cons_of_mem _ h) hP) hS hl
theorem zE_Mn {e : List Int} (h : zE (zMn M k) Γ e) : zE M Γ e := h
theorem zr_st {e : List Int} {σ : zHp} {t : Nat} {v : Int} (h5 : 5 ≤ t) (hn : slot < znl M) (he : e.length = znl M)
    (hst : (∃ j : Fin 4, decode (zcc M) a = .ok (.astore_n j, 1) ∧ (j : Nat) = slot ∧ b = a + 1) ∨ decode (zcc M) a = .ok (.astore slot, 2) ∧ b = a + 2) (kn : zRn M b (zset1 slot t Γ) (e.set slot v) [] σ) : zRn M a Γ e [(t, v)] σ := by
  rcases hst with ⟨j, h1, h2, rfl⟩ | ⟨h1, rfl⟩
  · exact zr_astore_n h1 h2 h5 hn he kn
  · exact zr_astore h1 h5 hn he kn
/-- a block that begins with a row of its own -/
theorem zs_new {at0 : ArrayType} {c0 : Int} (hx : zEx M Γ 0 0 a a1 (xC c0)) (hc0 : c0 = (N : Int)) (hk : 37 ≤ k) (hk2 : k < 43) (hN : zon k = N) (hN16 : N ≤ 16) (hty : at0 = .int ∧ zoc k = 100 ∨ at0 = .long ∧ zoc k = 101) (harr : Cond.arrayClass (newarray.typeOf at0) ∈ zTs M)
    (hm : k ∉ zns M) (hm0 : k ∉ zn0 M) (hΓ : ∀ z ∈ Γ, z.2 ≠ k + 10 ∧ z.2 ≠ 2) (hd1 : decode (zcc M) a1 = .ok (.newarray at0, 2)) (hn : slot < znl M)
    (hst : (∃ j : Fin 4, decode (zcc M) (a1 + 2) = .ok (.astore_n j, 1) ∧ (j : Nat) = slot ∧ a3 = a1 + 2 + 1) ∨ decode (zcc M) (a1 + 2) = .ok (.astore slot, 2) ∧ a3 = a1 + 2 + 2)
    (h1 : ∀ q ∈ Γ1, q ∈ zset1 slot (k + 10) Γ) (hf : zSt (zMn M k) Γ1 a3 b Γ3 X f) (h2 : ∀ q ∈ Γ2, q ∈ Γ3) : zSt M Γ a b Γ2 X (sNw k slot f) := by
  subst hc0
  intro e σ t0 u τ ho hE h
  unfold sNw at h
  by_cases hc : zct σ < zcap
  case neg => rw [if_neg hc] at h; cases h
  rw [if_pos hc] at h
  have hkr : zoc k = 100 ∨ zoc k = 101 := hty.elim (fun q => Or.inl q.2) (fun q => Or.inr q.2)
  have hE1 : zE (zMn M k) Γ1 (e.set slot (k : Int)) := zE_sub (M := zMn M k) h1 (zE_set1 (M := zMn M k) (Γ := Γ) hE hn (inR_of hk2))
  have go : zRn (zMn M k) a3 Γ1 (e.set slot (k : Int)) [] (zfresh σ k) → zRn M a Γ e [] σ := fun kn => by
    refine (hx e σ (N : Int) σ [] ho hE rfl (Nat.le_refl 0)).2 ?_
    refine zr_new hk hN hN16 hm hm0 hE hΓ ho hc hty harr hd1 ?_
    exact zr_st (M := zMn M k) (by omega) hn hE.1 hst (zRn_sub h1 kn)
  obtain ⟨q1, q2, q3, q4⟩ := hf _ _ _ _ _ (zOk_fresh hkr ho hc) hE1 h
  refine ⟨q1, fun z => ⟨zE_sub h2 (q2 z).1, fun kn => go ((q2 z).2 (zRn_sub (M := zMn M k) h2 (zr_drop hk hm0 kn)))⟩, fun z => ⟨(q3 z).1, fun kn => go ((q3 z).2 kn)⟩, fun z => ⟨(q4 z).1, fun kn => go ((q4 z).2 (zr_drop hk hm0 kn))⟩⟩
end ZNEW
