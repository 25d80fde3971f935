/-! numbers: an int, a long is told by the whole number that it stands for -/
abbrev zHp : Type := Int → Int → Int
def w32 (x : Int) : Int := (x + 2147483648) % 4294967296 - 2147483648
def w64 (x : Int) : Int := (x + 9223372036854775808) % 18446744073709551616 - 9223372036854775808
def r32 (x : Int) : Prop := -2147483648 ≤ x ∧ x < 2147483648
def r64 (x : Int) : Prop := -9223372036854775808 ≤ x ∧ x < 9223372036854775808
theorem w32_r (x : Int) : r32 (w32 x) := by unfold r32 w32; omega
theorem w64_r (x : Int) : r64 (w64 x) := by unfold r64 w64; omega
theorem w32_id {x : Int} (h : r32 x) : w32 x = x := by unfold r32 at h; unfold w32; omega
theorem w64_id {x : Int} (h : r64 x) : w64 x = x := by unfold r64 at h; unfold w64; omega
theorem z32_ti {x : Int} (h : r32 x) : (Int32.ofInt x).toInt = x := Int32.toInt_ofInt_of_le h.1 h.2
theorem z64_ti {x : Int} (h : r64 x) : (Int64.ofInt x).toInt = x := Int64.toInt_ofInt_of_le h.1 h.2
theorem z32_rt (x : Int32) : r32 x.toInt := ⟨x.le_toInt, x.toInt_lt⟩
theorem z64_rt (x : Int64) : r64 x.toInt := ⟨x.le_toInt, x.toInt_lt⟩
theorem z32_w (x : Int) : Int32.ofInt (w32 x) = Int32.ofInt x := by
  apply Int32.toInt_inj.mp
  rw [Int32.toInt_ofInt, Int32.toInt_ofInt]
  show Int.bmod _ 4294967296 = Int.bmod _ 4294967296
  unfold w32
  simp only [Int.bmod_def]
  omega
theorem z64_w (x : Int) : Int64.ofInt (w64 x) = Int64.ofInt x := by
  apply Int64.toInt_inj.mp
  rw [Int64.toInt_ofInt, Int64.toInt_ofInt]
  show Int.bmod _ 18446744073709551616 = Int.bmod _ 18446744073709551616
  unfold w64
  simp only [Int.bmod_def]
  omega
theorem z32_lt {x y : Int} (hx : r32 x) (hy : r32 y) : Int32.ofInt x < Int32.ofInt y ↔ x < y := by
  rw [Int32.lt_iff_toInt_lt, z32_ti hx, z32_ti hy]
theorem z32_le {x y : Int} (hx : r32 x) (hy : r32 y) : Int32.ofInt x ≤ Int32.ofInt y ↔ x ≤ y := by
  rw [Int32.le_iff_toInt_le, z32_ti hx, z32_ti hy]
theorem z32_eq {x y : Int} (hx : r32 x) (hy : r32 y) : Int32.ofInt x = Int32.ofInt y ↔ x = y := by
  rw [← Int32.toInt_inj, z32_ti hx, z32_ti hy]
theorem z64_lt {x y : Int} (hx : r64 x) (hy : r64 y) : Int64.ofInt x < Int64.ofInt y ↔ x < y := by
  rw [Int64.lt_iff_toInt_lt, z64_ti hx, z64_ti hy]
theorem z64_eq {x y : Int} (hx : r64 x) (hy : r64 y) : Int64.ofInt x = Int64.ofInt y ↔ x = y := by
  rw [← Int64.toInt_inj, z64_ti hx, z64_ti hy]
theorem z32_in {x : Int} {n : Nat} (h0 : 0 ≤ x) (h1 : x < n) (hn : n < 2147483648) : vp_in (Int32.ofInt x) n ∧ (Int32.ofInt x).toNatClampNeg = x.toNat := by
  have hr : r32 x := ⟨by omega, by omega⟩
  have e : (Int32.ofInt x).toNatClampNeg = x.toNat := Int32.toNatClampNeg_ofInt_of_le hr.1 hr.2
  refine ⟨?_, e⟩
  unfold vp_in
  rw [e]
  rintro (h | h)
  · rw [show (0 : Int32) = Int32.ofInt 0 from rfl, z32_lt hr ⟨by omega, by omega⟩] at h
    omega
  · omega
/-! kinds of values: 0 int, 1 long, 3 the script, 4 true or false, 5 a sheet, 6 a sheet's row, 7 a row of weights, 10 and o: cell o (2: a place that holds a cell) -/
def inR (t : Nat) (x : Int) : Prop := match t with
  | 0 => r32 x
  | 1 => r64 x
  | 2 => 0 ≤ x ∧ x < 43
  | 3 => True
  | 4 => x = 0 ∨ x = 1
  | 5 => x = 29 ∨ x = 31 ∨ x = 33 ∨ x = 35
  | 6 => x = 30 ∨ x = 32 ∨ x = 34 ∨ x = 36
  | 7 => x = 9 ∨ x = 26
  | t => x = (t : Int) - 10 ∧ 0 ≤ x ∧ x < 43
def zV (ad : Nat → Nat) (b : Nat) (t : Nat) (x : Int) : Value := match t with
  | 0 => .int (Int32.ofInt x)
  | 1 => .long (Int64.ofInt x)
  | 3 => .ref b
  | 4 => .int (Int32.ofInt x)
  | _ => .ref (ad x.toNat)
def zcat (t : Nat) : Nat := match t with
  | 1 => 2
  | _ => 1
theorem zV_cat (ad : Nat → Nat) (b t : Nat) (x : Int) : (zV ad b t x).category = zcat t := by
  by_cases h1 : t = 1
  · subst h1; rfl
  · have hz : zcat t = 1 := by unfold zcat; split <;> first | rfl | exact absurd rfl h1
    rw [hz]
    unfold zV
    split <;> first | rfl | exact absurd rfl h1
/-! the world: cells by number. what each is (a made thing of a sort, or a row: 100 int, 101 long, 102 of sheets, 103 boolean), how long -/
def zOC : List Nat := [8, 3, 100, 100, 100, 100, 1, 100, 100, 100, 0, 101, 101, 101, 4, 100, 100, 100, 100, 7, 101, 100, 5, 100, 100, 2, 100, 101, 102, 6, 100, 6, 100, 6, 100, 6, 100, 100, 101, 100, 101, 101, 101]
def zON : List Nat := [10, 8, 30, 30, 30, 10, 4, 6, 6, 6, 7, 180, 180, 30, 7, 10, 10, 10, 10, 7, 6, 6, 4, 6, 6, 6, 6, 201, 4, 4, 60, 4, 60, 4, 60, 4, 60, 60, 16, 6, 6, 16, 2]
/-- the kinds of the fields of a sort -/
def zFT : List (List Nat) := [[2, 2, 0, 2, 2, 1, 2], [0, 2, 2, 2], [2, 2, 2, 2, 0, 0], [0, 0, 0, 0, 2, 2, 2, 2], [2, 2, 0, 2, 2, 2, 2], [2, 2, 2, 2], [2, 4, 0, 0], [2, 2, 2, 2, 2, 0, 0], [2, 2, 2, 2, 2, 2, 2, 2, 0, 0]]
/-- where a cell's place that holds a cell points to -/
def zSH : List (List Nat) := [[1, 6, 10, 14, 19, 22, 25, 28, 0, 0], [0, 0, 0, 0, 2, 3, 4, 5], [], [], [], [], [0, 7, 8, 9], [], [], [], [1, 6, 0, 11, 12, 0, 13], [], [], [], [6, 10, 0, 15, 16, 17, 18], [], [], [], [], [1, 6, 10, 20, 21, 0, 0], [], [], [6, 10, 23, 24], [], [], [6, 10, 26, 27, 0, 0], [], [], [29, 31, 33, 35], [30, 0, 0, 0], [], [32, 0, 0, 0], [], [34, 0, 0, 0], [], [36, 0, 0, 0], [], [], [], [], [], [], []]
def zoc (o : Nat) : Nat := zOC.getD o 999
def zon (o : Nat) : Nat := zON.getD o 0
def zft (ci k : Nat) : Nat := (zFT.getD ci []).getD k 0
def zsh (o k : Nat) : Nat := (zSH.getD o []).getD k 0
theorem zsh_lt (o k : Nat) : zsh o k < 37 := by
  have h : ∀ l ∈ zSH, ∀ x ∈ l, x < 37 := by decide +kernel
  unfold zsh
  rw [List.getD_eq_getElem?_getD, List.getD_eq_getElem?_getD]
  cases h1 : zSH[o]? with
  | none => simp
  | some l =>
    simp only [Option.getD_some]
    cases h2 : l[k]? with
    | none => simp
    | some x => exact h l (List.mem_of_getElem? h1) x (List.mem_of_getElem? h2)
/-- the kind of what stands in a place -/
def zst (o k : Nat) : Nat := if zoc o = 100 then 0 else if zoc o = 101 then 1 else if zoc o = 102 then 3 else if zft (zoc o) k = 2 then 3 else zft (zoc o) k
abbrev zCs : Type := ClassId × ClassId × ClassId
abbrev zty (cs : zCs) : List (ClassId × FieldType) := [(cs.1, .int), (cs.2.1, .long), (cs.2.2, .object RX6)]
def zfv (ad : Nat → Nat) (σ : zHp) (o k : Nat) : Value := if zft (zoc o) k = 2 then .ref (ad (zsh o k)) else zV ad 0 (zft (zoc o) k) (σ o k)
def zcell (cs : zCs) (ad : Nat → Nat) (σ : zHp) (o : Nat) : va_E :=
  if zoc o = 100 then .inl (cs.1, zon o, .inl (fun j => Int32.ofInt (σ o j)))
  else if zoc o = 101 then .inl (cs.2.1, zon o, .inr (.inl (fun j => Int64.ofInt (σ o j))))
  else if zoc o = 102 then .inl (cs.2.2, zon o, .inr (.inr (.inr (.inr (fun j => some (ad (zsh o j)))))))
  else .inr (zoc o, (List.range (zon o)).map (zfv ad σ o))
def zW (cs : zCs) (ad : Nat → Nat) (σ : zHp) (ns : List Nat) : va_W := ns.map (fun o => (ad o, zcell cs ad σ o))
/-- the count of the cells made -/
def zct (σ : zHp) : Int := σ (-1) 0
def zcap : Int := 100000
def zOk (σ : zHp) : Prop := (∀ o k : Nat, inR (zst o k) (σ o k)) ∧ 0 ≤ zct σ ∧ zct σ ≤ zcap
theorem zidx {l : List Nat} (hn : l.Nodup) {i o : Nat} (h : l[i]? = some o) : l.idxOf o = i := by
  obtain ⟨hl, rfl⟩ := List.getElem?_eq_some_iff.mp h
  exact hn.idxOf_getElem i hl
/-- a world's cells: no one twice, the class's among them -/
def zNs (ns : List Nat) : Prop := ns.Nodup ∧ ∀ o : Nat, o < 37 → o ∈ ns
def zInj (ns : List Nat) (ad : Nat → Nat) : Prop := ∀ i j : Nat, i ∈ ns → j ∈ ns → ad i = ad j → i = j
def zA (ns : List Nat) (ad : Nat → Nat) (sz : Nat) : Nat → Prop := fun q => (∃ i, i ∈ ns ∧ q = ad i) ∨ sz ≤ q
def zput (σ : zHp) (o i v : Int) : zHp := fun a b => if a = o ∧ b = i then v else σ a b
theorem zW_get (cs : zCs) (ad : Nat → Nat) (σ : zHp) {ns : List Nat} {o : Nat} (h : o ∈ ns) : (zW cs ad σ ns)[ns.idxOf o]? = some (ad o, zcell cs ad σ o) := by
  have h1 : ns[ns.idxOf o]? = some o := by
    rw [List.getElem?_eq_getElem (List.idxOf_lt_length_of_mem h), List.getElem_idxOf]
  simp [zW, List.getElem?_map, h1]
theorem zW_of {cs : zCs} {ad : Nat → Nat} {σ : zHp} {ns : List Nat} {k : Nat} {q : Nat × va_E} (h : (zW cs ad σ ns)[k]? = some q) : ∃ o : Nat, ns[k]? = some o ∧ o ∈ ns ∧ q = (ad o, zcell cs ad σ o) := by
  unfold zW at h
  rw [List.getElem?_map] at h
  cases h1 : ns[k]? with
  | none => rw [h1] at h; cases h
  | some o =>
    rw [h1] at h
    exact ⟨o, rfl, List.mem_of_getElem? h1, (Option.some.inj h).symm⟩
theorem zcell_eq {cs : zCs} {ad : Nat → Nat} {σ τ : zHp} {o : Nat} (h : ∀ k : Int, τ o k = σ o k) : zcell cs ad τ o = zcell cs ad σ o := by
  have e : τ (o : Int) = σ (o : Int) := funext h
  unfold zcell zfv
  simp only [e]
theorem zW_set {cs : zCs} {ad : Nat → Nat} {σ τ : zHp} {ns : List Nat} {o : Nat} {e : va_E} (hn : ns.Nodup) (ho : o ∈ ns) (he : zcell cs ad τ o = e) (hk : ∀ q : Nat, q ≠ o → ∀ k : Int, τ q k = σ q k) : (zW cs ad σ ns).set (ns.idxOf o) (ad o, e) = zW cs ad τ ns := by
  have hl := List.idxOf_lt_length_of_mem ho
  apply List.ext_getElem?
  intro i
  by_cases hi : i = ns.idxOf o
  · subst hi
    rw [List.getElem?_set_self (by simpa [zW] using hl), zW_get _ _ _ ho, he]
  · rw [List.getElem?_set_ne (Ne.symm hi)]
    unfold zW
    rw [List.getElem?_map, List.getElem?_map]
    cases h1 : ns[i]? with
    | none => rfl
    | some q =>
      have hq : q ≠ o := by
        rintro rfl
        exact hi (zidx hn h1).symm
      simp only [Option.map_some, zcell_eq (hk q hq)]
theorem zput_self (σ : zHp) (o i v : Int) : zput σ o i v o i = v := by simp [zput]
theorem zput_o {σ : zHp} {o i v a : Int} (h : a ≠ o) (b : Int) : zput σ o i v a b = σ a b := by simp [zput, h]
theorem zput_i {σ : zHp} {o i v b : Int} (h : b ≠ i) (a : Int) : zput σ o i v a b = σ a b := by simp [zput, h]
theorem zput_on {σ : zHp} {o : Nat} {i v : Int} : ∀ q : Nat, q ≠ o → ∀ k : Int, zput σ o i v q k = σ q k := fun q h k => zput_o (by omega) k
theorem zct_put {σ : zHp} {o : Nat} {i v : Int} : zct (zput σ o i v) = zct σ := zput_o (by omega) 0
theorem zOk_put {σ : zHp} {o i : Nat} {v : Int} (h : zOk σ) (hv : inR (zst o i) v) : zOk (zput σ o i v) := by
  refine ⟨fun a b => ?_, by rw [zct_put]; exact h.2⟩
  by_cases hh : a = o ∧ b = i
  · obtain ⟨rfl, rfl⟩ := hh
    rw [zput_self]; exact hv
  · have : zput σ o i v a b = σ a b := by
      unfold zput
      rw [if_neg]
      omega
    rw [this]; exact h.1 a b
theorem zD {A : Nat → Prop} {cs : zCs} {ad : Nat → Nat} {ns : List Nat} (σ : zHp) (hn : ns.Nodup) (hi : zInj ns ad) (hA : ∀ i : Nat, i ∈ ns → A (ad i)) : va_D A (zW cs ad σ ns) := by
  refine ⟨fun i j p q hp hq e => ?_, fun k q hq => ?_⟩
  · obtain ⟨o1, a1, b1, rfl⟩ := zW_of hp
    obtain ⟨o2, a2, b2, rfl⟩ := zW_of hq
    have := hi o1 o2 b1 b2 e
    subst this
    exact (zidx hn a1).symm.trans (zidx hn a2)
  · obtain ⟨o1, a1, b1, rfl⟩ := zW_of hq
    exact hA o1 b1
theorem zA_va {cs : zCs} {ad : Nat → Nat} {ns : List Nat} (σ : zHp) (sz : Nat) : ∀ q, va_A (zW cs ad σ ns) sz q → zA ns ad sz q := by
  rintro q (⟨k, e, h⟩ | h)
  · obtain ⟨o, h1, h2, h3⟩ := zW_of h
    exact Or.inl ⟨o, h2, congrArg Prod.fst h3⟩
  · exact Or.inr h
/-- what a cell is once a place is written -/
theorem zcell_i {cs : zCs} {ad : Nat → Nat} {σ : zHp} {o : Nat} (h : zoc o = 100) : zcell cs ad σ o = .inl (cs.1, zon o, .inl (fun j => Int32.ofInt (σ o j))) := by simp [zcell, h]
theorem zcell_l {cs : zCs} {ad : Nat → Nat} {σ : zHp} {o : Nat} (h : zoc o = 101) : zcell cs ad σ o = .inl (cs.2.1, zon o, .inr (.inl (fun j => Int64.ofInt (σ o j)))) := by simp [zcell, h]
theorem zcell_q {cs : zCs} {ad : Nat → Nat} {σ : zHp} {o : Nat} (h : zoc o = 102) : zcell cs ad σ o = .inl (cs.2.2, zon o, .inr (.inr (.inr (.inr (fun j => some (ad (zsh o j))))))) := by simp [zcell, h]
theorem zcell_o {cs : zCs} {ad : Nat → Nat} {σ : zHp} {o : Nat} (h : zoc o < 100) : zcell cs ad σ o = .inr (zoc o, (List.range (zon o)).map (zfv ad σ o)) := by
  unfold zcell
  rw [if_neg (by omega), if_neg (by omega), if_neg (by omega)]
theorem zcell_iput {cs : zCs} {ad : Nat → Nat} {σ : zHp} {o : Nat} (h : zoc o = 100) (i : Nat) (v : Int) : zcell cs ad (zput σ o i v) o = .inl (cs.1, zon o, .inl (upd (fun j => Int32.ofInt (σ o j)) i (Int32.ofInt v))) := by
  rw [zcell_i h]
  congr 4
  funext j
  by_cases hj : j = i
  · subst hj; simp [upd, zput_self]
  · simp only [upd, if_neg hj]; rw [zput_i (by omega)]
theorem zcell_lput {cs : zCs} {ad : Nat → Nat} {σ : zHp} {o : Nat} (h : zoc o = 101) (i : Nat) (v : Int) : zcell cs ad (zput σ o i v) o = .inl (cs.2.1, zon o, .inr (.inl (vp_updL (fun j => Int64.ofInt (σ o j)) i (Int64.ofInt v)))) := by
  rw [zcell_l h]
  congr 5
  funext j
  by_cases hj : j = i
  · subst hj; simp [vp_updL, zput_self]
  · simp only [vp_updL, if_neg hj]; rw [zput_i (by omega)]
theorem zcell_oput {cs : zCs} {ad : Nat → Nat} {σ : zHp} {o : Nat} (h : zoc o < 100) {k : Nat} (hk : k < zon o) (hf : zft (zoc o) k ≠ 2) (v : Int) : zcell cs ad (zput σ o k v) o = .inr (zoc o, ((List.range (zon o)).map (zfv ad σ o)).set k (zV ad 0 (zft (zoc o) k) v)) := by
  rw [zcell_o h]
  congr 2
  apply List.ext_getElem?
  intro i
  by_cases hi : i = k
  · subst hi
    rw [List.getElem?_set_self (by simpa using hk)]
    simp [List.getElem?_range, hk, zfv, hf, zput_self]
  · rw [List.getElem?_set_ne (Ne.symm hi)]
    by_cases hl : i < zon o
    · simp only [List.getElem?_map, List.getElem?_range hl, Option.map_some, zfv]
      rw [zput_i (by omega)]
    · rw [List.getElem?_eq_none (by simp; omega), List.getElem?_eq_none (by simp; omega)]
/-- what sort of cell a kind of value is, and how long -/
def zcl (t : Nat) : Nat := if 10 ≤ t then zoc (t - 10) else if t = 5 then 6 else if t = 6 ∨ t = 7 then 100 else 999
def zln (t : Nat) : Nat := if 10 ≤ t then zon (t - 10) else if t = 5 then 4 else if t = 6 then 60 else if t = 7 then 6 else 0
theorem zcl_ok {t : Nat} {x : Int} (ht : 5 ≤ t) (h7 : t ≤ 7 ∨ 10 ≤ t) (h : inR t x) : ∃ o : Nat, o < 43 ∧ x = (o : Int) ∧ zoc o = zcl t ∧ zon o = zln t := by
  rcases h7 with h7 | h7
  · rcases (show t = 5 ∨ t = 6 ∨ t = 7 by omega) with rfl | rfl | rfl
    · rcases h with rfl | rfl | rfl | rfl
      · exact ⟨29, by decide, rfl, rfl, rfl⟩
      · exact ⟨31, by decide, rfl, rfl, rfl⟩
      · exact ⟨33, by decide, rfl, rfl, rfl⟩
      · exact ⟨35, by decide, rfl, rfl, rfl⟩
    · rcases h with rfl | rfl | rfl | rfl
      · exact ⟨30, by decide, rfl, rfl, rfl⟩
      · exact ⟨32, by decide, rfl, rfl, rfl⟩
      · exact ⟨34, by decide, rfl, rfl, rfl⟩
      · exact ⟨36, by decide, rfl, rfl, rfl⟩
    · rcases h with rfl | rfl
      · exact ⟨9, by decide, rfl, rfl, rfl⟩
      · exact ⟨26, by decide, rfl, rfl, rfl⟩
  · obtain ⟨n, rfl⟩ : ∃ n, t = n + 10 := ⟨t - 10, by omega⟩
    have h2 : x = ((n + 10 : Nat) : Int) - 10 ∧ 0 ≤ x ∧ x < 43 := h
    refine ⟨n, by omega, by omega, ?_, ?_⟩
    · unfold zcl; rw [if_pos (by omega)]; simp
    · unfold zln; rw [if_pos (by omega)]; simp
theorem zon_lt (o : Nat) : zon o < 2147483648 := by
  have h : ∀ x ∈ zON, x < 2147483648 := by decide +kernel
  unfold zon
  rw [List.getD_eq_getElem?_getD]
  cases h1 : zON[o]? with
  | none => simp
  | some x => exact h x (List.mem_of_getElem? h1)
