/-- a method: owner, code, locals, words, frames, locals' room, the script, kind of answer (9: none), what it has to come to -/
abbrev zM : Type := String × ByteArray × Nat × List Cond × Nat × Nat × Option (Nat × (Nat → Int32)) × Nat × List Nat × List Nat × Int × (Int → zHp → Prop)
abbrev zown (M : zM) : String := M.1
abbrev zcc (M : zM) : ByteArray := M.2.1
abbrev znl (M : zM) : Nat := M.2.2.1
abbrev zTs (M : zM) : List Cond := M.2.2.2.1
abbrev zfr (M : zM) : Nat := M.2.2.2.2.1
abbrev zlo (M : zM) : Nat := M.2.2.2.2.2.1
abbrev zsc (M : zM) : Option (Nat × (Nat → Int32)) := M.2.2.2.2.2.2.1
abbrev zrt (M : zM) : Nat := M.2.2.2.2.2.2.2.1
/-- the cells that the caller has, those that are there now -/
abbrev zn0 (M : zM) : List Nat := M.2.2.2.2.2.2.2.2.1
abbrev zns (M : zM) : List Nat := M.2.2.2.2.2.2.2.2.2.1
abbrev zcp (M : zM) : Int := M.2.2.2.2.2.2.2.2.2.2.1
abbrev zpo (M : zM) : Int → zHp → Prop := M.2.2.2.2.2.2.2.2.2.2.2
def zrv (t : Nat) (v : Int) : List Value := match t with
  | 1 => [.long (Int64.ofInt v)]
  | 9 => []
  | _ => [.int (Int32.ofInt v)]
def zri (t : Nat) (cc : ByteArray) (pc : Nat) : Prop := match t with
  | 1 => decode cc pc = .ok (.lreturn, 1)
  | 9 => decode cc pc = .ok (.return_, 1)
  | _ => decode cc pc = .ok (.ireturn, 1)
def zrr (t : Nat) (v : Int) : Prop := t = 9 ∨ inR t v
def zg (e : List Int) (k : Nat) : Int := e.getD k 0
def zLs (ad : Nat → Nat) (b : Nat) (Γ : List (Nat × Nat)) (e : List Int) : List (Nat × Value) := Γ.map (fun q => (q.1, zV ad b q.2 (zg e q.1)))
def zsv (ad : Nat → Nat) (b : Nat) (st : List (Nat × Int)) : List Value := st.map (fun q => zV ad b q.1 q.2)
def zwt (st : List (Nat × Int)) : Nat := (st.map (fun q => zcat q.1)).sum
def zE (M : zM) (Γ : List (Nat × Nat)) (e : List Int) : Prop := e.length = znl M ∧ ∀ q ∈ Γ, inR q.2 (zg e q.1)
/-- what holds around a body that is walked -/
def zKx (M : zM) (p : Program) (R : Room) (s : State) (m : MethodId) (args : Array Value) (c : Code) (D : va_G) (cs : zCs) (ad : Nat → Nat) (A : Nat → Prop) (b : Nat) : Prop :=
  p.tables.exec = Jvm.exec ∧ c.code = zcc M ∧ c.maxLocals = znl M ∧ s.vm.findClass (zown M) = some m.cls ∧ (∀ w ∈ zTs M, w.before args s = true) ∧ va_K D vwCl (zty cs) s ∧ zInj (zns M) ad ∧ (∀ i : Nat, i ∈ zns M → A (ad i)) ∧ (∀ q : Nat, s.heap.size ≤ q → A q) ∧ zfr M ≤ R.frames ∧ zlo M ≤ R.locals ∧ (∀ (L : Nat) (xs : Nat → Int32), zsc M = some (L, xs) → L < 2147483648 ∧ va_X b L xs s s.heap ∧ b < s.heap.size ∧ ¬ A b) ∧ zNs (zns M) ∧ ∀ k ∈ zn0 M, k ∈ zns M
def zRom (M : zM) (R : Room) (cells slots : Nat) (σ : zHp) : Prop := (cells : Int) + (zcp M - zct σ) ≤ R.cells ∧ (slots : Int) + 16 * (zcp M - zct σ) ≤ R.slots
/-- from here, with these locals, this stack and this world, the body comes to its end as it has to -/
def zRbd (M : zM) (pc : Nat) (Γ : List (Nat × Nat)) (e : List Int) (st : List (Nat × Int)) (σ : zHp) : Prop :=
  ∀ (p : Program) (l : Launch) (en : Env) (R : Room) (s : State) (m : MethodId) (args : Array Value) (below : List Frame) (meth : Method) (c : Code) (cells slots : Nat) (Q : State → Prop) (D : va_G) (cs : zCs) (ad : Nat → Nat) (A : Nat → Prop) (b : Nat) (H : Heap) (locs : List Loc) (ls : Array Slot),
    zKx M p R s m args c D cs ad A b → zRom M R cells slots σ →
    (∀ (v : Int) (τ : zHp) (H : Heap) (locs : List Loc) (ls : Array Slot) (pc cells slots : Nat), zpo M v τ → zrr (zrt M) v → zOk τ → zct τ ≤ zcp M → zRom M R cells slots τ → va_P D vwCl (zW cs ad τ (zn0 M)) H → va_S A s.heap H locs → zri (zrt M) (zcc M) pc → W p l en R s m args below meth c H locs cells slots Q (F0 m pc ls (zrv (zrt M) v))) →
    zOk σ → va_P D vwCl (zW cs ad σ (zns M)) H → va_S A s.heap H locs → lv_has ls (znl M) (zLs ad b Γ e) → W p l en R s m args below meth c H locs cells slots Q (F0 m pc ls (zsv ad b st))
/-- .. and the cells made don't pass the method's own -/
def zRn (M : zM) (pc : Nat) (Γ : List (Nat × Nat)) (e : List Int) (st : List (Nat × Int)) (σ : zHp) : Prop := zct σ ≤ zcp M ∧ zRbd M pc Γ e st σ
theorem zW_sub {D : va_G} {cs : zCs} {ad : Nat → Nat} {σ : zHp} {ns n0 : List Nat} {H : Heap} (h : ∀ k ∈ n0, k ∈ ns) (hP : va_P D vwCl (zW cs ad σ ns) H) : va_P D vwCl (zW cs ad σ n0) H := by
  intro k q hq
  obtain ⟨o, h1, h2, rfl⟩ := zW_of hq
  exact hP _ _ (zW_get cs ad σ (h o h2))
theorem zsv_cat (ad : Nat → Nat) (b : Nat) (st : List (Nat × Int)) : ((zsv ad b st).map fun v => v.category).sum = zwt st := by
  unfold zsv zwt
  rw [List.map_map]
  congr 1
  apply List.map_congr_left
  intro q _
  exact zV_cat ad b q.1 q.2
theorem zLs_at {ad : Nat → Nat} {b nL k t : Nat} {Γ : List (Nat × Nat)} {e : List Int} {ls : Array Slot} (h : lv_has ls nL (zLs ad b Γ e)) (hm : (k, t) ∈ Γ) : ls[k]? = some (.val (zV ad b t (zg e k))) :=
  h.2.2 (k, zV ad b t (zg e k)) (List.mem_map.mpr ⟨(k, t), hm, rfl⟩)
section ZR
variable {M : zM} {Γ : List (Nat × Nat)} {e : List Int} {st : List (Nat × Int)} {σ τ : zHp} {pc pc2 : Nat}
/-- a step that leaves world and locals -/
theorem zr_a {st2 : List (Nat × Int)} (k : zRn M pc2 Γ e st2 σ)
    (h : ∀ (p : Program) (l : Launch) (en : Env) (R : Room) (s : State) (m : MethodId) (args : Array Value) (below : List Frame) (meth : Method) (c : Code) (cells slots : Nat) (Q : State → Prop) (D : va_G) (cs : zCs) (ad : Nat → Nat) (A : Nat → Prop) (b : Nat) (H : Heap) (locs : List Loc) (ls : Array Slot),
      zKx M p R s m args c D cs ad A b → cells ≤ R.cells ∧ slots ≤ R.slots → zOk σ → va_P D vwCl (zW cs ad σ (zns M)) H → va_S A s.heap H locs → lv_has ls (znl M) (zLs ad b Γ e) →
      W p l en R s m args below meth c H locs cells slots Q (F0 m pc2 ls (zsv ad b st2)) → W p l en R s m args below meth c H locs cells slots Q (F0 m pc ls (zsv ad b st))) : zRn M pc Γ e st σ := by
  refine ⟨k.1, ?_⟩
  intro p l en R s m args below meth c cells slots Q D cs ad A b H locs ls K hc hr ho hP hS hl
  have k1 := k.1
  have hc2 := hc
  unfold zRom at hc2
  exact h p l en R s m args below meth c cells slots Q D cs ad A b H locs ls K (by omega) ho hP hS hl (k.2 p l en R s m args below meth c cells slots Q D cs ad A b H locs ls K hc hr ho hP hS hl)
/-- a step that writes the world -/
theorem zr_w {st2 : List (Nat × Int)} (ht : zOk σ → zOk τ) (hq : zct τ = zct σ) (k : zRn M pc2 Γ e st2 τ)
    (h : ∀ (p : Program) (l : Launch) (en : Env) (R : Room) (s : State) (m : MethodId) (args : Array Value) (below : List Frame) (meth : Method) (c : Code) (cells slots : Nat) (Q : State → Prop) (D : va_G) (cs : zCs) (ad : Nat → Nat) (A : Nat → Prop) (b : Nat) (H : Heap) (locs : List Loc) (ls : Array Slot),
      zKx M p R s m args c D cs ad A b → cells ≤ R.cells ∧ slots ≤ R.slots → zOk σ → va_P D vwCl (zW cs ad σ (zns M)) H → va_D A (zW cs ad σ (zns M)) → va_S A s.heap H locs → lv_has ls (znl M) (zLs ad b Γ e) →
      (∀ (H1 : Heap) (locs1 : List Loc), va_P D vwCl (zW cs ad τ (zns M)) H1 → va_S A s.heap H1 locs1 → W p l en R s m args below meth c H1 locs1 cells slots Q (F0 m pc2 ls (zsv ad b st2))) → W p l en R s m args below meth c H locs cells slots Q (F0 m pc ls (zsv ad b st))) : zRn M pc Γ e st σ := by
  refine ⟨by rw [← hq]; exact k.1, ?_⟩
  intro p l en R s m args below meth c cells slots Q D cs ad A b H locs ls K hc hr ho hP hS hl
  have k1 := k.1
  have hc2 := hc
  unfold zRom at hc2
  exact h p l en R s m args below meth c cells slots Q D cs ad A b H locs ls K (by omega) ho hP (zD σ K.2.2.2.2.2.2.2.2.2.2.2.2.1.1 K.2.2.2.2.2.2.1 K.2.2.2.2.2.2.2.1) hS hl (fun H1 locs1 hP1 hS1 => k.2 p l en R s m args below meth c cells slots Q D cs ad A b H1 locs1 ls K (by unfold zRom; rw [hq]; exact hc) hr (ht ho) hP1 hS1 hl)
/-- a step that writes a local -/
theorem zr_l {st2 : List (Nat × Int)} {Γ2 : List (Nat × Nat)} {e2 : List Int} (k : zRn M pc2 Γ2 e2 st2 σ)
    (h : ∀ (p : Program) (l : Launch) (en : Env) (R : Room) (s : State) (m : MethodId) (args : Array Value) (below : List Frame) (meth : Method) (c : Code) (cells slots : Nat) (Q : State → Prop) (ad : Nat → Nat) (b : Nat) (H : Heap) (locs : List Loc) (ls : Array Slot),
      p.tables.exec = Jvm.exec → c.code = zcc M → lv_has ls (znl M) (zLs ad b Γ e) →
      (∀ ls2 : Array Slot, lv_has ls2 (znl M) (zLs ad b Γ2 e2) → W p l en R s m args below meth c H locs cells slots Q (F0 m pc2 ls2 (zsv ad b st2))) → W p l en R s m args below meth c H locs cells slots Q (F0 m pc ls (zsv ad b st))) : zRn M pc Γ e st σ := by
  refine ⟨k.1, ?_⟩
  intro p l en R s m args below meth c cells slots Q D cs ad A b H locs ls K hc hr ho hP hS hl
  exact h p l en R s m args below meth c cells slots Q ad b H locs ls K.1 K.2.1 hl (fun ls2 hl2 => k.2 p l en R s m args below meth c cells slots Q D cs ad A b H locs ls2 K hc hr ho hP hS hl2)

theorem zr_iconst {n v : Int} (hd : decode (zcc M) pc = .ok (.iconst n, 1)) (hv : n = v) (k : zRn M (pc + 1) Γ e ((0, v) :: st) σ) : zRn M pc Γ e st σ := by
  refine zr_a k (fun p l en R s m args below meth c cells slots Q D cs ad A b H locs ls K hc ho hP hS hl kk => ?_)
  exact lv_iconst K.1 K.2.1 hd (by rw [hv]) kk
theorem zr_bipush {n v : Int} (hd : decode (zcc M) pc = .ok (.bipush n, 2)) (hv : (Int8.ofInt n).toInt32 = Int32.ofInt v) (k : zRn M (pc + 2) Γ e ((0, v) :: st) σ) : zRn M pc Γ e st σ := by
  refine zr_a k (fun p l en R s m args below meth c cells slots Q D cs ad A b H locs ls K hc ho hP hS hl kk => ?_)
  exact lv_bipush K.1 K.2.1 hd hv kk
theorem zr_sipush {n v : Int} (hd : decode (zcc M) pc = .ok (.sipush n, 3)) (hv : (Int16.ofInt n).toInt32 = Int32.ofInt v) (k : zRn M (pc + 3) Γ e ((0, v) :: st) σ) : zRn M pc Γ e st σ := by
  refine zr_a k (fun p l en R s m args below meth c cells slots Q D cs ad A b H locs ls K hc ho hP hS hl kk => ?_)
  exact lv_sipush K.1 K.2.1 hd hv kk
theorem zr_lconst {n : Fin 2} {v : Int} (hd : decode (zcc M) pc = .ok (.lconst n, 1)) (hv : Int64.ofNat (n : Nat) = Int64.ofInt v) (k : zRn M (pc + 1) Γ e ((1, v) :: st) σ) : zRn M pc Γ e st σ := by
  refine zr_a k (fun p l en R s m args below meth c cells slots Q D cs ad A b H locs ls K hc ho hP hS hl kk => ?_)
  exact lv_lconst K.1 K.2.1 hd hv kk
theorem zr_ldc2 {index : Nat} {x : Int64} {v : Int} (hd : decode (zcc M) pc = .ok (.ldc2_w index, 3)) (hw : Cond.constantLong (zown M) index x ∈ zTs M) (hv : x = Int64.ofInt v) (k : zRn M (pc + 3) Γ e ((1, v) :: st) σ) : zRn M pc Γ e st σ := by
  refine zr_a k (fun p l en R s m args below meth c cells slots Q D cs ad A b H locs ls K hc ho hP hS hl kk => ?_)
  subst hv
  exact lv_ldc2 K.1 K.2.1 K.2.2.2.1 (K.2.2.2.2.1 _ hw) hd kk
theorem zr_ldc {index : Nat} {x : Int32} {v : Int} (hd : decode (zcc M) pc = .ok (.ldc index, 2)) (hw : Cond.constant (zown M) index x ∈ zTs M) (hv : x = Int32.ofInt v) (k : zRn M (pc + 2) Γ e ((0, v) :: st) σ) : zRn M pc Γ e st σ := by
  refine zr_a k (fun p l en R s m args below meth c cells slots Q D cs ad A b H locs ls K hc ho hP hS hl kk => ?_)
  subst hv
  exact lv_ldc K.1 K.2.1 K.2.2.2.1 (K.2.2.2.2.1 _ hw) hd kk
theorem zr_ldcw {index : Nat} {x : Int32} {v : Int} (hd : decode (zcc M) pc = .ok (.ldc_w index, 3)) (hw : Cond.constant (zown M) index x ∈ zTs M) (hv : x = Int32.ofInt v) (k : zRn M (pc + 3) Γ e ((0, v) :: st) σ) : zRn M pc Γ e st σ := by
  refine zr_a k (fun p l en R s m args below meth c cells slots Q D cs ad A b H locs ls K hc ho hP hS hl kk => ?_)
  subst hv
  exact lv_ldcw K.1 K.2.1 K.2.2.2.1 (K.2.2.2.2.1 _ hw) hd kk
theorem zr_iload_n {k : Fin 4} {i : Nat} (hd : decode (zcc M) pc = .ok (.iload_n k, 1)) (hi : (k : Nat) = i) (hm : (i, 0) ∈ Γ) (kn : zRn M (pc + 1) Γ e ((0, zg e i) :: st) σ) : zRn M pc Γ e st σ := by
  refine zr_a kn (fun p l en R s m args below meth c cells slots Q D cs ad A b H locs ls K hc ho hP hS hl kk => ?_)
  exact lv_iload_n K.1 K.2.1 hd hi (zLs_at hl hm) kk
theorem zr_iload {i : Nat} (hd : decode (zcc M) pc = .ok (.iload i, 2)) (hm : (i, 0) ∈ Γ) (kn : zRn M (pc + 2) Γ e ((0, zg e i) :: st) σ) : zRn M pc Γ e st σ := by
  refine zr_a kn (fun p l en R s m args below meth c cells slots Q D cs ad A b H locs ls K hc ho hP hS hl kk => ?_)
  exact lv_iload K.1 K.2.1 hd (zLs_at hl hm) kk
theorem zr_lload_n {k : Fin 4} {i : Nat} (hd : decode (zcc M) pc = .ok (.lload_n k, 1)) (hi : (k : Nat) = i) (hm : (i, 1) ∈ Γ) (kn : zRn M (pc + 1) Γ e ((1, zg e i) :: st) σ) : zRn M pc Γ e st σ := by
  refine zr_a kn (fun p l en R s m args below meth c cells slots Q D cs ad A b H locs ls K hc ho hP hS hl kk => ?_)
  exact lv_lload_n K.1 K.2.1 hd hi (zLs_at hl hm) kk
theorem zr_lload {i : Nat} (hd : decode (zcc M) pc = .ok (.lload i, 2)) (hm : (i, 1) ∈ Γ) (kn : zRn M (pc + 2) Γ e ((1, zg e i) :: st) σ) : zRn M pc Γ e st σ := by
  refine zr_a kn (fun p l en R s m args below meth c cells slots Q D cs ad A b H locs ls K hc ho hP hS hl kk => ?_)
  exact lv_lload K.1 K.2.1 hd (zLs_at hl hm) kk
theorem zr_zload_n {k : Fin 4} {i : Nat} (hd : decode (zcc M) pc = .ok (.iload_n k, 1)) (hi : (k : Nat) = i) (hm : (i, 4) ∈ Γ) (kn : zRn M (pc + 1) Γ e ((4, zg e i) :: st) σ) : zRn M pc Γ e st σ := by
  refine zr_a kn (fun p l en R s m args below meth c cells slots Q D cs ad A b H locs ls K hc ho hP hS hl kk => ?_)
  exact lv_iload_n K.1 K.2.1 hd hi (zLs_at hl hm) kk
theorem zr_zload {i : Nat} (hd : decode (zcc M) pc = .ok (.iload i, 2)) (hm : (i, 4) ∈ Γ) (kn : zRn M (pc + 2) Γ e ((4, zg e i) :: st) σ) : zRn M pc Γ e st σ := by
  refine zr_a kn (fun p l en R s m args below meth c cells slots Q D cs ad A b H locs ls K hc ho hP hS hl kk => ?_)
  exact lv_iload K.1 K.2.1 hd (zLs_at hl hm) kk
theorem zV_ref {ad : Nat → Nat} {b t : Nat} {x : Int} (ht : 5 ≤ t) : zV ad b t x = .ref (ad x.toNat) := by
  unfold zV
  split <;> first | rfl | omega
theorem zr_aload_n {k : Fin 4} {i t : Nat} (hd : decode (zcc M) pc = .ok (.aload_n k, 1)) (hi : (k : Nat) = i) (ht : 5 ≤ t) (hm : (i, t) ∈ Γ) (kn : zRn M (pc + 1) Γ e ((t, zg e i) :: st) σ) : zRn M pc Γ e st σ := by
  refine zr_a kn (fun p l en R s m args below meth c cells slots Q D cs ad A b H locs ls K hc ho hP hS hl kk => ?_)
  have h1 := zLs_at hl hm
  rw [zV_ref ht] at h1
  refine lv_aload_n K.1 K.2.1 hd hi h1 ?_
  rw [show (Value.ref (ad (zg e i).toNat)) :: zsv ad b st = zsv ad b ((t, zg e i) :: st) by simp [zsv, zV_ref ht]]
  exact kk
theorem zr_aload {i t : Nat} (hd : decode (zcc M) pc = .ok (.aload i, 2)) (ht : 5 ≤ t) (hm : (i, t) ∈ Γ) (kn : zRn M (pc + 2) Γ e ((t, zg e i) :: st) σ) : zRn M pc Γ e st σ := by
  refine zr_a kn (fun p l en R s m args below meth c cells slots Q D cs ad A b H locs ls K hc ho hP hS hl kk => ?_)
  have h1 := zLs_at hl hm
  rw [zV_ref ht] at h1
  refine lv_aload K.1 K.2.1 hd h1 ?_
  rw [show (Value.ref (ad (zg e i).toNat)) :: zsv ad b st = zsv ad b ((t, zg e i) :: st) by simp [zsv, zV_ref ht]]
  exact kk
theorem zr_saload_n {k : Fin 4} {i : Nat} (hd : decode (zcc M) pc = .ok (.aload_n k, 1)) (hi : (k : Nat) = i) (hm : (i, 3) ∈ Γ) (kn : zRn M (pc + 1) Γ e ((3, 0) :: st) σ) : zRn M pc Γ e st σ := by
  refine zr_a kn (fun p l en R s m args below meth c cells slots Q D cs ad A b H locs ls K hc ho hP hS hl kk => ?_)
  exact lv_aload_n K.1 K.2.1 hd hi (zLs_at hl hm) kk
def zset1 (i t : Nat) (Γ : List (Nat × Nat)) : List (Nat × Nat) := (i, t) :: Γ.filter (fun q => !(q.1 == i) && !(q.1 + 1 == i && zcat q.2 == 2))
def zset2 (i t : Nat) (Γ : List (Nat × Nat)) : List (Nat × Nat) := (i, t) :: Γ.filter (fun q => !(q.1 == i) && (!(q.1 == i + 1) && !(q.1 + 1 == i && zcat q.2 == 2)))
theorem zg_set_self {e : List Int} {i : Nat} {v : Int} (h : i < e.length) : zg (e.set i v) i = v := by
  simp [zg, h]
theorem zg_set_ne {e : List Int} {i j : Nat} {v : Int} (h : j ≠ i) : zg (e.set i v) j = zg e j := by
  simp [zg, List.getElem?_set, Ne.symm h]
theorem zfilter_map {α β : Type} (f : α → β) (P : β → Bool) (P2 : α → Bool) (g : α → β) : ∀ l : List α, (∀ a, P (f a) = P2 a) → (∀ a, P2 a = true → f a = g a) → (l.map f).filter P = (l.filter P2).map g
  | [], _, _ => rfl
  | a :: l, h1, h2 => by
    have ih := zfilter_map f P P2 g l h1 h2
    simp only [List.map_cons, List.filter_cons, h1 a]
    by_cases h : P2 a = true
    · simp [h, ih, h2 a h]
    · simp [h, ih]
theorem zLs_zset1 {ad : Nat → Nat} {b i t : Nat} {Γ : List (Nat × Nat)} {e : List Int} {v : Int} {w : Value} (hi : i < e.length) (hw : zV ad b t v = w) : (i, w) :: (zLs ad b Γ e).filter (fun q => !(q.1 == i) && !(q.1 + 1 == i && q.2.category == 2)) = zLs ad b (zset1 i t Γ) (e.set i v) := by
  unfold zset1 zLs
  rw [List.map_cons, zg_set_self hi, hw]
  congr 1
  refine zfilter_map _ _ _ _ Γ (fun q => ?_) (fun q hq => ?_)
  · simp only [zV_cat]
  · simp only [Bool.and_eq_true, Bool.not_eq_true', beq_eq_false_iff_ne, ne_eq] at hq
    rw [zg_set_ne hq.1]
theorem zLs_zset2 {ad : Nat → Nat} {b i t : Nat} {Γ : List (Nat × Nat)} {e : List Int} {v : Int} {w : Value} (hi : i < e.length) (hw : zV ad b t v = w) : (i, w) :: (zLs ad b Γ e).filter (fun q => !(q.1 == i) && (!(q.1 == i + 1) && !(q.1 + 1 == i && q.2.category == 2))) = zLs ad b (zset2 i t Γ) (e.set i v) := by
  unfold zset2 zLs
  rw [List.map_cons, zg_set_self hi, hw]
  congr 1
  refine zfilter_map _ _ _ _ Γ (fun q => ?_) (fun q hq => ?_)
  · simp only [zV_cat]
  · simp only [Bool.and_eq_true, Bool.not_eq_true', beq_eq_false_iff_ne, ne_eq] at hq
    rw [zg_set_ne hq.1]
theorem zE_set1 {i t : Nat} {v : Int} (h : zE M Γ e) (hi : i < znl M) (hv : inR t v) : zE M (zset1 i t Γ) (e.set i v) := by
  refine ⟨by rw [List.length_set]; exact h.1, fun q hq => ?_⟩
  rcases List.mem_cons.mp hq with rfl | hq
  · rw [zg_set_self (by rw [h.1]; exact hi)]; exact hv
  · obtain ⟨h1, h2⟩ := List.mem_filter.mp hq
    simp only [Bool.and_eq_true, Bool.not_eq_true', beq_eq_false_iff_ne, ne_eq] at h2
    rw [zg_set_ne h2.1]; exact h.2 q h1
theorem zE_set2 {i t : Nat} {v : Int} (h : zE M Γ e) (hi : i < znl M) (hv : inR t v) : zE M (zset2 i t Γ) (e.set i v) := by
  refine ⟨by rw [List.length_set]; exact h.1, fun q hq => ?_⟩
  rcases List.mem_cons.mp hq with rfl | hq
  · rw [zg_set_self (by rw [h.1]; exact hi)]; exact hv
  · obtain ⟨h1, h2⟩ := List.mem_filter.mp hq
    simp only [Bool.and_eq_true, Bool.not_eq_true', beq_eq_false_iff_ne, ne_eq] at h2
    rw [zg_set_ne h2.1]; exact h.2 q h1
theorem zr_istore_n {k : Fin 4} {i : Nat} {v : Int} (hd : decode (zcc M) pc = .ok (.istore_n k, 1)) (hi : (k : Nat) = i) (hn : i < znl M) (he : e.length = znl M) (kn : zRn M (pc + 1) (zset1 i 0 Γ) (e.set i v) st σ) : zRn M pc Γ e ((0, v) :: st) σ := by
  refine zr_l kn (fun p l en R s m args below meth c cells slots Q ad b H locs ls hx hb hl kk => ?_)
  exact lv_istore_n hx hb hd hi hl hn (zLs_zset1 (by omega) (rfl)) kk
theorem zr_istore {i : Nat} {v : Int} (hd : decode (zcc M) pc = .ok (.istore i, 2)) (hn : i < znl M) (he : e.length = znl M) (kn : zRn M (pc + 2) (zset1 i 0 Γ) (e.set i v) st σ) : zRn M pc Γ e ((0, v) :: st) σ := by
  refine zr_l kn (fun p l en R s m args below meth c cells slots Q ad b H locs ls hx hb hl kk => ?_)
  exact lv_istore hx hb hd hl hn (zLs_zset1 (by omega) (rfl)) kk
theorem zr_zstore_n {k : Fin 4} {i : Nat} {v : Int} (hd : decode (zcc M) pc = .ok (.istore_n k, 1)) (hi : (k : Nat) = i) (hn : i < znl M) (he : e.length = znl M) (kn : zRn M (pc + 1) (zset1 i 4 Γ) (e.set i v) st σ) : zRn M pc Γ e ((4, v) :: st) σ := by
  refine zr_l kn (fun p l en R s m args below meth c cells slots Q ad b H locs ls hx hb hl kk => ?_)
  exact lv_istore_n hx hb hd hi hl hn (zLs_zset1 (by omega) (rfl)) kk
theorem zr_zstore {i : Nat} {v : Int} (hd : decode (zcc M) pc = .ok (.istore i, 2)) (hn : i < znl M) (he : e.length = znl M) (kn : zRn M (pc + 2) (zset1 i 4 Γ) (e.set i v) st σ) : zRn M pc Γ e ((4, v) :: st) σ := by
  refine zr_l kn (fun p l en R s m args below meth c cells slots Q ad b H locs ls hx hb hl kk => ?_)
  exact lv_istore hx hb hd hl hn (zLs_zset1 (by omega) (rfl)) kk
theorem zr_lstore_n {k : Fin 4} {i : Nat} {v : Int} (hd : decode (zcc M) pc = .ok (.lstore_n k, 1)) (hi : (k : Nat) = i) (hn : i + 1 < znl M) (he : e.length = znl M) (kn : zRn M (pc + 1) (zset2 i 1 Γ) (e.set i v) st σ) : zRn M pc Γ e ((1, v) :: st) σ := by
  refine zr_l kn (fun p l en R s m args below meth c cells slots Q ad b H locs ls hx hb hl kk => ?_)
  exact lv_lstore_n hx hb hd hi hl hn (zLs_zset2 (by omega) (rfl)) kk
theorem zr_lstore {i : Nat} {v : Int} (hd : decode (zcc M) pc = .ok (.lstore i, 2)) (hn : i + 1 < znl M) (he : e.length = znl M) (kn : zRn M (pc + 2) (zset2 i 1 Γ) (e.set i v) st σ) : zRn M pc Γ e ((1, v) :: st) σ := by
  refine zr_l kn (fun p l en R s m args below meth c cells slots Q ad b H locs ls hx hb hl kk => ?_)
  exact lv_lstore hx hb hd hl hn (zLs_zset2 (by omega) (rfl)) kk
theorem zr_astore_n {k : Fin 4} {i t : Nat} {v : Int} (hd : decode (zcc M) pc = .ok (.astore_n k, 1)) (hi : (k : Nat) = i) (ht : 5 ≤ t) (hn : i < znl M) (he : e.length = znl M) (kn : zRn M (pc + 1) (zset1 i t Γ) (e.set i v) st σ) : zRn M pc Γ e ((t, v) :: st) σ := by
  refine zr_l kn (fun p l en R s m args below meth c cells slots Q ad b H locs ls hx hb hl kk => ?_)
  rw [show zsv ad b ((t, v) :: st) = (Value.ref (ad v.toNat)) :: zsv ad b st by simp [zsv, zV_ref ht]]
  exact lv_astore_n hx hb hd hi hl hn (zLs_zset1 (by omega) (zV_ref ht)) kk
theorem zr_astore {i t : Nat} {v : Int} (hd : decode (zcc M) pc = .ok (.astore i, 2)) (ht : 5 ≤ t) (hn : i < znl M) (he : e.length = znl M) (kn : zRn M (pc + 2) (zset1 i t Γ) (e.set i v) st σ) : zRn M pc Γ e ((t, v) :: st) σ := by
  refine zr_l kn (fun p l en R s m args below meth c cells slots Q ad b H locs ls hx hb hl kk => ?_)
  rw [show zsv ad b ((t, v) :: st) = (Value.ref (ad v.toNat)) :: zsv ad b st by simp [zsv, zV_ref ht]]
  exact lv_astore hx hb hd hl hn (zLs_zset1 (by omega) (zV_ref ht)) kk
theorem zLs_i {ad : Nat → Nat} {b i t : Nat} {e : List Int} : ∀ {Γ : List (Nat × Nat)}, (i, t) ∈ Γ → ∃ k : Nat, (zLs ad b Γ e)[k]? = some (i, zV ad b t (zg e i)) := fun {Γ} h =>
  List.getElem?_of_mem (List.mem_map.mpr ⟨(i, t), h, rfl⟩)
theorem zr_iinc {i : Nat} {n : Int} (hd : decode (zcc M) pc = .ok (.iinc i n, 3)) (hm : (i, 0) ∈ Γ) (hn : i < znl M) (he : e.length = znl M) (kn : zRn M (pc + 3) (zset1 i 0 Γ) (e.set i (w32 (zg e i + n))) st σ) : zRn M pc Γ e st σ := by
  refine zr_l kn (fun p l en R s m args below meth c cells slots Q ad b H locs ls hx hb hl kk => ?_)
  obtain ⟨k, hk⟩ := zLs_i (ad := ad) (b := b) (e := e) hm
  refine lv_iinc hx hb hd hl hk (v := Int32.ofInt (w32 (zg e i + n))) (by rw [z32_w, Int32.ofInt_add]) hn (zLs_zset1 (t := 0) (by omega) rfl) kk
theorem zr_iadd {x y : Int} (hd : decode (zcc M) pc = .ok (.iadd, 1)) (k : zRn M (pc + 1) Γ e ((0, w32 (x + y)) :: st) σ) : zRn M pc Γ e ((0, y) :: (0, x) :: st) σ := by
  refine zr_a k (fun p l en R s m args below meth c cells slots Q D cs ad A b H locs ls K hc ho hP hS hl kk => ?_)
  have h : Int32.ofInt x + Int32.ofInt y = Int32.ofInt (w32 (x + y)) := by rw [z32_w, Int32.ofInt_add]
  show W p l en R s m args below meth c H locs cells slots Q (F0 m pc ls (Value.int (Int32.ofInt y) :: Value.int (Int32.ofInt x) :: zsv ad b st))
  refine lv_iadd K.1 K.2.1 hd ?_
  (try rw [h])
  exact kk
theorem zr_isub {x y : Int} (hd : decode (zcc M) pc = .ok (.isub, 1)) (k : zRn M (pc + 1) Γ e ((0, w32 (x - y)) :: st) σ) : zRn M pc Γ e ((0, y) :: (0, x) :: st) σ := by
  refine zr_a k (fun p l en R s m args below meth c cells slots Q D cs ad A b H locs ls K hc ho hP hS hl kk => ?_)
  have h : Int32.ofInt x - Int32.ofInt y = Int32.ofInt (w32 (x - y)) := by rw [z32_w, Int32.ofInt_sub]
  show W p l en R s m args below meth c H locs cells slots Q (F0 m pc ls (Value.int (Int32.ofInt y) :: Value.int (Int32.ofInt x) :: zsv ad b st))
  refine lv_isub K.1 K.2.1 hd ?_
  (try rw [h])
  exact kk
theorem zr_imul {x y : Int} (hd : decode (zcc M) pc = .ok (.imul, 1)) (k : zRn M (pc + 1) Γ e ((0, w32 (x * y)) :: st) σ) : zRn M pc Γ e ((0, y) :: (0, x) :: st) σ := by
  refine zr_a k (fun p l en R s m args below meth c cells slots Q D cs ad A b H locs ls K hc ho hP hS hl kk => ?_)
  have h : Int32.ofInt x * Int32.ofInt y = Int32.ofInt (w32 (x * y)) := by rw [z32_w, Int32.ofInt_mul]
  show W p l en R s m args below meth c H locs cells slots Q (F0 m pc ls (Value.int (Int32.ofInt y) :: Value.int (Int32.ofInt x) :: zsv ad b st))
  refine lv_imul K.1 K.2.1 hd ?_
  (try rw [h])
  exact kk
theorem zr_ladd {x y : Int} (hd : decode (zcc M) pc = .ok (.ladd, 1)) (k : zRn M (pc + 1) Γ e ((1, w64 (x + y)) :: st) σ) : zRn M pc Γ e ((1, y) :: (1, x) :: st) σ := by
  refine zr_a k (fun p l en R s m args below meth c cells slots Q D cs ad A b H locs ls K hc ho hP hS hl kk => ?_)
  have h : Int64.ofInt x + Int64.ofInt y = Int64.ofInt (w64 (x + y)) := by rw [z64_w, Int64.ofInt_add]
  show W p l en R s m args below meth c H locs cells slots Q (F0 m pc ls (Value.long (Int64.ofInt y) :: Value.long (Int64.ofInt x) :: zsv ad b st))
  refine lv_ladd K.1 K.2.1 hd ?_
  (try rw [h])
  exact kk
theorem zr_lsub {x y : Int} (hd : decode (zcc M) pc = .ok (.lsub, 1)) (k : zRn M (pc + 1) Γ e ((1, w64 (x - y)) :: st) σ) : zRn M pc Γ e ((1, y) :: (1, x) :: st) σ := by
  refine zr_a k (fun p l en R s m args below meth c cells slots Q D cs ad A b H locs ls K hc ho hP hS hl kk => ?_)
  have h : Int64.ofInt x - Int64.ofInt y = Int64.ofInt (w64 (x - y)) := by rw [z64_w, Int64.ofInt_sub]
  show W p l en R s m args below meth c H locs cells slots Q (F0 m pc ls (Value.long (Int64.ofInt y) :: Value.long (Int64.ofInt x) :: zsv ad b st))
  refine lv_lsub K.1 K.2.1 hd ?_
  (try rw [h])
  exact kk
theorem zr_lmul {x y : Int} (hd : decode (zcc M) pc = .ok (.lmul, 1)) (k : zRn M (pc + 1) Γ e ((1, w64 (x * y)) :: st) σ) : zRn M pc Γ e ((1, y) :: (1, x) :: st) σ := by
  refine zr_a k (fun p l en R s m args below meth c cells slots Q D cs ad A b H locs ls K hc ho hP hS hl kk => ?_)
  have h : Int64.ofInt x * Int64.ofInt y = Int64.ofInt (w64 (x * y)) := by rw [z64_w, Int64.ofInt_mul]
  show W p l en R s m args below meth c H locs cells slots Q (F0 m pc ls (Value.long (Int64.ofInt y) :: Value.long (Int64.ofInt x) :: zsv ad b st))
  refine lv_lmul K.1 K.2.1 hd ?_
  (try rw [h])
  exact kk
def zAnd (x y : Int) : Int := (Int32.ofInt x &&& Int32.ofInt y).toInt
def zOr (x y : Int) : Int := (Int32.ofInt x ||| Int32.ofInt y).toInt
def zXor (x y : Int) : Int := (Int32.ofInt x ^^^ Int32.ofInt y).toInt
def zShl (x y : Int) : Int := (Int32.ofInt x <<< (Int32.ofInt y &&& 31)).toInt
def zShr (x y : Int) : Int := (Int32.ofInt x >>> (Int32.ofInt y &&& 31)).toInt
def zUshr (x y : Int) : Int := ((Int32.ofInt x).toUInt32 >>> ((Int32.ofInt y).toUInt32 &&& Int32.toUInt32 31)).toInt32.toInt
def zLshr (x y : Int) : Int := (Int64.ofInt x >>> ((Int32.ofInt y).toInt64 &&& 63)).toInt
theorem zr_iand {x y : Int} (hd : decode (zcc M) pc = .ok (.iand, 1)) (k : zRn M (pc + 1) Γ e ((0, zAnd x y) :: st) σ) : zRn M pc Γ e ((0, y) :: (0, x) :: st) σ := by
  refine zr_a k (fun p l en R s m args below meth c cells slots Q D cs ad A b H locs ls K hc ho hP hS hl kk => ?_)
  have h : Int32.ofInt x &&& Int32.ofInt y = Int32.ofInt (zAnd x y) := by unfold zAnd; rw [Int32.ofInt_toInt]
  show W p l en R s m args below meth c H locs cells slots Q (F0 m pc ls (Value.int (Int32.ofInt y) :: Value.int (Int32.ofInt x) :: zsv ad b st))
  refine lv_iand K.1 K.2.1 hd ?_
  (try rw [h])
  exact kk
theorem zr_ior {x y : Int} (hd : decode (zcc M) pc = .ok (.ior, 1)) (k : zRn M (pc + 1) Γ e ((0, zOr x y) :: st) σ) : zRn M pc Γ e ((0, y) :: (0, x) :: st) σ := by
  refine zr_a k (fun p l en R s m args below meth c cells slots Q D cs ad A b H locs ls K hc ho hP hS hl kk => ?_)
  have h : Int32.ofInt x ||| Int32.ofInt y = Int32.ofInt (zOr x y) := by unfold zOr; rw [Int32.ofInt_toInt]
  show W p l en R s m args below meth c H locs cells slots Q (F0 m pc ls (Value.int (Int32.ofInt y) :: Value.int (Int32.ofInt x) :: zsv ad b st))
  refine lv_ior K.1 K.2.1 hd ?_
  (try rw [h])
  exact kk
theorem zr_ixor {x y : Int} (hd : decode (zcc M) pc = .ok (.ixor, 1)) (k : zRn M (pc + 1) Γ e ((0, zXor x y) :: st) σ) : zRn M pc Γ e ((0, y) :: (0, x) :: st) σ := by
  refine zr_a k (fun p l en R s m args below meth c cells slots Q D cs ad A b H locs ls K hc ho hP hS hl kk => ?_)
  have h : Int32.ofInt x ^^^ Int32.ofInt y = Int32.ofInt (zXor x y) := by unfold zXor; rw [Int32.ofInt_toInt]
  show W p l en R s m args below meth c H locs cells slots Q (F0 m pc ls (Value.int (Int32.ofInt y) :: Value.int (Int32.ofInt x) :: zsv ad b st))
  refine lv_ixor K.1 K.2.1 hd ?_
  (try rw [h])
  exact kk
theorem zr_ishl {x y : Int} (hd : decode (zcc M) pc = .ok (.ishl, 1)) (k : zRn M (pc + 1) Γ e ((0, zShl x y) :: st) σ) : zRn M pc Γ e ((0, y) :: (0, x) :: st) σ := by
  refine zr_a k (fun p l en R s m args below meth c cells slots Q D cs ad A b H locs ls K hc ho hP hS hl kk => ?_)
  have h : Int32.ofInt x <<< (Int32.ofInt y &&& 31) = Int32.ofInt (zShl x y) := by unfold zShl; rw [Int32.ofInt_toInt]
  show W p l en R s m args below meth c H locs cells slots Q (F0 m pc ls (Value.int (Int32.ofInt y) :: Value.int (Int32.ofInt x) :: zsv ad b st))
  refine lv_ishl K.1 K.2.1 hd ?_
  (try rw [h])
  exact kk
theorem zr_ishr {x y : Int} (hd : decode (zcc M) pc = .ok (.ishr, 1)) (k : zRn M (pc + 1) Γ e ((0, zShr x y) :: st) σ) : zRn M pc Γ e ((0, y) :: (0, x) :: st) σ := by
  refine zr_a k (fun p l en R s m args below meth c cells slots Q D cs ad A b H locs ls K hc ho hP hS hl kk => ?_)
  have h : Int32.ofInt x >>> (Int32.ofInt y &&& 31) = Int32.ofInt (zShr x y) := by unfold zShr; rw [Int32.ofInt_toInt]
  show W p l en R s m args below meth c H locs cells slots Q (F0 m pc ls (Value.int (Int32.ofInt y) :: Value.int (Int32.ofInt x) :: zsv ad b st))
  refine lv_ishr K.1 K.2.1 hd ?_
  (try rw [h])
  exact kk
theorem zr_iushr {x y : Int} (hd : decode (zcc M) pc = .ok (.iushr, 1)) (k : zRn M (pc + 1) Γ e ((0, zUshr x y) :: st) σ) : zRn M pc Γ e ((0, y) :: (0, x) :: st) σ := by
  refine zr_a k (fun p l en R s m args below meth c cells slots Q D cs ad A b H locs ls K hc ho hP hS hl kk => ?_)
  show W p l en R s m args below meth c H locs cells slots Q (F0 m pc ls (Value.int (Int32.ofInt y) :: Value.int (Int32.ofInt x) :: zsv ad b st))
  exact lv_iushr K.1 K.2.1 hd (v := Int32.ofInt (zUshr x y)) (by unfold zUshr; rw [Int32.ofInt_toInt]) kk
theorem zr_lshr {x y : Int} (hd : decode (zcc M) pc = .ok (.lshr, 1)) (k : zRn M (pc + 1) Γ e ((1, zLshr x y) :: st) σ) : zRn M pc Γ e ((0, y) :: (1, x) :: st) σ := by
  refine zr_a k (fun p l en R s m args below meth c cells slots Q D cs ad A b H locs ls K hc ho hP hS hl kk => ?_)
  show W p l en R s m args below meth c H locs cells slots Q (F0 m pc ls (Value.int (Int32.ofInt y) :: Value.long (Int64.ofInt x) :: zsv ad b st))
  exact lv_lshr K.1 K.2.1 hd (v := Int64.ofInt (zLshr x y)) (by unfold zLshr; rw [Int64.ofInt_toInt]) kk
def zdiv (x y : Int) : Int := w32 (x.tdiv y)
def zmod (x y : Int) : Int := x.tmod y
def zldiv (x y : Int) : Int := w64 (x.tdiv y)
theorem z_idiv {x y : Int} (hx : r32 x) (hy : r32 y) : Int32.ofInt x / Int32.ofInt y = Int32.ofInt (zdiv x y) := by
  apply Int32.toInt_inj.mp
  rw [Int32.toInt_div, z32_ti hx, z32_ti hy, zdiv, z32_w, Int32.toInt_ofInt]
theorem z_ldiv {x y : Int} (hx : r64 x) (hy : r64 y) : Int64.ofInt x / Int64.ofInt y = Int64.ofInt (zldiv x y) := by
  apply Int64.toInt_inj.mp
  rw [Int64.toInt_div, z64_ti hx, z64_ti hy, zldiv, z64_w, Int64.toInt_ofInt]
theorem z_irem {x y : Int} (hx : r32 x) (hy : r32 y) : Int32.ofInt x % Int32.ofInt y = Int32.ofInt (zmod x y) := by
  rw [← Int32.ofInt_toInt (Int32.ofInt x % Int32.ofInt y), Int32.toInt_mod, z32_ti hx, z32_ti hy]; rfl
theorem z_irem2 {x y : Int} (hx : r32 x) (hy : r32 y) : Int32.ofInt x - Int32.ofInt x / Int32.ofInt y * Int32.ofInt y = Int32.ofInt (zmod x y) := by
  rw [z_idiv hx hy, zdiv, z32_w, ← Int32.ofInt_mul, ← Int32.ofInt_sub]
  congr 1
  have := Int.tdiv_mul_add_tmod x y
  unfold zmod
  omega
theorem z_lrem2 {x y : Int} (hx : r64 x) (hy : r64 y) : Int64.ofInt x - Int64.ofInt x / Int64.ofInt y * Int64.ofInt y = Int64.ofInt (zmod x y) := by
  rw [z_ldiv hx hy, zldiv, z64_w, ← Int64.ofInt_mul, ← Int64.ofInt_sub]
  congr 1
  have := Int.tdiv_mul_add_tmod x y
  unfold zmod
  omega
theorem z_lrem {x y : Int} (hx : r64 x) (hy : r64 y) : Int64.ofInt x % Int64.ofInt y = Int64.ofInt (zmod x y) := by
  rw [← Int64.ofInt_toInt (Int64.ofInt x % Int64.ofInt y), Int64.toInt_mod, z64_ti hx, z64_ti hy]; rfl
theorem z32_n0 {y : Int} (hy : r32 y) (h : y ≠ 0) : ¬ Int32.ofInt y = 0 := fun q => h ((z32_eq hy (by unfold r32; omega)).mp q)
theorem z64_n0 {y : Int} (hy : r64 y) (h : y ≠ 0) : ¬ Int64.ofInt y = 0 := fun q => h ((z64_eq hy (by unfold r64; omega)).mp q)
theorem zr_idiv {x y : Int} (hx : r32 x) (hy : r32 y) (h0 : y ≠ 0) (hd : decode (zcc M) pc = .ok (.idiv, 1)) (k : zRn M (pc + 1) Γ e ((0, zdiv x y) :: st) σ) : zRn M pc Γ e ((0, y) :: (0, x) :: st) σ := by
  refine zr_a k (fun p l en R s m args below meth c cells slots Q D cs ad A b H locs ls K hc ho hP hS hl kk => ?_)
  show W p l en R s m args below meth c H locs cells slots Q (F0 m pc ls (Value.int (Int32.ofInt y) :: Value.int (Int32.ofInt x) :: zsv ad b st))
  refine lv_idiv K.1 K.2.1 hd (z32_n0 hy h0) ?_
  rw [z_idiv hx hy]
  exact kk
theorem zr_irem {x y : Int} (hx : r32 x) (hy : r32 y) (h0 : y ≠ 0) (hd : decode (zcc M) pc = .ok (.irem, 1)) (k : zRn M (pc + 1) Γ e ((0, zmod x y) :: st) σ) : zRn M pc Γ e ((0, y) :: (0, x) :: st) σ := by
  refine zr_a k (fun p l en R s m args below meth c cells slots Q D cs ad A b H locs ls K hc ho hP hS hl kk => ?_)
  show W p l en R s m args below meth c H locs cells slots Q (F0 m pc ls (Value.int (Int32.ofInt y) :: Value.int (Int32.ofInt x) :: zsv ad b st))
  refine lv_irem K.1 K.2.1 hd (z32_n0 hy h0) ?_
  rw [z_irem2 hx hy]
  exact kk
theorem zr_ldiv {x y : Int} (hx : r64 x) (hy : r64 y) (h0 : y ≠ 0) (hd : decode (zcc M) pc = .ok (.ldiv, 1)) (k : zRn M (pc + 1) Γ e ((1, zldiv x y) :: st) σ) : zRn M pc Γ e ((1, y) :: (1, x) :: st) σ := by
  refine zr_a k (fun p l en R s m args below meth c cells slots Q D cs ad A b H locs ls K hc ho hP hS hl kk => ?_)
  show W p l en R s m args below meth c H locs cells slots Q (F0 m pc ls (Value.long (Int64.ofInt y) :: Value.long (Int64.ofInt x) :: zsv ad b st))
  refine lv_ldiv K.1 K.2.1 hd (z64_n0 hy h0) ?_
  rw [z_ldiv hx hy]
  exact kk
theorem zr_lrem {x y : Int} (hx : r64 x) (hy : r64 y) (h0 : y ≠ 0) (hd : decode (zcc M) pc = .ok (.lrem, 1)) (k : zRn M (pc + 1) Γ e ((1, zmod x y) :: st) σ) : zRn M pc Γ e ((1, y) :: (1, x) :: st) σ := by
  refine zr_a k (fun p l en R s m args below meth c cells slots Q D cs ad A b H locs ls K hc ho hP hS hl kk => ?_)
  show W p l en R s m args below meth c H locs cells slots Q (F0 m pc ls (Value.long (Int64.ofInt y) :: Value.long (Int64.ofInt x) :: zsv ad b st))
  refine lv_lrem K.1 K.2.1 hd (z64_n0 hy h0) ?_
  rw [z_lrem2 hx hy]
  exact kk
def zneg (x : Int) : Int := w32 (-x)
theorem zr_ineg {x : Int} (hd : decode (zcc M) pc = .ok (.ineg, 1)) (k : zRn M (pc + 1) Γ e ((0, zneg x) :: st) σ) : zRn M pc Γ e ((0, x) :: st) σ := by
  refine zr_a k (fun p l en R s m args below meth c cells slots Q D cs ad A b H locs ls K hc ho hP hS hl kk => ?_)
  have h : -Int32.ofInt x = Int32.ofInt (zneg x) := by unfold zneg; rw [z32_w, Int32.ofInt_neg]
  show W p l en R s m args below meth c H locs cells slots Q (F0 m pc ls (Value.int (Int32.ofInt x) :: zsv ad b st))
  refine lv_ineg K.1 K.2.1 hd ?_
  (first | rw [h] | rw [show 0 - Int32.ofInt x = Int32.ofInt (zneg x) by rw [← h]; simp])
  exact kk
theorem zr_i2l {x : Int} (hx : r32 x) (hd : decode (zcc M) pc = .ok (.i2l, 1)) (k : zRn M (pc + 1) Γ e ((1, x) :: st) σ) : zRn M pc Γ e ((0, x) :: st) σ := by
  refine zr_a k (fun p l en R s m args below meth c cells slots Q D cs ad A b H locs ls K hc ho hP hS hl kk => ?_)
  exact lv_i2l K.1 K.2.1 hd (v := Int64.ofInt x) (by apply Int64.toInt_inj.mp; rw [Int32.toInt_toInt64, z32_ti hx, z64_ti ⟨by have := hx.1; omega, by have := hx.2; omega⟩]) kk
def zi2b (x : Int) : Int := (Int32.ofInt x).toInt8.toInt
def zi2s (x : Int) : Int := (Int32.ofInt x).toInt16.toInt
theorem zr_i2b {x : Int} (hd : decode (zcc M) pc = .ok (.i2b, 1)) (k : zRn M (pc + 1) Γ e ((0, zi2b x) :: st) σ) : zRn M pc Γ e ((0, x) :: st) σ := by
  refine zr_a k (fun p l en R s m args below meth c cells slots Q D cs ad A b H locs ls K hc ho hP hS hl kk => ?_)
  exact lv_i2b K.1 K.2.1 hd (v := Int32.ofInt (zi2b x)) (by apply Int32.toInt_inj.mp; rw [Int8.toInt_toInt32]; unfold zi2b; rw [z32_ti]; have h1 := (Int32.ofInt x).toInt8.le_toInt; have h2 := (Int32.ofInt x).toInt8.toInt_lt; unfold r32; omega) kk
theorem zr_i2s {x : Int} (hd : decode (zcc M) pc = .ok (.i2s, 1)) (k : zRn M (pc + 1) Γ e ((0, zi2s x) :: st) σ) : zRn M pc Γ e ((0, x) :: st) σ := by
  refine zr_a k (fun p l en R s m args below meth c cells slots Q D cs ad A b H locs ls K hc ho hP hS hl kk => ?_)
  exact lv_i2s K.1 K.2.1 hd (v := Int32.ofInt (zi2s x)) (by apply Int32.toInt_inj.mp; rw [Int16.toInt_toInt32]; unfold zi2s; rw [z32_ti]; have h1 := (Int32.ofInt x).toInt16.le_toInt; have h2 := (Int32.ofInt x).toInt16.toInt_lt; unfold r32; omega) kk
theorem zr_pop {t : Nat} {x : Int} (ht : zcat t = 1) (hd : decode (zcc M) pc = .ok (.pop, 1)) (k : zRn M (pc + 1) Γ e st σ) : zRn M pc Γ e ((t, x) :: st) σ := by
  refine zr_a k (fun p l en R s m args below meth c cells slots Q D cs ad A b H locs ls K hc ho hP hS hl kk => ?_)
  exact lv_pop K.1 K.2.1 hd (by rw [zV_cat, ht]) kk
theorem zr_pop2 {t : Nat} {x : Int} (ht : zcat t = 2) (hd : decode (zcc M) pc = .ok (.pop2, 1)) (k : zRn M (pc + 1) Γ e st σ) : zRn M pc Γ e ((t, x) :: st) σ := by
  refine zr_a k (fun p l en R s m args below meth c cells slots Q D cs ad A b H locs ls K hc ho hP hS hl kk => ?_)
  exact lv_pop2_2 K.1 K.2.1 hd (by rw [zV_cat, ht]) kk
theorem zr_dup {t : Nat} {x : Int} (ht : zcat t = 1) (hd : decode (zcc M) pc = .ok (.dup, 1)) (k : zRn M (pc + 1) Γ e ((t, x) :: (t, x) :: st) σ) : zRn M pc Γ e ((t, x) :: st) σ := by
  refine zr_a k (fun p l en R s m args below meth c cells slots Q D cs ad A b H locs ls K hc ho hP hS hl kk => ?_)
  exact lv_dup K.1 K.2.1 hd (by rw [zV_cat, ht]) kk
theorem zr_dup2 {t t2 : Nat} {x y : Int} (ht : zcat t = 1) (ht2 : zcat t2 = 1) (hd : decode (zcc M) pc = .ok (.dup2, 1)) (k : zRn M (pc + 1) Γ e ((t, x) :: (t2, y) :: (t, x) :: (t2, y) :: st) σ) : zRn M pc Γ e ((t, x) :: (t2, y) :: st) σ := by
  refine zr_a k (fun p l en R s m args below meth c cells slots Q D cs ad A b H locs ls K hc ho hP hS hl kk => ?_)
  exact lv_dup2_11 K.1 K.2.1 hd (by rw [zV_cat, ht]) (by rw [zV_cat, ht2]) kk
theorem zr_goto {off : Int} {tgt : Nat} (hd : decode (zcc M) pc = .ok (.goto off, 3)) (ht : (pc : Int) + off = (tgt : Int)) (k : zRn M tgt Γ e st σ) : zRn M pc Γ e st σ := by
  refine zr_a k (fun p l en R s m args below meth c cells slots Q D cs ad A b H locs ls K hc ho hP hS hl kk => ?_)
  exact lv_goto K.1 K.2.1 hd ht kk
theorem zr_br {st2 : List (Nat × Int)} {P : Prop} (h1 : P → zRn M pc2 Γ e st2 σ) {pc3 : Nat} (h2 : ¬ P → zRn M pc3 Γ e st2 σ)
    (h : ∀ (p : Program) (l : Launch) (en : Env) (R : Room) (s : State) (m : MethodId) (args : Array Value) (below : List Frame) (meth : Method) (c : Code) (cells slots : Nat) (Q : State → Prop) (ad : Nat → Nat) (b : Nat) (H : Heap) (locs : List Loc) (ls : Array Slot),
      p.tables.exec = Jvm.exec → c.code = zcc M →
      (P → W p l en R s m args below meth c H locs cells slots Q (F0 m pc2 ls (zsv ad b st2))) → (¬ P → W p l en R s m args below meth c H locs cells slots Q (F0 m pc3 ls (zsv ad b st2))) → W p l en R s m args below meth c H locs cells slots Q (F0 m pc ls (zsv ad b st))) : zRn M pc Γ e st σ := by
  refine ⟨by
    by_cases q : P
    · exact (h1 q).1
    · exact (h2 q).1, ?_⟩
  intro p l en R s m args below meth c cells slots Q D cs ad A b H locs ls K hc hr ho hP hS hl
  exact h p l en R s m args below meth c cells slots Q ad b H locs ls K.1 K.2.1 (fun q => (h1 q).2 p l en R s m args below meth c cells slots Q D cs ad A b H locs ls K hc hr ho hP hS hl) (fun q => (h2 q).2 p l en R s m args below meth c cells slots Q D cs ad A b H locs ls K hc hr ho hP hS hl)
theorem z32_00 : r32 0 := by unfold r32; omega
theorem zr_icmp_eq {x y off : Int} {tgt : Nat} (hx : r32 x) (hy : r32 y) (hd : decode (zcc M) pc = .ok (.if_icmp .eq off, 3)) (ht : (pc : Int) + off = (tgt : Int)) (h1 : x = y → zRn M tgt Γ e st σ) (h2 : ¬ (x = y) → zRn M (pc + 3) Γ e st σ) : zRn M pc Γ e ((0, y) :: (0, x) :: st) σ := by
  refine zr_br h1 h2 (fun p l en R s m args below meth c cells slots Q ad b H locs ls hex hb k1 k2 => ?_)
  show W p l en R s m args below meth c H locs cells slots Q (F0 m pc ls (Value.int (Int32.ofInt y) :: Value.int (Int32.ofInt x) :: zsv ad b st))
  have i := z32_eq hx hy
  exact lv_icmp_eq hex hb hd ht (fun q => k1 (i.mp q)) (fun q => k2 (fun z => q (i.mpr z)))
theorem zr_if_eq {x off : Int} {tgt : Nat} (hx : r32 x) (hd : decode (zcc M) pc = .ok (.ifCond .eq off, 3)) (ht : (pc : Int) + off = (tgt : Int)) (h1 : x = 0 → zRn M tgt Γ e st σ) (h2 : ¬ (x = 0) → zRn M (pc + 3) Γ e st σ) : zRn M pc Γ e ((0, x) :: st) σ := by
  refine zr_br h1 h2 (fun p l en R s m args below meth c cells slots Q ad b H locs ls hex hb k1 k2 => ?_)
  show W p l en R s m args below meth c H locs cells slots Q (F0 m pc ls (Value.int (Int32.ofInt x) :: zsv ad b st))
  have i := z32_eq hx z32_00
  exact lv_if_eq hex hb hd ht (fun q => k1 (i.mp q)) (fun q => k2 (fun z => q (i.mpr z)))
theorem z64_le {x y : Int} (hx : r64 x) (hy : r64 y) : Int64.ofInt x ≤ Int64.ofInt y ↔ x ≤ y := by
  rw [Int64.le_iff_toInt_le, z64_ti hx, z64_ti hy]
theorem zr_lcmp_eq {x y off : Int} {tgt : Nat} (hx : r64 x) (hy : r64 y) (hd0 : decode (zcc M) pc = .ok (.lcmp, 1)) (hd : decode (zcc M) (pc + 1) = .ok (.ifCond .eq off, 3)) (ht : ((pc + 1 : Nat) : Int) + off = (tgt : Int)) (h1 : x = y → zRn M tgt Γ e st σ) (h2 : ¬ (x = y) → zRn M (pc + 4) Γ e st σ) : zRn M pc Γ e ((1, y) :: (1, x) :: st) σ := by
  refine zr_br h1 h2 (fun p l en R s m args below meth c cells slots Q ad b H locs ls hex hb k1 k2 => ?_)
  show W p l en R s m args below meth c H locs cells slots Q (F0 m pc ls (Value.long (Int64.ofInt y) :: Value.long (Int64.ofInt x) :: zsv ad b st))
  have i := (lg_cmp_eq (Int64.ofInt x) (Int64.ofInt y)).trans (z64_eq hx hy)
  refine W.lcmp hex hb hd0 ?_
  exact lv_if_eq hex hb hd ht (fun q => k1 (i.mp q)) (fun q => k2 (fun z => q (i.mpr z)))
theorem zr_icmp_ne {x y off : Int} {tgt : Nat} (hx : r32 x) (hy : r32 y) (hd : decode (zcc M) pc = .ok (.if_icmp .ne off, 3)) (ht : (pc : Int) + off = (tgt : Int)) (h1 : ¬ x = y → zRn M tgt Γ e st σ) (h2 : ¬ (¬ x = y) → zRn M (pc + 3) Γ e st σ) : zRn M pc Γ e ((0, y) :: (0, x) :: st) σ := by
  refine zr_br h1 h2 (fun p l en R s m args below meth c cells slots Q ad b H locs ls hex hb k1 k2 => ?_)
  show W p l en R s m args below meth c H locs cells slots Q (F0 m pc ls (Value.int (Int32.ofInt y) :: Value.int (Int32.ofInt x) :: zsv ad b st))
  have i := not_congr (z32_eq hx hy)
  exact lv_icmp_ne hex hb hd ht (fun q => k1 (i.mp q)) (fun q => k2 (fun z => (i.mpr z) q))
theorem zr_if_ne {x off : Int} {tgt : Nat} (hx : r32 x) (hd : decode (zcc M) pc = .ok (.ifCond .ne off, 3)) (ht : (pc : Int) + off = (tgt : Int)) (h1 : ¬ x = 0 → zRn M tgt Γ e st σ) (h2 : ¬ (¬ x = 0) → zRn M (pc + 3) Γ e st σ) : zRn M pc Γ e ((0, x) :: st) σ := by
  refine zr_br h1 h2 (fun p l en R s m args below meth c cells slots Q ad b H locs ls hex hb k1 k2 => ?_)
  show W p l en R s m args below meth c H locs cells slots Q (F0 m pc ls (Value.int (Int32.ofInt x) :: zsv ad b st))
  have i := not_congr (z32_eq hx z32_00)
  exact lv_if_ne hex hb hd ht (fun q => k1 (i.mp q)) (fun q => k2 (fun z => (i.mpr z) q))
theorem zr_lcmp_ne {x y off : Int} {tgt : Nat} (hx : r64 x) (hy : r64 y) (hd0 : decode (zcc M) pc = .ok (.lcmp, 1)) (hd : decode (zcc M) (pc + 1) = .ok (.ifCond .ne off, 3)) (ht : ((pc + 1 : Nat) : Int) + off = (tgt : Int)) (h1 : ¬ x = y → zRn M tgt Γ e st σ) (h2 : ¬ (¬ x = y) → zRn M (pc + 4) Γ e st σ) : zRn M pc Γ e ((1, y) :: (1, x) :: st) σ := by
  refine zr_br h1 h2 (fun p l en R s m args below meth c cells slots Q ad b H locs ls hex hb k1 k2 => ?_)
  show W p l en R s m args below meth c H locs cells slots Q (F0 m pc ls (Value.long (Int64.ofInt y) :: Value.long (Int64.ofInt x) :: zsv ad b st))
  have i := not_congr ((lg_cmp_eq (Int64.ofInt x) (Int64.ofInt y)).trans (z64_eq hx hy))
  refine W.lcmp hex hb hd0 ?_
  exact lv_if_ne hex hb hd ht (fun q => k1 (i.mp q)) (fun q => k2 (fun z => (i.mpr z) q))
theorem zr_icmp_lt {x y off : Int} {tgt : Nat} (hx : r32 x) (hy : r32 y) (hd : decode (zcc M) pc = .ok (.if_icmp .lt off, 3)) (ht : (pc : Int) + off = (tgt : Int)) (h1 : x < y → zRn M tgt Γ e st σ) (h2 : ¬ (x < y) → zRn M (pc + 3) Γ e st σ) : zRn M pc Γ e ((0, y) :: (0, x) :: st) σ := by
  refine zr_br h1 h2 (fun p l en R s m args below meth c cells slots Q ad b H locs ls hex hb k1 k2 => ?_)
  show W p l en R s m args below meth c H locs cells slots Q (F0 m pc ls (Value.int (Int32.ofInt y) :: Value.int (Int32.ofInt x) :: zsv ad b st))
  have i := z32_lt hx hy
  exact lv_icmp_lt hex hb hd ht (fun q => k1 (i.mp q)) (fun q => k2 (fun z => q (i.mpr z)))
theorem zr_if_lt {x off : Int} {tgt : Nat} (hx : r32 x) (hd : decode (zcc M) pc = .ok (.ifCond .lt off, 3)) (ht : (pc : Int) + off = (tgt : Int)) (h1 : x < 0 → zRn M tgt Γ e st σ) (h2 : ¬ (x < 0) → zRn M (pc + 3) Γ e st σ) : zRn M pc Γ e ((0, x) :: st) σ := by
  refine zr_br h1 h2 (fun p l en R s m args below meth c cells slots Q ad b H locs ls hex hb k1 k2 => ?_)
  show W p l en R s m args below meth c H locs cells slots Q (F0 m pc ls (Value.int (Int32.ofInt x) :: zsv ad b st))
  have i := z32_lt hx z32_00
  exact lv_if_lt hex hb hd ht (fun q => k1 (i.mp q)) (fun q => k2 (fun z => q (i.mpr z)))
theorem zr_lcmp_lt {x y off : Int} {tgt : Nat} (hx : r64 x) (hy : r64 y) (hd0 : decode (zcc M) pc = .ok (.lcmp, 1)) (hd : decode (zcc M) (pc + 1) = .ok (.ifCond .lt off, 3)) (ht : ((pc + 1 : Nat) : Int) + off = (tgt : Int)) (h1 : x < y → zRn M tgt Γ e st σ) (h2 : ¬ (x < y) → zRn M (pc + 4) Γ e st σ) : zRn M pc Γ e ((1, y) :: (1, x) :: st) σ := by
  refine zr_br h1 h2 (fun p l en R s m args below meth c cells slots Q ad b H locs ls hex hb k1 k2 => ?_)
  show W p l en R s m args below meth c H locs cells slots Q (F0 m pc ls (Value.long (Int64.ofInt y) :: Value.long (Int64.ofInt x) :: zsv ad b st))
  have i := (lg_cmp_lt (Int64.ofInt x) (Int64.ofInt y)).trans (z64_lt hx hy)
  refine W.lcmp hex hb hd0 ?_
  exact lv_if_lt hex hb hd ht (fun q => k1 (i.mp q)) (fun q => k2 (fun z => q (i.mpr z)))
theorem zr_icmp_ge {x y off : Int} {tgt : Nat} (hx : r32 x) (hy : r32 y) (hd : decode (zcc M) pc = .ok (.if_icmp .ge off, 3)) (ht : (pc : Int) + off = (tgt : Int)) (h1 : x ≥ y → zRn M tgt Γ e st σ) (h2 : ¬ (x ≥ y) → zRn M (pc + 3) Γ e st σ) : zRn M pc Γ e ((0, y) :: (0, x) :: st) σ := by
  refine zr_br h1 h2 (fun p l en R s m args below meth c cells slots Q ad b H locs ls hex hb k1 k2 => ?_)
  show W p l en R s m args below meth c H locs cells slots Q (F0 m pc ls (Value.int (Int32.ofInt y) :: Value.int (Int32.ofInt x) :: zsv ad b st))
  have i := z32_le hy hx
  exact lv_icmp_ge hex hb hd ht (fun q => k1 (i.mp q)) (fun q => k2 (fun z => q (i.mpr z)))
theorem zr_if_ge {x off : Int} {tgt : Nat} (hx : r32 x) (hd : decode (zcc M) pc = .ok (.ifCond .ge off, 3)) (ht : (pc : Int) + off = (tgt : Int)) (h1 : x ≥ 0 → zRn M tgt Γ e st σ) (h2 : ¬ (x ≥ 0) → zRn M (pc + 3) Γ e st σ) : zRn M pc Γ e ((0, x) :: st) σ := by
  refine zr_br h1 h2 (fun p l en R s m args below meth c cells slots Q ad b H locs ls hex hb k1 k2 => ?_)
  show W p l en R s m args below meth c H locs cells slots Q (F0 m pc ls (Value.int (Int32.ofInt x) :: zsv ad b st))
  have i := z32_le z32_00 hx
  exact lv_if_ge hex hb hd ht (fun q => k1 (i.mp q)) (fun q => k2 (fun z => q (i.mpr z)))
theorem zr_lcmp_ge {x y off : Int} {tgt : Nat} (hx : r64 x) (hy : r64 y) (hd0 : decode (zcc M) pc = .ok (.lcmp, 1)) (hd : decode (zcc M) (pc + 1) = .ok (.ifCond .ge off, 3)) (ht : ((pc + 1 : Nat) : Int) + off = (tgt : Int)) (h1 : x ≥ y → zRn M tgt Γ e st σ) (h2 : ¬ (x ≥ y) → zRn M (pc + 4) Γ e st σ) : zRn M pc Γ e ((1, y) :: (1, x) :: st) σ := by
  refine zr_br h1 h2 (fun p l en R s m args below meth c cells slots Q ad b H locs ls hex hb k1 k2 => ?_)
  show W p l en R s m args below meth c H locs cells slots Q (F0 m pc ls (Value.long (Int64.ofInt y) :: Value.long (Int64.ofInt x) :: zsv ad b st))
  have i := (lg_cmp_ge (Int64.ofInt x) (Int64.ofInt y)).trans (z64_le hy hx)
  refine W.lcmp hex hb hd0 ?_
  exact lv_if_ge hex hb hd ht (fun q => k1 (i.mp q)) (fun q => k2 (fun z => q (i.mpr z)))
theorem zr_icmp_gt {x y off : Int} {tgt : Nat} (hx : r32 x) (hy : r32 y) (hd : decode (zcc M) pc = .ok (.if_icmp .gt off, 3)) (ht : (pc : Int) + off = (tgt : Int)) (h1 : x > y → zRn M tgt Γ e st σ) (h2 : ¬ (x > y) → zRn M (pc + 3) Γ e st σ) : zRn M pc Γ e ((0, y) :: (0, x) :: st) σ := by
  refine zr_br h1 h2 (fun p l en R s m args below meth c cells slots Q ad b H locs ls hex hb k1 k2 => ?_)
  show W p l en R s m args below meth c H locs cells slots Q (F0 m pc ls (Value.int (Int32.ofInt y) :: Value.int (Int32.ofInt x) :: zsv ad b st))
  have i := z32_lt hy hx
  exact lv_icmp_gt hex hb hd ht (fun q => k1 (i.mp q)) (fun q => k2 (fun z => q (i.mpr z)))
theorem zr_if_gt {x off : Int} {tgt : Nat} (hx : r32 x) (hd : decode (zcc M) pc = .ok (.ifCond .gt off, 3)) (ht : (pc : Int) + off = (tgt : Int)) (h1 : x > 0 → zRn M tgt Γ e st σ) (h2 : ¬ (x > 0) → zRn M (pc + 3) Γ e st σ) : zRn M pc Γ e ((0, x) :: st) σ := by
  refine zr_br h1 h2 (fun p l en R s m args below meth c cells slots Q ad b H locs ls hex hb k1 k2 => ?_)
  show W p l en R s m args below meth c H locs cells slots Q (F0 m pc ls (Value.int (Int32.ofInt x) :: zsv ad b st))
  have i := z32_lt z32_00 hx
  exact lv_if_gt hex hb hd ht (fun q => k1 (i.mp q)) (fun q => k2 (fun z => q (i.mpr z)))
theorem zr_lcmp_gt {x y off : Int} {tgt : Nat} (hx : r64 x) (hy : r64 y) (hd0 : decode (zcc M) pc = .ok (.lcmp, 1)) (hd : decode (zcc M) (pc + 1) = .ok (.ifCond .gt off, 3)) (ht : ((pc + 1 : Nat) : Int) + off = (tgt : Int)) (h1 : x > y → zRn M tgt Γ e st σ) (h2 : ¬ (x > y) → zRn M (pc + 4) Γ e st σ) : zRn M pc Γ e ((1, y) :: (1, x) :: st) σ := by
  refine zr_br h1 h2 (fun p l en R s m args below meth c cells slots Q ad b H locs ls hex hb k1 k2 => ?_)
  show W p l en R s m args below meth c H locs cells slots Q (F0 m pc ls (Value.long (Int64.ofInt y) :: Value.long (Int64.ofInt x) :: zsv ad b st))
  have i := (lg_cmp_gt (Int64.ofInt x) (Int64.ofInt y)).trans (z64_lt hy hx)
  refine W.lcmp hex hb hd0 ?_
  exact lv_if_gt hex hb hd ht (fun q => k1 (i.mp q)) (fun q => k2 (fun z => q (i.mpr z)))
theorem zr_icmp_le {x y off : Int} {tgt : Nat} (hx : r32 x) (hy : r32 y) (hd : decode (zcc M) pc = .ok (.if_icmp .le off, 3)) (ht : (pc : Int) + off = (tgt : Int)) (h1 : x ≤ y → zRn M tgt Γ e st σ) (h2 : ¬ (x ≤ y) → zRn M (pc + 3) Γ e st σ) : zRn M pc Γ e ((0, y) :: (0, x) :: st) σ := by
  refine zr_br h1 h2 (fun p l en R s m args below meth c cells slots Q ad b H locs ls hex hb k1 k2 => ?_)
  show W p l en R s m args below meth c H locs cells slots Q (F0 m pc ls (Value.int (Int32.ofInt y) :: Value.int (Int32.ofInt x) :: zsv ad b st))
  have i := z32_le hx hy
  exact lv_icmp_le hex hb hd ht (fun q => k1 (i.mp q)) (fun q => k2 (fun z => q (i.mpr z)))
theorem zr_if_le {x off : Int} {tgt : Nat} (hx : r32 x) (hd : decode (zcc M) pc = .ok (.ifCond .le off, 3)) (ht : (pc : Int) + off = (tgt : Int)) (h1 : x ≤ 0 → zRn M tgt Γ e st σ) (h2 : ¬ (x ≤ 0) → zRn M (pc + 3) Γ e st σ) : zRn M pc Γ e ((0, x) :: st) σ := by
  refine zr_br h1 h2 (fun p l en R s m args below meth c cells slots Q ad b H locs ls hex hb k1 k2 => ?_)
  show W p l en R s m args below meth c H locs cells slots Q (F0 m pc ls (Value.int (Int32.ofInt x) :: zsv ad b st))
  have i := z32_le hx z32_00
  exact lv_if_le hex hb hd ht (fun q => k1 (i.mp q)) (fun q => k2 (fun z => q (i.mpr z)))
theorem zr_lcmp_le {x y off : Int} {tgt : Nat} (hx : r64 x) (hy : r64 y) (hd0 : decode (zcc M) pc = .ok (.lcmp, 1)) (hd : decode (zcc M) (pc + 1) = .ok (.ifCond .le off, 3)) (ht : ((pc + 1 : Nat) : Int) + off = (tgt : Int)) (h1 : x ≤ y → zRn M tgt Γ e st σ) (h2 : ¬ (x ≤ y) → zRn M (pc + 4) Γ e st σ) : zRn M pc Γ e ((1, y) :: (1, x) :: st) σ := by
  refine zr_br h1 h2 (fun p l en R s m args below meth c cells slots Q ad b H locs ls hex hb k1 k2 => ?_)
  show W p l en R s m args below meth c H locs cells slots Q (F0 m pc ls (Value.long (Int64.ofInt y) :: Value.long (Int64.ofInt x) :: zsv ad b st))
  have i := (lg_cmp_le (Int64.ofInt x) (Int64.ofInt y)).trans (z64_le hx hy)
  refine W.lcmp hex hb hd0 ?_
  exact lv_if_le hex hb hd ht (fun q => k1 (i.mp q)) (fun q => k2 (fun z => q (i.mpr z)))
end ZR
