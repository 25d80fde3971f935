/-! contracts: from a world σ and arguments xs, what f answers, and the world that f leaves -/
def zVs (ad : Nat → Nat) (b : Nat) (tys : List Nat) (xs : List Int) : List Value := List.zipWith (zV ad b) tys xs
def zOkA : List Nat → List Int → Prop
  | [], [] => True
  | t :: ts, x :: xs => inR t x ∧ zOkA ts xs
  | _, _ => False
abbrev zSc : Type := Option (Nat × (Nat → Int32))
def zPre (D : va_G) (cs : zCs) (ad : Nat → Nat) (b sz : Nat) (ns : List Nat) (sc : zSc) (σ : zHp) : State → Prop := fun U => U.heap.size = sz ∧ va_P D vwCl (zW cs ad σ ns) U.heap ∧ va_K D vwCl (zty cs) U ∧ ∀ (L : Nat) (xs : Nat → Int32), sc = some (L, xs) → L < 2147483648 ∧ va_X b L xs U U.heap ∧ b < U.heap.size ∧ ¬ zA ns ad sz b
def zPost (rt : Nat) (r : Int) (D : va_G) (cs : zCs) (ad : Nat → Nat) (sz : Nat) (ns : List Nat) (τ : zHp) : Array Value → State → Outcome → State → Prop := match rt with
  | 1 => va_Ql (fun v (_ : Unit) => v = Int64.ofInt r) (fun _ t => va_P D vwCl (zW cs ad τ ns) t.heap) (zA ns ad sz)
  | 9 => va_Qv (fun (_ : Unit) => True) (fun _ t => va_P D vwCl (zW cs ad τ ns) t.heap) (zA ns ad sz)
  | _ => va_Qi (fun v (_ : Unit) => v = Int32.ofInt r) (fun _ t => va_P D vwCl (zW cs ad τ ns) t.heap) (zA ns ad sz)
def zmc (σ τ : zHp) : Nat := (zct τ - zct σ).toNat
def zrm (fr lo mc : Nat) : Room := { frames := fr, cells := mc, slots := 16 * mc, locals := lo }
/-- which cells a method wants in its caller's world, and which must not be there -/
def zHas (ns nd ab : List Nat) : Prop := zNs ns ∧ (∀ k ∈ nd, k ∈ ns) ∧ ∀ k ∈ ab, k ∉ ns
def zCon (y : MethodName) (ws : List Cond) (nd ab : List Nat) (sc : zSc) (fr lo : Nat) (tys : List Nat) (rt : Nat) (f : List Int → zHp → Option (Int × zHp)) : Prop :=
  (∀ (xs : List Int) (σ : zHp) (r : Int) (τ : zHp), zOk σ → zOkA tys xs → f xs σ = some (r, τ) → zrr rt r ∧ zOk τ ∧ zct σ ≤ zct τ) ∧
  ∀ (l : Launch) (D : va_G) (cs : zCs) (ad : Nat → Nat) (b sz : Nat) (ns : List Nat) (xs : List Int) (σ : zHp) (r : Int) (τ : zHp), zHas ns nd ab → zInj ns ad → zOk σ → zOkA tys xs → f xs σ = some (r, τ) →
    Met l y ws (zrm fr lo (zmc σ τ)) (va_Pc (zVs ad b tys xs) (zPre D cs ad b sz ns sc σ)) (zPost rt r D cs ad sz ns τ) (zmc σ τ) (16 * zmc σ τ) (zA ns ad sz)
def zrs (rt : Nat) (r : Int) : List (Nat × Int) := match rt with
  | 9 => []
  | t => [(t, r)]
def zsa (tys : List Nat) (xs : List Int) : List (Nat × Int) := (List.zip tys xs).reverse
theorem zVs_zip {ad : Nat → Nat} {b : Nat} : ∀ (tys : List Nat) (xs : List Int), (List.zip tys xs).map (fun q => zV ad b q.1 q.2) = zVs ad b tys xs
  | [], _ => rfl
  | _ :: _, [] => rfl
  | t :: ts, x :: xs => by
    have ih := zVs_zip (ad := ad) (b := b) ts xs
    show zV ad b t x :: (List.zip ts xs).map (fun q => zV ad b q.1 q.2) = zV ad b t x :: zVs ad b ts xs
    rw [ih]
theorem zsv_args {ad : Nat → Nat} {b : Nat} {tys : List Nat} {xs : List Int} {st : List (Nat × Int)} : zsv ad b (zsa tys xs ++ st) = (zVs ad b tys xs).reverse ++ zsv ad b st := by
  unfold zsv zsa
  rw [List.map_append, List.map_reverse, zVs_zip tys xs]
theorem zOkA_len : ∀ {tys : List Nat} {xs : List Int}, zOkA tys xs → xs.length = tys.length
  | [], [], _ => rfl
  | _ :: _, _ :: _, h => by rw [List.length_cons, List.length_cons, zOkA_len h.2]
theorem zVs_len {ad : Nat → Nat} {b : Nat} {tys : List Nat} {xs : List Int} (h : zOkA tys xs) : (zVs ad b tys xs).length = tys.length := by
  unfold zVs
  rw [List.length_zipWith, zOkA_len h, Nat.min_self]
theorem zBlind {D : va_G} {cs : zCs} {ad : Nat → Nat} {b sz : Nat} {ns : List Nat} {sc : zSc} {σ : zHp} {av : List Value} : FrameBlind (va_Pc av (zPre D cs ad b sz ns sc σ)) := fun a U g mk q => by
  obtain ⟨q0, q1, qP, qK, qX⟩ := q
  exact ⟨q0, q1, qP, va_K.moved (u := U) (U := U.calling g mk a) (Vm.Alike.refl U.vm) qK, fun L xs h => ⟨(qX L xs h).1, (qX L xs h).2.1.moved (u := U) (U := U.calling g mk a) (Vm.Alike.refl U.vm), (qX L xs h).2.2⟩⟩
theorem znd_0 {P : Nat → Prop} : ∀ k ∈ ([] : List Nat), P k := fun _ h => absurd h List.not_mem_nil
theorem znd_c {P : Nat → Prop} {k : Nat} {l : List Nat} (h : P k) (h2 : ∀ j ∈ l, P j) : ∀ j ∈ k :: l, P j := fun j hj => (List.mem_cons.mp hj).elim (fun e => e ▸ h) (h2 j)
/-- what a caller says of its world for a callee -/
def zFor (M : zM) (nd ab : List Nat) (sc : zSc) : Prop := (∀ k ∈ nd, k ∈ zns M) ∧ (∀ k ∈ ab, k ∉ zns M) ∧ (sc = none ∨ sc = zsc M)
theorem zf_0 {M : zM} : zFor M [] [] none := ⟨znd_0, znd_0, Or.inl rfl⟩
section ZCALL
variable {M : zM} {Γ : List (Nat × Nat)} {e : List Int} {st : List (Nat × Int)} {σ τ : zHp} {pc : Nat}
variable {y : MethodName} {cc2 : ByteArray} {maxL fr lo rt index n : Nat} {ret : Option FieldType} {ws ws2 : List Cond} {nd ab : List Nat} {sc : zSc} {tys : List Nat} {xs : List Int} {r : Int} {f : List Int → zHp → Option (Int × zHp)}
/-- behind a call -/
theorem z_after {p : Program} {l : Launch} {en : Env} {R : Room} {s : State} {m : MethodId} {args : Array Value} {below : List Frame} {meth : Method} {c : Code} {cells slots mc ms : Nat} {Q : State → Prop} {D : va_G} {cs : zCs} {ad : Nat → Nat} {A : Nat → Prop} {b : Nat} {H : Heap} {locs : List Loc} {ls : Array Slot} {st0 : List Value} {a : Array Value} {ns : List Nat}
    (hrt : rt = 0 ∨ rt = 1 ∨ rt = 4 ∨ rt = 9) (hS : va_S A s.heap H locs) (hF : ∀ q, zA ns ad H.size q → A q)
    (hrun : va_Run p l en R s m args below meth c H locs cells slots mc ms (F0 m pc ls st0) (zsv ad b st) (zPost rt r D cs ad H.size ns τ a) (zA ns ad H.size))
    (kk : ∀ (H1 : Heap) (locs1 : List Loc), va_P D vwCl (zW cs ad τ ns) H1 → va_S A s.heap H1 locs1 → W p l en R s m args below meth c H1 locs1 (cells + mc) (slots + ms) Q (F0 m (pc + 3) ls (zsv ad b (zrs rt r ++ st)))) : W p l en R s m args below meth c H locs cells slots Q (F0 m pc ls st0) := by
  rcases hrt with rfl | rfl | rfl | rfl
  · refine va_calli (post := fun v (_ : Unit) => v = Int32.ofInt r) (B := fun _ t => va_P D vwCl (zW cs ad τ ns) t.heap) (A1 := zA ns ad H.size) (a := a) hrun hS (fun q _ h => hF q h) hF (fun r1 u t H1 locs1 ht hvm hw hB hz hk hS1 => ?_)
    subst hw
    rw [ht] at hB
    exact kk H1 locs1 hB hS1
  · refine va_calll (post := fun v (_ : Unit) => v = Int64.ofInt r) (B := fun _ t => va_P D vwCl (zW cs ad τ ns) t.heap) (A1 := zA ns ad H.size) (a := a) hrun hS (fun q _ h => hF q h) hF (fun r1 u t H1 locs1 ht hvm hw hB hz hk hS1 => ?_)
    subst hw
    rw [ht] at hB
    exact kk H1 locs1 hB hS1
  · refine va_calli (post := fun v (_ : Unit) => v = Int32.ofInt r) (B := fun _ t => va_P D vwCl (zW cs ad τ ns) t.heap) (A1 := zA ns ad H.size) (a := a) hrun hS (fun q _ h => hF q h) hF (fun r1 u t H1 locs1 ht hvm hw hB hz hk hS1 => ?_)
    subst hw
    rw [ht] at hB
    exact kk H1 locs1 hB hS1
  · refine va_callv (post := fun (_ : Unit) => True) (B := fun _ t => va_P D vwCl (zW cs ad τ ns) t.heap) (A1 := zA ns ad H.size) (a := a) hrun hS (fun q _ h => hF q h) hF (fun u t H1 locs1 ht hvm hw hB hz hk hS1 => ?_)
    rw [ht] at hB
    exact kk H1 locs1 hB hS1
/-- what a call wants of the state, and the room behind it -/
theorem z_call {p : Program} {R : Room} {s : State} {m : MethodId} {args : Array Value} {c : Code} {cells slots : Nat} {D : va_G} {cs : zCs} {ad : Nat → Nat} {A : Nat → Prop} {b : Nat} {H : Heap} {locs : List Loc}
    (K : zKx M p R s m args c D cs ad A b) (hu : zFor M nd ab sc) (hm : zct σ ≤ zct τ) (hle : zct τ ≤ zcp M) (hcc : zRom M R cells slots σ) (hP : va_P D vwCl (zW cs ad σ (zns M)) H) (hS : va_S A s.heap H locs) :
    zHas (zns M) nd ab ∧ (∀ q, zA (zns M) ad H.size q → A q) ∧ (cells + zmc σ τ ≤ R.cells ∧ slots + 16 * zmc σ τ ≤ R.slots) ∧ zRom M R (cells + zmc σ τ) (slots + 16 * zmc σ τ) τ ∧
    ∀ (U : State), U.heap = H → s.vm.Alike U.vm → zPre D cs ad b H.size (zns M) sc σ U := by
  unfold zRom at hcc ⊢
  have e1 : ((zmc σ τ : Nat) : Int) = zct τ - zct σ := by unfold zmc; omega
  refine ⟨⟨K.2.2.2.2.2.2.2.2.2.2.2.2.1, hu.1, hu.2.1⟩, ?_, by omega, by omega, ?_⟩
  · rintro q (⟨i, hi, rfl⟩ | h)
    · exact K.2.2.2.2.2.2.2.1 i hi
    · exact K.2.2.2.2.2.2.2.2.1 q (Nat.le_trans hS.1 h)
  · intro U hU hW
    refine ⟨by rw [hU], by rw [hU]; exact hP, va_K.moved hW K.2.2.2.2.2.1, fun L xs h => ?_⟩
    rcases hu.2.2 with h0 | h0
    · rw [h0] at h; cases h
    · obtain ⟨hL, hX, hbl, hbA⟩ := K.2.2.2.2.2.2.2.2.2.2.2.1 L xs (h0.symm.trans h)
      refine ⟨hL, ?_, ?_, ?_⟩
      · rw [hU]
        exact (hX.kept (hS.2.1 b hbl hbA)).moved hW
      · rw [hU]; exact Nat.lt_of_lt_of_le hbl hS.1
      · rintro (⟨i, hi, rfl⟩ | h2)
        · exact hbA (K.2.2.2.2.2.2.2.1 i hi)
        · exact absurd (Nat.lt_of_lt_of_le hbl hS.1) (Nat.not_lt.mpr h2)
theorem zr_callS (hc : zCon y ws nd ab sc fr lo tys rt f) (hu : zFor M nd ab sc) (hrt : rt = 0 ∨ rt = 1 ∨ rt = 4 ∨ rt = 9) (ho : zOk σ) (hxa : zOkA tys xs) (hf : f xs σ = some (r, τ)) (hws : ws = Cond.code y cc2 maxL ret :: ws2) (hG : GoodIn (zTs M) (va_wsS (zown M) index y ws)) (hn : tys.length = n)
    (hy : y.cls ≠ "java/lang/invoke/MethodHandle" ∧ y.cls ≠ "java/lang/invoke/VarHandle" ∧ (parseMethodDescriptor y.desc).map (fun d => d.parameters.length) = some n) (hR : fr + 1 ≤ zfr M ∧ 8 + (maxL + 11) + lo ≤ zlo M) (hwt : zwt st ≤ 8) (hd : decode (zcc M) pc = .ok (.invokestatic index, 3))
    (kn : zRn M (pc + 3) Γ e (zrs rt r ++ st) τ) : zRn M pc Γ e (zsa tys xs ++ st) σ := by
  obtain ⟨hrr, hot, hmo⟩ := hc.1 xs σ r τ ho hxa hf
  refine ⟨Int.le_trans hmo kn.1, ?_⟩
  intro p l en R s m args below meth c cells slots Q D cs ad A b H locs ls K hcc hr _ hP hS hl
  obtain ⟨hHas, hF, hce, hro, hpre⟩ := z_call K hu hmo kn.1 hcc hP hS
  have hM := hc.2 l D cs ad b H.size (zns M) xs σ r τ hHas K.2.2.2.2.2.2.1 ho hxa hf
  refine z_after (st := st) (b := b) hrt hS hF (va_runS (As := zVs ad b tys xs) (n := n) (nL := znl M) (Ts := zTs M) (own := zown M) ⟨K.1, K.2.1, K.2.2.1, K.2.2.2.1, K.2.2.2.2.1⟩ hM (va_cwS n K.2.2.2.2.1 hG hws rfl rfl hy ⟨Nat.le_trans hR.1 K.2.2.2.2.2.2.2.2.2.1, Nat.le_trans hR.2 K.2.2.2.2.2.2.2.2.2.2.1⟩) ⟨zBlind, fun U hU hW => ⟨rfl, hpre U hU hW.alike⟩⟩ rfl ((zVs_len hxa).trans hn) hl.1 zsv_args (lv_room (by rw [zsv_cat]; exact hwt)) hd hce) (fun H1 locs1 hP1 hS1 => ?_)
  exact kn.2 p l en R s m args below meth c _ _ Q D cs ad A b H1 locs1 ls K hro hr hot hP1 hS1 hl
theorem zr_callV {t : Nat} {x : Int} {C : String} {T : u_T} {N : Nat} (hc : zCon y ws nd ab sc fr lo (t :: tys) rt f) (hu : zFor M nd ab sc) (hrt : rt = 0 ∨ rt = 1 ∨ rt = 4 ∨ rt = 9) (ho : zOk σ) (ht : 5 ≤ t) (h7 : t ≤ 7 ∨ 10 ≤ t) (hxa : zOkA (t :: tys) (x :: xs)) (hcl : vwCl[zcl t]? = some (C, T, N)) (hf : f (x :: xs) σ = some (r, τ)) (hws : ws = Cond.code y cc2 maxL ret :: ws2) (hG : GoodIn (zTs M) (wsV (zown M) index C y ws)) (hn : tys.length = n)
    (hy : y.cls = C ∧ y.cls ≠ "java/lang/invoke/MethodHandle" ∧ y.cls ≠ "java/lang/invoke/VarHandle" ∧ (parseMethodDescriptor y.desc).map (fun d => d.parameters.length) = some n) (hR : fr + 1 ≤ zfr M ∧ 8 + (maxL + 11) + lo ≤ zlo M) (hwt : zwt st ≤ 8) (hd : decode (zcc M) pc = .ok (.invokevirtual index, 3))
    (kn : zRn M (pc + 3) Γ e (zrs rt r ++ st) τ) : zRn M pc Γ e (zsa (t :: tys) (x :: xs) ++ st) σ := by
  obtain ⟨hrr, hot, hmo⟩ := hc.1 (x :: xs) σ r τ ho hxa hf
  refine ⟨Int.le_trans hmo kn.1, ?_⟩
  intro p l en R s m args below meth c cells slots Q D cs ad A b H locs ls K hcc hr _ hP hS hl
  obtain ⟨hHas, hF, hce, hro, hpre⟩ := z_call K hu hmo kn.1 hcc hP hS
  have hM := hc.2 l D cs ad b H.size (zns M) (x :: xs) σ r τ hHas K.2.2.2.2.2.2.1 ho hxa hf
  obtain ⟨o, h1, rfl, h4, h5⟩ := zcl_ok ht h7 hxa.1
  have hz := zcl_lt hcl
  have hg := zW_get cs ad σ (ns := zns M) (K.2.2.2.2.2.2.2.2.2.2.2.2.1.2 o (zoc_37 (by omega)))
  rw [zcell_o (by omega), h4] at hg
  have hv : zVs ad b (t :: tys) ((o : Int) :: xs) = Value.ref (ad o) :: zVs ad b tys xs := by
    show zV ad b t o :: zVs ad b tys xs = _
    rw [zV_ref ht]
    rfl
  have hst : zsv ad b (zsa (t :: tys) ((o : Int) :: xs) ++ st) = (zVs ad b tys xs).reverse ++ Value.ref (ad o) :: zsv ad b st := by
    rw [zsv_args, hv, List.reverse_cons, List.append_assoc]
    rfl
  rw [hv] at hM
  refine z_after (st := st) (b := b) hrt hS hF (va_runV (As := zVs ad b tys xs) (n := n) (b := ad o) (C := C) (nL := znl M) (Ts := zTs M) (own := zown M) ⟨K.1, K.2.1, K.2.2.1, K.2.2.2.1, K.2.2.2.2.1⟩ hM (cwV n K.2.2.2.2.1 hG hws rfl rfl hy ⟨Nat.le_trans hR.1 K.2.2.2.2.2.2.2.2.2.1, Nat.le_trans hR.2 K.2.2.2.2.2.2.2.2.2.2.1⟩) ⟨zBlind, va_recv K.2.2.2.2.2.1 hP hcl hg, fun U hU hW => ⟨rfl, hpre U hU hW.alike⟩⟩ rfl ((zVs_len hxa.2).trans hn) hl.1 hst (lv_room (by rw [zsv_cat]; exact hwt)) hd hce) (fun H1 locs1 hP1 hS1 => ?_)
  exact kn.2 p l en R s m args below meth c _ _ Q D cs ad A b H1 locs1 ls K hro hr hot hP1 hS1 hl
end ZCALL
def zsl : Nat → List Nat → List (Nat × Nat)
  | _, [] => []
  | i, t :: ts => (i, t) :: zsl (i + zcat t) ts
def zlay : List Nat → List Int → List Int
  | t :: ts, x :: xs => if zcat t = 2 then x :: 0 :: zlay ts xs else x :: zlay ts xs
  | _, _ => []
def zpad (nL : Nat) (tys : List Nat) (xs : List Int) : List Int := zlay tys xs ++ List.replicate (nL - (tys.map zcat).sum) 0
theorem zcat_12 (t : Nat) : zcat t = 1 ∨ zcat t = 2 := by
  unfold zcat
  split <;> simp
theorem zlay_len : ∀ {tys : List Nat} {xs : List Int}, zOkA tys xs → (zlay tys xs).length = (tys.map zcat).sum
  | [], [], _ => rfl
  | t :: ts, x :: xs, h => by
    have ih := zlay_len h.2
    rcases zcat_12 t with q | q
    · simp [zlay, q, ih]; omega
    · simp [zlay, q, ih]; omega
theorem zg_app {pre l : List Int} {x : Int} : zg (pre ++ x :: l) pre.length = x := by
  simp [zg]
theorem zargs_eq {ad : Nat → Nat} {b : Nat} : ∀ {tys : List Nat} {xs : List Int} (pre tl : List Int), zOkA tys xs → lv_args pre.length (zVs ad b tys xs) = zLs ad b (zsl pre.length tys) (pre ++ zlay tys xs ++ tl) ∧ ∀ q ∈ zsl pre.length tys, inR q.2 (zg (pre ++ zlay tys xs ++ tl) q.1)
  | [], [], pre, tl, _ => ⟨rfl, fun _ h => absurd h List.not_mem_nil⟩
  | t :: ts, x :: xs, pre, tl, h => by
    rcases zcat_12 t with q | q
    · have e0 : pre ++ zlay (t :: ts) (x :: xs) ++ tl = (pre ++ [x]) ++ zlay ts xs ++ tl := by simp [zlay, q]
      have el : (pre ++ [x]).length = pre.length + 1 := by simp
      obtain ⟨i1, i2⟩ := zargs_eq (ad := ad) (b := b) (tys := ts) (xs := xs) (pre ++ [x]) tl h.2
      rw [el] at i1 i2
      have eg : zg ((pre ++ [x]) ++ zlay ts xs ++ tl) pre.length = x := by
        rw [List.append_assoc, List.append_assoc]; exact zg_app
      rw [e0]
      constructor
      · show (pre.length, zV ad b t x) :: lv_args (if (zV ad b t x).category = 2 then pre.length + 2 else pre.length + 1) (zVs ad b ts xs) = (pre.length, zV ad b t (zg _ pre.length)) :: zLs ad b (zsl (pre.length + zcat t) ts) _
        rw [zV_cat, q, if_neg (by omega), i1, eg]
      · intro z hz
        rcases List.mem_cons.mp hz with rfl | hz
        · show inR t (zg _ pre.length)
          rw [eg]; exact h.1
        · rw [q] at hz
          exact i2 z hz
    · have e0 : pre ++ zlay (t :: ts) (x :: xs) ++ tl = (pre ++ [x, 0]) ++ zlay ts xs ++ tl := by simp [zlay, q]
      have el : (pre ++ [x, 0]).length = pre.length + 2 := by simp
      obtain ⟨i1, i2⟩ := zargs_eq (ad := ad) (b := b) (tys := ts) (xs := xs) (pre ++ [x, 0]) tl h.2
      rw [el] at i1 i2
      have eg : zg ((pre ++ [x, 0]) ++ zlay ts xs ++ tl) pre.length = x := by
        rw [List.append_assoc, List.append_assoc]; exact zg_app
      rw [e0]
      constructor
      · show (pre.length, zV ad b t x) :: lv_args (if (zV ad b t x).category = 2 then pre.length + 2 else pre.length + 1) (zVs ad b ts xs) = (pre.length, zV ad b t (zg _ pre.length)) :: zLs ad b (zsl (pre.length + zcat t) ts) _
        rw [zV_cat, q, if_pos rfl, i1, eg]
      · intro z hz
        rcases List.mem_cons.mp hz with rfl | hz
        · show inR t (zg _ pre.length)
          rw [eg]; exact h.1
        · rw [q] at hz
          exact i2 z hz
theorem zsl_len {ad : Nat → Nat} {b : Nat} : ∀ {tys : List Nat} {xs : List Int}, zOkA tys xs → (lg_sl (zVs ad b tys xs)).length = (tys.map zcat).sum
  | [], [], _ => rfl
  | t :: ts, x :: xs, h => by
    have ih := zsl_len (ad := ad) (b := b) h.2
    have e : lg_sl (zVs ad b (t :: ts) (x :: xs)) = (if (zV ad b t x).category = 2 then [.val (zV ad b t x), .second] else [.val (zV ad b t x)]) ++ lg_sl (zVs ad b ts xs) := rfl
    rw [e, List.length_append, ih, zV_cat]
    rcases zcat_12 t with q | q
    · rw [if_neg (by omega)]; simp [q]
    · rw [if_pos q]; simp [q]
abbrev zS : Type := List Int → zHp → Option (Nat × List Int × zHp)
/-- a statement from pc a on (kind 0: on at b; 1: an answer; 2, 3: out, on with the next round) -/
def zSt (M : zM) (Γ : List (Nat × Nat)) (a b : Nat) (Γ2 : List (Nat × Nat)) (X : Nat → Nat × List (Nat × Nat)) (g : zS) : Prop :=
  ∀ (e : List Int) (σ : zHp) (t : Nat) (e2 : List Int) (τ : zHp), zOk σ → zE M Γ e → g e σ = some (t, e2, τ) →
    zOk τ ∧ (t = 0 → zE M Γ2 e2 ∧ (zRn M b Γ2 e2 [] τ → zRn M a Γ e [] σ)) ∧ (t = 1 → zrr (zrt M) (zg e2 0) ∧ (zpo M (zg e2 0) τ ∧ zct τ ≤ zcp M → zRn M a Γ e [] σ)) ∧ (2 ≤ t → zE M (X t).2 e2 ∧ (zRn M (X t).1 (X t).2 e2 [] τ → zRn M a Γ e [] σ))
def zRun (nL : Nat) (tys : List Nat) (d : zS) : List Int → zHp → Option (Int × zHp) := fun xs σ => (d (zpad nL tys xs) σ).bind fun q => if q.1 = 1 then some (zg q.2.1 0, q.2.2) else none
theorem zMk {y : MethodName} {own : String} {cc : ByteArray} {nL fr lo rt b : Nat} {ret : Option FieldType} {ws ws2 : List Cond} {nd ab : List Nat} {sc : zSc} {tys : List Nat} {d : zS} {Γ2 : List (Nat × Nat)} {X : Nat → Nat × List (Nat × Nat)} (hy : plainName y.cls = true) (hw : ws = Cond.code y cc nL ret :: ws2) (hown : y.cls = own) (hlen : (tys.map zcat).sum ≤ nL)
    (hret : rt = 0 ∧ ret = some .int ∨ rt = 1 ∧ ret = some .long ∨ rt = 4 ∧ ret = some .boolean ∨ rt = 9 ∧ ret = none)
    (hex : ∃ ns, zHas ns nd ab)
    (hS : ∀ (P : Int → zHp → Prop) (cp : Int) (ns : List Nat), zHas ns nd ab → zSt (own, cc, nL, ws, fr, lo, sc, rt, ns, ns, cp, P) (zsl 0 tys) 0 b Γ2 X d) : zCon y ws nd ab sc fr lo tys rt (zRun nL tys d) := by
  have key : ∀ (ns : List Nat) (xs : List Int) (σ : zHp) (r : Int) (τ : zHp), zHas ns nd ab → zOk σ → zOkA tys xs → zRun nL tys d xs σ = some (r, τ) → (zrr rt r ∧ zOk τ) ∧ zRn (own, cc, nL, ws, fr, lo, sc, rt, ns, ns, zct τ, fun v τ' => v = r ∧ τ' = τ) 0 (zsl 0 tys) (zpad nL tys xs) [] σ := by
    intro ns xs σ r τ hh ho hxa hf
    obtain ⟨⟨t, e2, τ2⟩, h1, h2⟩ := Option.bind_eq_some_iff.mp hf
    dsimp only at h2
    by_cases ht : t = 1
    case neg => rw [if_neg ht] at h2; cases h2
    subst ht
    rw [if_pos rfl] at h2
    cases h2
    obtain ⟨hz1, hz2⟩ := zargs_eq (ad := fun i => i) (b := 0) (tys := tys) (xs := xs) [] (List.replicate (nL - (tys.map zcat).sum) 0) hxa
    have hE : zE (own, cc, nL, ws, fr, lo, sc, rt, ns, ns, zct τ, fun v τ' => v = zg e2 0 ∧ τ' = τ) (zsl 0 tys) (zpad nL tys xs) := by
      refine ⟨?_, hz2⟩
      show (zpad nL tys xs).length = nL
      unfold zpad
      rw [List.length_append, zlay_len hxa, List.length_replicate]
      omega
    obtain ⟨hot, -, hs1, -⟩ := hS (fun v τ' => v = zg e2 0 ∧ τ' = τ) (zct τ) ns hh (zpad nL tys xs) σ 1 e2 τ ho hE h1
    obtain ⟨hrr, hRn⟩ := hs1 rfl
    exact ⟨⟨hrr, hot⟩, hRn ⟨⟨rfl, rfl⟩, Int.le_refl _⟩⟩
  refine ⟨fun xs σ r τ ho hxa hf => ?_, ?_⟩
  · obtain ⟨ns, hh⟩ := hex
    have h := key ns xs σ r τ hh ho hxa hf
    exact ⟨h.1.1, h.1.2, h.2.1⟩
  intro l D cs ad bb sz ns xs σ r τ hh hinj ho hxa hf
  obtain ⟨⟨hrr, hot⟩, hRn⟩ := key ns xs σ r τ hh ho hxa hf
  have hmo : zct σ ≤ zct τ := hRn.1
  obtain ⟨hz1, -⟩ := zargs_eq (ad := ad) (b := bb) (tys := tys) (xs := xs) [] (List.replicate (nL - (tys.map zcat).sum) 0) hxa
  refine Met.ofW (cc := cc) (maxL := nL) (ret := ret) hy hw ?_
  intro p en s m args below meth c s₁ B hml hv
  obtain ⟨rfl, hsz, hP, hK, hX⟩ := hv
  have hr := B.returns
  have hlocks := B.notSynchronized
  have hx := B.exec
  have hb := B.bytes
  have hl := lv_entry (zVs ad bb tys xs) (n := nL) (by rw [zsl_len hxa]; exact hlen)
  rw [lg_entry_eq]
  generalize (lg_sl (zVs ad bb tys xs) ++ List.replicate (nL - (lg_sl (zVs ad bb tys xs)).length) Slot.unset).toArray = ls at hl ⊢
  subst hsz
  have hl2 : lv_has ls nL (zLs ad bb (zsl 0 tys) (zpad nL tys xs)) := by
    have : lv_args 0 (zVs ad bb tys xs) = zLs ad bb (zsl 0 tys) (zpad nL tys xs) := hz1
    rw [← this]; exact hl
  have em : ((zmc σ τ : Nat) : Int) = zct τ - zct σ := by unfold zmc; omega
  refine hRn.2 p l en _ s m _ below meth c 0 0 _ D cs ad (zA ns ad s.heap.size) bb s.heap [] ls ⟨B.exec, B.bytes, hml, hown ▸ findClass_of_methodNamed B.named, atoms_spec (ws := ws) B.pre, hK, hinj, fun i hi => Or.inl ⟨i, hi, rfl⟩, fun q h => Or.inr h, Nat.le_refl fr, Nat.le_refl lo, hX, hh.1, fun k hk => hk⟩ ⟨by show ((0 : Nat) : Int) + (zct τ - zct σ) ≤ ((zmc σ τ : Nat) : Int); omega, by show ((0 : Nat) : Int) + 16 * (zct τ - zct σ) ≤ ((16 * zmc σ τ : Nat) : Int); omega⟩ ?_ ho hP va_S.rf hl2
  intro v τ' H locs ls pc cells slots hpo hrr' hot' _ hro hP' hS' hri
  obtain ⟨e1, e2⟩ := hpo
  rw [e1]
  rw [e2] at hP' hro
  obtain ⟨r1, r2⟩ := hro
  have r1 : (cells : Int) + (zct τ - zct τ) ≤ ((zmc σ τ : Nat) : Int) := r1
  have r2 : (slots : Int) + 16 * (zct τ - zct τ) ≤ ((16 * zmc σ τ : Nat) : Int) := r2
  refine W.widen (k := zmc σ τ) (n := 16 * zmc σ τ) (by omega) (by omega) ?_
  rcases hret with ⟨rfl, rfl⟩ | ⟨rfl, rfl⟩ | ⟨rfl, rfl⟩ | ⟨rfl, rfl⟩
  · exact W.iret (v := Int32.ofInt r) hx hb hr (fun t ht hW => ⟨⟨_, (), rfl, rfl, by show va_P D vwCl (zW cs ad τ ns) t.heap; rw [ht]; exact hP'⟩, hS'.F ht⟩) hS'.2.2 hri
  · exact W.lret (v := Int64.ofInt r) hx hb hr (fun t ht hW => ⟨⟨_, (), rfl, rfl, by show va_P D vwCl (zW cs ad τ ns) t.heap; rw [ht]; exact hP'⟩, hS'.F ht⟩) hS'.2.2 hri
  · have hn : narrow .boolean (.int (Int32.ofInt r)) = .int (Int32.ofInt r) := by
      rcases hrr with h | h | h
      · cases h
      · rw [h]; decide +kernel
      · rw [h]; decide +kernel
    exact W.zret (v := Int32.ofInt r) hx hb hr hn (fun t ht hW => ⟨⟨_, (), rfl, rfl, by show va_P D vwCl (zW cs ad τ ns) t.heap; rw [ht]; exact hP'⟩, hS'.F ht⟩) hS'.2.2 hri
  · exact W.vret hx hb hr (fun t ht hW => ⟨⟨(), rfl, trivial, by show va_P D vwCl (zW cs ad τ ns) t.heap; rw [ht]; exact hP'⟩, hS'.F ht⟩) hS'.2.2 hri
theorem zex_0 : ∃ ns, zHas ns [] [] := ⟨List.range 37, ⟨by decide +kernel, fun o h => List.mem_range.mpr h⟩, znd_0, znd_0⟩
