/-! contracts: from a world σ and arguments xs, what f answers, and the world that f leaves -/
def zVs (ad : Nat → Nat) (tys : List Nat) (xs : List Int) : List Value := List.zipWith (zV ad 0) tys xs
def zOkA : List Nat → List Int → Prop
  | [], [] => True
  | t :: ts, x :: xs => inR t x ∧ zOkA ts xs
  | _, _ => False
def zPre (D : va_G) (cs : zCs) (ad : Nat → Nat) (sz : Nat) (σ : zHp) : State → Prop := fun U => U.heap.size = sz ∧ va_P D vwCl (zW cs ad σ) U.heap ∧ va_K D vwCl (zty cs) U
def zPost (rt : Nat) (r : Int) (D : va_G) (cs : zCs) (ad : Nat → Nat) (sz : Nat) (τ : zHp) : Array Value → State → Outcome → State → Prop := match rt with
  | 1 => va_Ql (fun v (_ : Unit) => v = Int64.ofInt r) (fun _ t => va_P D vwCl (zW cs ad τ) t.heap) (zA ad sz)
  | 9 => va_Qv (fun (_ : Unit) => True) (fun _ t => va_P D vwCl (zW cs ad τ) t.heap) (zA ad sz)
  | _ => va_Qi (fun v (_ : Unit) => v = Int32.ofInt r) (fun _ t => va_P D vwCl (zW cs ad τ) t.heap) (zA ad sz)
def zrm (fr lo : Nat) : Room := { frames := fr, cells := 0, slots := 0, locals := lo }
def zCon (y : MethodName) (ws : List Cond) (fr lo : Nat) (tys : List Nat) (rt : Nat) (f : List Int → zHp → Option (Int × zHp)) : Prop :=
  (∀ (xs : List Int) (σ : zHp) (r : Int) (τ : zHp), zOk σ → zOkA tys xs → f xs σ = some (r, τ) → zrr rt r ∧ zOk τ) ∧
  ∀ (l : Launch) (D : va_G) (cs : zCs) (ad : Nat → Nat) (sz : Nat) (xs : List Int) (σ : zHp) (r : Int) (τ : zHp), zInj ad → zOk σ → zOkA tys xs → f xs σ = some (r, τ) →
    Met l y ws (zrm fr lo) (va_Pc (zVs ad tys xs) (zPre D cs ad sz σ)) (zPost rt r D cs ad sz τ) 0 0 (zA ad sz)
def zrs (rt : Nat) (r : Int) : List (Nat × Int) := match rt with
  | 9 => []
  | t => [(t, r)]
def zsa (tys : List Nat) (xs : List Int) : List (Nat × Int) := (List.zip tys xs).reverse
theorem zV_b {ad : Nat → Nat} {b t : Nat} {x : Int} (h : ¬ t = 3) : zV ad b t x = zV ad 0 t x := by
  unfold zV
  split <;> first | rfl | exact absurd rfl h
theorem zVs_zip {ad : Nat → Nat} {b : Nat} : ∀ (tys : List Nat) (xs : List Int), 3 ∉ tys → (List.zip tys xs).map (fun q => zV ad b q.1 q.2) = zVs ad tys xs
  | [], _, _ => rfl
  | _ :: _, [], _ => rfl
  | t :: ts, x :: xs, h => by
    have ih := zVs_zip (ad := ad) (b := b) ts xs (fun q => h (List.mem_cons_of_mem _ q))
    have ht : ¬ t = 3 := fun q => h (by rw [q]; exact List.mem_cons_self)
    show zV ad b t x :: (List.zip ts xs).map (fun q => zV ad b q.1 q.2) = zV ad 0 t x :: zVs ad ts xs
    rw [ih, zV_b ht]
theorem zsv_args {ad : Nat → Nat} {b : Nat} {tys : List Nat} {xs : List Int} {st : List (Nat × Int)} (h : 3 ∉ tys) : zsv ad b (zsa tys xs ++ st) = (zVs ad tys xs).reverse ++ zsv ad b st := by
  unfold zsv zsa
  rw [List.map_append, List.map_reverse, zVs_zip tys xs h]
theorem zOkA_len : ∀ {tys : List Nat} {xs : List Int}, zOkA tys xs → xs.length = tys.length
  | [], [], _ => rfl
  | _ :: _, _ :: _, h => by rw [List.length_cons, List.length_cons, zOkA_len h.2]
theorem zVs_len {ad : Nat → Nat} {tys : List Nat} {xs : List Int} (h : zOkA tys xs) : (zVs ad tys xs).length = tys.length := by
  unfold zVs
  rw [List.length_zipWith, zOkA_len h, Nat.min_self]
theorem zBlind {D : va_G} {cs : zCs} {ad : Nat → Nat} {sz : Nat} {σ : zHp} {av : List Value} : FrameBlind (va_Pc av (zPre D cs ad sz σ)) := fun a U g mk q => by
  obtain ⟨q0, q1, qP, qK⟩ := q
  exact ⟨q0, q1, qP, va_K.moved (u := U) (U := U.calling g mk a) (Vm.Alike.refl U.vm) qK⟩
section ZCALL
variable {M : zM} {Γ : List (Nat × Nat)} {e : List Int} {st : List (Nat × Int)} {σ τ : zHp} {pc : Nat}
variable {y : MethodName} {cc2 : ByteArray} {maxL fr lo rt index n : Nat} {ret : Option FieldType} {ws ws2 : List Cond} {tys : List Nat} {xs : List Int} {r : Int} {f : List Int → zHp → Option (Int × zHp)}
/-- behind a call -/
theorem z_after {p : Program} {l : Launch} {en : Env} {R : Room} {s : State} {m : MethodId} {args : Array Value} {below : List Frame} {meth : Method} {c : Code} {cells slots : Nat} {Q : State → Prop} {D : va_G} {cs : zCs} {ad : Nat → Nat} {A : Nat → Prop} {b : Nat} {H : Heap} {locs : List Loc} {ls : Array Slot} {st0 : List Value} {a : Array Value}
    (hrt : rt = 0 ∨ rt = 1 ∨ rt = 4 ∨ rt = 9) (hS : va_S A s.heap H locs) (hF : ∀ q, zA ad H.size q → A q)
    (hrun : va_Run p l en R s m args below meth c H locs cells slots 0 0 (F0 m pc ls st0) (zsv ad b st) (zPost rt r D cs ad H.size τ a) (zA ad H.size))
    (kk : ∀ (H1 : Heap) (locs1 : List Loc), va_P D vwCl (zW cs ad τ) H1 → va_S A s.heap H1 locs1 → W p l en R s m args below meth c H1 locs1 cells slots Q (F0 m (pc + 3) ls (zsv ad b (zrs rt r ++ st)))) : W p l en R s m args below meth c H locs cells slots Q (F0 m pc ls st0) := by
  rcases hrt with rfl | rfl | rfl | rfl
  · refine va_calli (post := fun v (_ : Unit) => v = Int32.ofInt r) (B := fun _ t => va_P D vwCl (zW cs ad τ) t.heap) (A1 := zA ad H.size) (a := a) hrun hS (fun q _ h => hF q h) hF (fun r1 u t H1 locs1 ht hvm hw hB hz hk hS1 => ?_)
    subst hw
    rw [ht] at hB
    exact kk H1 locs1 hB hS1
  · refine va_calll (post := fun v (_ : Unit) => v = Int64.ofInt r) (B := fun _ t => va_P D vwCl (zW cs ad τ) t.heap) (A1 := zA ad H.size) (a := a) hrun hS (fun q _ h => hF q h) hF (fun r1 u t H1 locs1 ht hvm hw hB hz hk hS1 => ?_)
    subst hw
    rw [ht] at hB
    exact kk H1 locs1 hB hS1
  · refine va_calli (post := fun v (_ : Unit) => v = Int32.ofInt r) (B := fun _ t => va_P D vwCl (zW cs ad τ) t.heap) (A1 := zA ad H.size) (a := a) hrun hS (fun q _ h => hF q h) hF (fun r1 u t H1 locs1 ht hvm hw hB hz hk hS1 => ?_)
    subst hw
    rw [ht] at hB
    exact kk H1 locs1 hB hS1
  · refine va_callv (post := fun (_ : Unit) => True) (B := fun _ t => va_P D vwCl (zW cs ad τ) t.heap) (A1 := zA ad H.size) (a := a) hrun hS (fun q _ h => hF q h) hF (fun u t H1 locs1 ht hvm hw hB hz hk hS1 => ?_)
    rw [ht] at hB
    exact kk H1 locs1 hB hS1
theorem zr_callS (hc : zCon y ws fr lo tys rt f) (hrt : rt = 0 ∨ rt = 1 ∨ rt = 4 ∨ rt = 9) (ho : zOk σ) (hxa : zOkA tys xs) (h3 : 3 ∉ tys) (hf : f xs σ = some (r, τ)) (hws : ws = Cond.code y cc2 maxL ret :: ws2) (hG : GoodIn (zTs M) (va_wsS (zown M) index y ws)) (hn : tys.length = n)
    (hy : y.cls ≠ "java/lang/invoke/MethodHandle" ∧ y.cls ≠ "java/lang/invoke/VarHandle" ∧ (parseMethodDescriptor y.desc).map (fun d => d.parameters.length) = some n) (hR : fr + 1 ≤ zfr M ∧ 8 + (maxL + 11) + lo ≤ zlo M) (hwt : zwt st ≤ 8) (hd : decode (zcc M) pc = .ok (.invokestatic index, 3))
    (kn : zRn M (pc + 3) Γ e (zrs rt r ++ st) τ) : zRn M pc Γ e (zsa tys xs ++ st) σ := by
  intro p l en R s m args below meth c cells slots Q D cs ad A b H locs ls K hcc hr _ hP hS hl
  obtain ⟨hrr, hot⟩ := hc.1 xs σ r τ ho hxa hf
  have hM := hc.2 l D cs ad H.size xs σ r τ K.2.2.2.2.2.2.1 ho hxa hf
  have hF : ∀ q, zA ad H.size q → A q := by
    rintro q (⟨i, hi, rfl⟩ | h)
    · exact K.2.2.2.2.2.2.2.1 i hi
    · exact K.2.2.2.2.2.2.2.2.1 q (Nat.le_trans hS.1 h)
  refine z_after (st := st) (b := b) hrt hS hF (va_runS (As := zVs ad tys xs) (n := n) (nL := znl M) (Ts := zTs M) (own := zown M) ⟨K.1, K.2.1, K.2.2.1, K.2.2.2.1, K.2.2.2.2.1⟩ hM (va_cwS n K.2.2.2.2.1 hG hws rfl rfl hy ⟨Nat.le_trans hR.1 K.2.2.2.2.2.2.2.2.2.1, Nat.le_trans hR.2 K.2.2.2.2.2.2.2.2.2.2.1⟩) ⟨zBlind, fun U hU hW => ⟨rfl, by rw [hU], by rw [hU]; exact hP, va_K.moved hW.alike K.2.2.2.2.2.1⟩⟩ rfl ((zVs_len hxa).trans hn) hl.1 (zsv_args h3) (lv_room (by rw [zsv_cat]; exact hwt)) hd hcc) (fun H1 locs1 hP1 hS1 => ?_)
  exact kn p l en R s m args below meth c cells slots Q D cs ad A b H1 locs1 ls K hcc hr hot hP1 hS1 hl
theorem zr_callV {t : Nat} {x : Int} {C : String} {T : u_T} {N : Nat} (hc : zCon y ws fr lo (t :: tys) rt f) (hrt : rt = 0 ∨ rt = 1 ∨ rt = 4 ∨ rt = 9) (ho : zOk σ) (ht : 5 ≤ t) (h7 : t ≤ 7 ∨ 10 ≤ t) (hxa : zOkA (t :: tys) (x :: xs)) (h3 : 3 ∉ (t :: tys)) (hcl : vwCl[zcl t]? = some (C, T, N)) (hf : f (x :: xs) σ = some (r, τ)) (hws : ws = Cond.code y cc2 maxL ret :: ws2) (hG : GoodIn (zTs M) (wsV (zown M) index C y ws)) (hn : tys.length = n)
    (hy : y.cls = C ∧ y.cls ≠ "java/lang/invoke/MethodHandle" ∧ y.cls ≠ "java/lang/invoke/VarHandle" ∧ (parseMethodDescriptor y.desc).map (fun d => d.parameters.length) = some n) (hR : fr + 1 ≤ zfr M ∧ 8 + (maxL + 11) + lo ≤ zlo M) (hwt : zwt st ≤ 8) (hd : decode (zcc M) pc = .ok (.invokevirtual index, 3))
    (kn : zRn M (pc + 3) Γ e (zrs rt r ++ st) τ) : zRn M pc Γ e (zsa (t :: tys) (x :: xs) ++ st) σ := by
  intro p l en R s m args below meth c cells slots Q D cs ad A b H locs ls K hcc hr _ hP hS hl
  obtain ⟨hrr, hot⟩ := hc.1 (x :: xs) σ r τ ho hxa hf
  have hM := hc.2 l D cs ad H.size (x :: xs) σ r τ K.2.2.2.2.2.2.1 ho hxa hf
  have hF : ∀ q, zA ad H.size q → A q := by
    rintro q (⟨i, hi, rfl⟩ | h)
    · exact K.2.2.2.2.2.2.2.1 i hi
    · exact K.2.2.2.2.2.2.2.2.1 q (Nat.le_trans hS.1 h)
  obtain ⟨o, h1, rfl, h4, h5⟩ := zcl_ok ht h7 hxa.1
  have hz := zcl_lt hcl
  have hg := zW_get cs ad σ h1
  rw [zcell_o (by omega), h4] at hg
  have hv : zVs ad (t :: tys) ((o : Int) :: xs) = Value.ref (ad o) :: zVs ad tys xs := by
    show zV ad 0 t o :: zVs ad tys xs = _
    rw [zV_ref ht]
    rfl
  have hst : zsv ad b (zsa (t :: tys) ((o : Int) :: xs) ++ st) = (zVs ad tys xs).reverse ++ Value.ref (ad o) :: zsv ad b st := by
    rw [zsv_args h3, hv, List.reverse_cons, List.append_assoc]
    rfl
  rw [hv] at hM
  refine z_after (st := st) (b := b) hrt hS hF (va_runV (As := zVs ad tys xs) (n := n) (b := ad o) (C := C) (nL := znl M) (Ts := zTs M) (own := zown M) ⟨K.1, K.2.1, K.2.2.1, K.2.2.2.1, K.2.2.2.2.1⟩ hM (cwV n K.2.2.2.2.1 hG hws rfl rfl hy ⟨Nat.le_trans hR.1 K.2.2.2.2.2.2.2.2.2.1, Nat.le_trans hR.2 K.2.2.2.2.2.2.2.2.2.2.1⟩) ⟨zBlind, va_recv K.2.2.2.2.2.1 hP hcl hg, fun U hU hW => ⟨rfl, by rw [hU], by rw [hU]; exact hP, va_K.moved hW.alike K.2.2.2.2.2.1⟩⟩ rfl ((zVs_len hxa.2).trans hn) hl.1 hst (lv_room (by rw [zsv_cat]; exact hwt)) hd hcc) (fun H1 locs1 hP1 hS1 => ?_)
  exact kn p l en R s m args below meth c cells slots Q D cs ad A b H1 locs1 ls K hcc hr hot hP1 hS1 hl
end ZCALL
def zsl : Nat → List Nat → List (Nat × Nat)
  | _, [] => []
  | i, t :: ts => (i, t) :: zsl (i + zcat t) ts
def zlay : List Nat → List Int → List Int
  | t :: ts, x :: xs => if zcat t = 2 then x :: 0 :: zlay ts xs else x :: zlay ts xs
  | _, _ => []
def zpad (nL : Nat) (tys : List Nat) (xs : List Int) : List Int := zlay tys xs ++ List.replicate (nL - (tys.map zcat).sum) 0
theorem zcat_12 (t : Nat) : zcat t = 1 ∨ zcat t = 2 := by
  unfold zcat
  split <;> simp
theorem zlay_len : ∀ {tys : List Nat} {xs : List Int}, zOkA tys xs → (zlay tys xs).length = (tys.map zcat).sum
  | [], [], _ => rfl
  | t :: ts, x :: xs, h => by
    have ih := zlay_len h.2
    rcases zcat_12 t with q | q
    · simp [zlay, q, ih]; omega
    · simp [zlay, q, ih]; omega
theorem zg_app {pre l : List Int} {x : Int} : zg (pre ++ x :: l) pre.length = x := by
  simp [zg]
theorem zargs_eq {ad : Nat → Nat} : ∀ {tys : List Nat} {xs : List Int} (pre tl : List Int), zOkA tys xs → lv_args pre.length (zVs ad tys xs) = zLs ad 0 (zsl pre.length tys) (pre ++ zlay tys xs ++ tl) ∧ ∀ q ∈ zsl pre.length tys, inR q.2 (zg (pre ++ zlay tys xs ++ tl) q.1)
  | [], [], pre, tl, _ => ⟨rfl, fun _ h => absurd h List.not_mem_nil⟩
  | t :: ts, x :: xs, pre, tl, h => by
    rcases zcat_12 t with q | q
    · have e0 : pre ++ zlay (t :: ts) (x :: xs) ++ tl = (pre ++ [x]) ++ zlay ts xs ++ tl := by simp [zlay, q]
      have el : (pre ++ [x]).length = pre.length + 1 := by simp
      obtain ⟨i1, i2⟩ := zargs_eq (ad := ad) (tys := ts) (xs := xs) (pre ++ [x]) tl h.2
      rw [el] at i1 i2
      have eg : zg ((pre ++ [x]) ++ zlay ts xs ++ tl) pre.length = x := by
        rw [List.append_assoc, List.append_assoc]; exact zg_app
      rw [e0]
      constructor
      · show (pre.length, zV ad 0 t x) :: lv_args (if (zV ad 0 t x).category = 2 then pre.length + 2 else pre.length + 1) (zVs ad ts xs) = (pre.length, zV ad 0 t (zg _ pre.length)) :: zLs ad 0 (zsl (pre.length + zcat t) ts) _
        rw [zV_cat, q, if_neg (by omega), i1, eg]
      · intro z hz
        rcases List.mem_cons.mp hz with rfl | hz
        · show inR t (zg _ pre.length)
          rw [eg]; exact h.1
        · rw [q] at hz
          exact i2 z hz
    · have e0 : pre ++ zlay (t :: ts) (x :: xs) ++ tl = (pre ++ [x, 0]) ++ zlay ts xs ++ tl := by simp [zlay, q]
      have el : (pre ++ [x, 0]).length = pre.length + 2 := by simp
      obtain ⟨i1, i2⟩ := zargs_eq (ad := ad) (tys := ts) (xs := xs) (pre ++ [x, 0]) tl h.2
      rw [el] at i1 i2
      have eg : zg ((pre ++ [x, 0]) ++ zlay ts xs ++ tl) pre.length = x := by
        rw [List.append_assoc, List.append_assoc]; exact zg_app
      rw [e0]
      constructor
      · show (pre.length, zV ad 0 t x) :: lv_args (if (zV ad 0 t x).category = 2 then pre.length + 2 else pre.length + 1) (zVs ad ts xs) = (pre.length, zV ad 0 t (zg _ pre.length)) :: zLs ad 0 (zsl (pre.length + zcat t) ts) _
        rw [zV_cat, q, if_pos rfl, i1, eg]
      · intro z hz
        rcases List.mem_cons.mp hz with rfl | hz
        · show inR t (zg _ pre.length)
          rw [eg]; exact h.1
        · rw [q] at hz
          exact i2 z hz
theorem zsl_len {ad : Nat → Nat} : ∀ {tys : List Nat} {xs : List Int}, zOkA tys xs → (lg_sl (zVs ad tys xs)).length = (tys.map zcat).sum
  | [], [], _ => rfl
  | t :: ts, x :: xs, h => by
    have ih := zsl_len (ad := ad) h.2
    have e : lg_sl (zVs ad (t :: ts) (x :: xs)) = (if (zV ad 0 t x).category = 2 then [.val (zV ad 0 t x), .second] else [.val (zV ad 0 t x)]) ++ lg_sl (zVs ad ts xs) := rfl
    rw [e, List.length_append, ih, zV_cat]
    rcases zcat_12 t with q | q
    · rw [if_neg (by omega)]; simp [q]
    · rw [if_pos q]; simp [q]
abbrev zS : Type := List Int → zHp → Option (Nat × List Int × zHp)
/-- a statement from pc a on (kind 0: on at b; 1: an answer; 2, 3: out, on with the next round) -/
def zSt (M : zM) (Γ : List (Nat × Nat)) (a b : Nat) (Γ2 : List (Nat × Nat)) (X : Nat → Nat × List (Nat × Nat)) (g : zS) : Prop :=
  ∀ (e : List Int) (σ : zHp) (t : Nat) (e2 : List Int) (τ : zHp), zOk σ → zE M Γ e → g e σ = some (t, e2, τ) →
    zOk τ ∧ (t = 0 → zE M Γ2 e2 ∧ (zRn M b Γ2 e2 [] τ → zRn M a Γ e [] σ)) ∧ (t = 1 → zrr (zrt M) (zg e2 0) ∧ (zpo M (zg e2 0) τ → zRn M a Γ e [] σ)) ∧ (2 ≤ t → zE M (X t).2 e2 ∧ (zRn M (X t).1 (X t).2 e2 [] τ → zRn M a Γ e [] σ))
def zRun (nL : Nat) (tys : List Nat) (d : zS) : List Int → zHp → Option (Int × zHp) := fun xs σ => (d (zpad nL tys xs) σ).bind fun q => if q.1 = 1 then some (zg q.2.1 0, q.2.2) else none
theorem zMk {y : MethodName} {own : String} {cc : ByteArray} {nL fr lo rt b : Nat} {ret : Option FieldType} {ws ws2 : List Cond} {tys : List Nat} {d : zS} {Γ2 : List (Nat × Nat)} {X : Nat → Nat × List (Nat × Nat)} (hy : plainName y.cls = true) (hw : ws = Cond.code y cc nL ret :: ws2) (hown : y.cls = own) (h3 : 3 ∉ tys) (hlen : (tys.map zcat).sum ≤ nL)
    (hret : rt = 0 ∧ ret = some .int ∨ rt = 1 ∧ ret = some .long ∨ rt = 4 ∧ ret = some .boolean ∨ rt = 9 ∧ ret = none)
    (hS : ∀ P : Int → zHp → Prop, zSt (own, cc, nL, ws, fr, lo, none, rt, P) (zsl 0 tys) 0 b Γ2 X d) : zCon y ws fr lo tys rt (zRun nL tys d) := by
  have key : ∀ (xs : List Int) (σ : zHp) (r : Int) (τ : zHp), zOk σ → zOkA tys xs → zRun nL tys d xs σ = some (r, τ) → (zrr rt r ∧ zOk τ) ∧ zRn (own, cc, nL, ws, fr, lo, none, rt, fun v τ' => v = r ∧ τ' = τ) 0 (zsl 0 tys) (zpad nL tys xs) [] σ := by
    intro xs σ r τ ho hxa hf
    obtain ⟨⟨t, e2, τ2⟩, h1, h2⟩ := Option.bind_eq_some_iff.mp hf
    dsimp only at h2
    by_cases ht : t = 1
    case neg => rw [if_neg ht] at h2; cases h2
    subst ht
    rw [if_pos rfl] at h2
    cases h2
    obtain ⟨hz1, hz2⟩ := zargs_eq (ad := fun i => i) (tys := tys) (xs := xs) [] (List.replicate (nL - (tys.map zcat).sum) 0) hxa
    have hE : zE (own, cc, nL, ws, fr, lo, none, rt, fun v τ' => v = zg e2 0 ∧ τ' = τ) (zsl 0 tys) (zpad nL tys xs) := by
      refine ⟨?_, hz2⟩
      show (zpad nL tys xs).length = nL
      unfold zpad
      rw [List.length_append, zlay_len hxa, List.length_replicate]
      omega
    obtain ⟨hot, -, hs1, -⟩ := hS (fun v τ' => v = zg e2 0 ∧ τ' = τ) (zpad nL tys xs) σ 1 e2 τ ho hE h1
    obtain ⟨hrr, hRn⟩ := hs1 rfl
    exact ⟨⟨hrr, hot⟩, hRn ⟨rfl, rfl⟩⟩
  refine ⟨fun xs σ r τ ho hxa hf => (key xs σ r τ ho hxa hf).1, ?_⟩
  intro l D cs ad sz xs σ r τ hinj ho hxa hf
  obtain ⟨⟨hrr, hot⟩, hRn⟩ := key xs σ r τ ho hxa hf
  obtain ⟨hz1, -⟩ := zargs_eq (ad := ad) (tys := tys) (xs := xs) [] (List.replicate (nL - (tys.map zcat).sum) 0) hxa
  refine Met.ofW (cc := cc) (maxL := nL) (ret := ret) hy hw ?_
  intro p en s m args below meth c s₁ B hml hv
  obtain ⟨rfl, hsz, hP, hK⟩ := hv
  have hr := B.returns
  have hlocks := B.notSynchronized
  have hx := B.exec
  have hb := B.bytes
  have hl := lv_entry (zVs ad tys xs) (n := nL) (by rw [zsl_len hxa]; exact hlen)
  rw [lg_entry_eq]
  generalize (lg_sl (zVs ad tys xs) ++ List.replicate (nL - (lg_sl (zVs ad tys xs)).length) Slot.unset).toArray = ls at hl ⊢
  subst hsz
  have hl2 : lv_has ls nL (zLs ad 0 (zsl 0 tys) (zpad nL tys xs)) := by
    have : lv_args 0 (zVs ad tys xs) = zLs ad 0 (zsl 0 tys) (zpad nL tys xs) := hz1
    rw [← this]; exact hl
  refine hRn p l en _ s m _ below meth c 0 0 _ D cs ad (zA ad s.heap.size) 0 s.heap [] ls ⟨B.exec, B.bytes, hml, hown ▸ findClass_of_methodNamed B.named, atoms_spec (ws := ws) B.pre, hK, hinj, fun i hi => Or.inl ⟨i, hi, rfl⟩, fun q h => Or.inr h, Nat.le_refl fr, Nat.le_refl lo, fun _ _ h => by cases h⟩ ⟨Nat.zero_le _, Nat.zero_le _⟩ ?_ ho hP va_S.rf hl2
  intro v τ' H locs ls pc hpo hrr' hot' hP' hS' hri
  obtain ⟨e1, e2⟩ := hpo
  rw [e1]
  rw [e2] at hP'
  rcases hret with ⟨rfl, rfl⟩ | ⟨rfl, rfl⟩ | ⟨rfl, rfl⟩ | ⟨rfl, rfl⟩
  · exact W.iret (v := Int32.ofInt r) hx hb hr (fun t ht hW => ⟨⟨_, (), rfl, rfl, by show va_P D vwCl (zW cs ad τ) t.heap; rw [ht]; exact hP'⟩, hS'.F ht⟩) hS'.2.2 hri
  · exact W.lret (v := Int64.ofInt r) hx hb hr (fun t ht hW => ⟨⟨_, (), rfl, rfl, by show va_P D vwCl (zW cs ad τ) t.heap; rw [ht]; exact hP'⟩, hS'.F ht⟩) hS'.2.2 hri
  · have hn : narrow .boolean (.int (Int32.ofInt r)) = .int (Int32.ofInt r) := by
      rcases hrr with h | h | h
      · cases h
      · rw [h]; decide +kernel
      · rw [h]; decide +kernel
    exact W.zret (v := Int32.ofInt r) hx hb hr hn (fun t ht hW => ⟨⟨_, (), rfl, rfl, by show va_P D vwCl (zW cs ad τ) t.heap; rw [ht]; exact hP'⟩, hS'.F ht⟩) hS'.2.2 hri
  · exact W.vret hx hb hr (fun t ht hW => ⟨⟨(), rfl, trivial, by show va_P D vwCl (zW cs ad τ) t.heap; rw [ht]; exact hP'⟩, hS'.F ht⟩) hS'.2.2 hri
