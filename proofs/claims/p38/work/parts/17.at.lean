theorem znm_c {k j : Nat} {l : List Nat} (h : k ≠ j) (h2 : k ∉ l) : k ∉ j :: l := fun q => (List.mem_cons.mp q).elim h h2
/-! 'if (o.put(0, at++, E) != 1) return ..' -/
section ZAT
variable {M : zM} {Γ : List (Nat × Nat)} {X : Nat → Nat × List (Nat × Nat)} {a c tgt i index maxL fr lo N : Nat} {off : Int} {cc2 : ByteArray} {ret : Option FieldType} {ws ws2 : List Cond} {y : MethodName} {mm : List Int → zHp → Option (Int × zHp)} {E : zX} {f : zS} {C : String} {T : u_T}
theorem zs_at (hd0 : decode (zcc M) a = .ok (.aload_n 0, 1)) (hd1 : decode (zcc M) (a + 1) = .ok (.iconst 0, 1)) (hd2 : decode (zcc M) (a + 2) = .ok (.iload i, 2)) (hd3 : decode (zcc M) (a + 4) = .ok (.iinc i 1, 3)) (hE : zEx M Γ 3 0 (a + 7) c E)
    (hc : zCon y ws [] [] none fr lo [10, 0, 0, 0] 0 mm) (hu : zFor M [] [] none) (hcl : vwCl[zcl 10]? = some (C, T, N)) (hws : ws = Cond.code y cc2 maxL ret :: ws2) (hG : GoodIn (zTs M) (wsV (zown M) index C y ws))
    (hy : y.cls = C ∧ y.cls ≠ "java/lang/invoke/MethodHandle" ∧ y.cls ≠ "java/lang/invoke/VarHandle" ∧ (parseMethodDescriptor y.desc).map (fun d => d.parameters.length) = some 3) (hR : fr + 1 ≤ zfr M ∧ 8 + (maxL + 11) + lo ≤ zlo M) (hd4 : decode (zcc M) c = .ok (.invokevirtual index, 3))
    (hd5 : decode (zcc M) (c + 3) = .ok (.iconst 1, 1)) (hd6 : decode (zcc M) (c + 3 + 1) = .ok (.if_icmp .eq off, 3)) (ht : ((c + 3 + 1 : Nat) : Int) + off = (tgt : Int))
    (hm0 : (0, 10) ∈ Γ) (hmi : (i, 0) ∈ Γ) (hn : i < znl M) (hs : ∀ q ∈ Γ, q ∈ zset1 i 0 Γ) (hf : zSt M Γ (c + 3 + 1 + 3) tgt Γ X f) :
    zSt M Γ a tgt Γ X (sQ (sS i (xB o_iadd (xL i) (xC 1))) (sI (cR r_ne (xK mm (aC (xC 0) (aC (xC 0) (aC (xB o_isub (xL i) (xC 1)) (aC E aN))))) (xC 1)) f sK)) := by
  intro e σ t u τ ho hE0 h
  have rv : r32 (zg e i) := hE0.2 (i, 0) hmi
  have hE1 : zE M Γ (e.set i (w32 (zg e i + 1))) := zE_sub hs (zE_set1 hE0 hn (w32_r _))
  have h0 : zg e 0 = 0 := (inR_o (o := 0) (hE0.2 (0, 10) hm0)).1
  have hlen : i < e.length := by rw [hE0.1]; exact hn
  have hv : o_isub (zg (e.set i (w32 (zg e i + 1))) i) 1 = zg e i := by
    rw [zg_set_self hlen]
    have h1 := rv.1
    have h2 := rv.2
    unfold o_isub w32
    omega
  have go0 : zRn M (a + 7) Γ (e.set i (w32 (zg e i + 1))) [(0, zg e i), (0, 0), (10, 0)] σ → zRn M a Γ e [] σ := fun kn => by
    refine zr_aload_n hd0 rfl (by decide) hm0 ?_
    show zRn M (a + 1) Γ e [(10, zg e 0)] σ
    rw [h0]
    refine zr_iconst hd1 rfl ?_
    refine zr_iload hd2 hmi ?_
    exact zr_iinc hd3 hmi hn hE0.1 (zRn_sub hs kn)
  have h : sI (cR r_ne (xK mm (aC (xC 0) (aC (xC 0) (aC (xB o_isub (xL i) (xC 1)) (aC E aN))))) (xC 1)) f sK (e.set i (w32 (zg e i + 1))) σ = some (t, u, τ) := h
  generalize he1 : e.set i (w32 (zg e i + 1)) = e1 at h hE1 hv go0
  obtain ⟨⟨bb, σ2⟩, h1, h2⟩ := Option.bind_eq_some_iff.mp h
  obtain ⟨⟨r, σ3⟩, h3, h4⟩ := Option.bind_eq_some_iff.mp h1
  have h4 : some (r_ne r 1, σ3) = some (bb, σ2) := h4
  obtain ⟨rfl, rfl⟩ : r_ne r 1 = bb ∧ σ3 = σ2 := by
    have := Option.some.inj h4
    exact ⟨congrArg Prod.fst this, congrArg Prod.snd this⟩
  obtain ⟨⟨xs, σ4⟩, h5, h6⟩ := Option.bind_eq_some_iff.mp h3
  have h6 : mm xs σ4 = some (r, σ3) := h6
  obtain ⟨⟨ev, σ5⟩, hEv, hxs⟩ : ∃ q : Int × zHp, E e1 σ = some q ∧ some (([0, 0, zg e i, q.1] : List Int), q.2) = some (xs, σ4) := by
    cases hq : E e1 σ with
    | none =>
      exfalso
      simp [aC, aN, xC, xB, xL, hq] at h5
    | some q =>
      refine ⟨q, rfl, ?_⟩
      simp [aC, aN, xC, xB, xL, hq, hv] at h5
      rw [h5.1, h5.2]
  obtain ⟨rfl, rfl⟩ : ([0, 0, zg e i, ev] : List Int) = xs ∧ σ5 = σ4 := by
    have := Option.some.inj hxs
    exact ⟨congrArg Prod.fst this, congrArg Prod.snd this⟩
  obtain ⟨⟨rE, oE⟩, kE⟩ := hE e1 σ ev σ5 [(0, zg e i), (0, 0), (10, 0)] ho hE1 hEv (Nat.le_refl 3)
  have hxa : zOkA [10, 0, 0, 0] [0, 0, zg e i, ev] := ⟨⟨rfl, by decide, by decide⟩, z32_00, rv, rE, trivial⟩
  obtain ⟨hrr, ho3, -⟩ := hc.1 _ σ5 r σ3 oE hxa h6
  have rr : r32 r := hrr.resolve_left (by decide)
  have r1 : r32 1 := ⟨by decide, by decide⟩
  have go : (¬ r = 1 → zRn M (c + 3 + 1 + 3) Γ e1 [] σ3) → (r = 1 → zRn M tgt Γ e1 [] σ3) → zRn M a Γ e [] σ := fun k1 k2 => by
    refine go0 (kE ?_)
    refine zr_callV (st := []) hc hu (Or.inl rfl) oE (by decide) (by decide) hxa hcl h6 hws hG rfl hy hR (by decide) hd4 ?_
    show zRn M (c + 3) Γ e1 [(0, r)] σ3
    refine zr_iconst hd5 rfl ?_
    exact zr_icmp_eq rr r1 hd6 ht k2 k1
  by_cases hr : r = 1
  · have hb : r_ne r 1 = false := by unfold r_ne; rw [hr]; rfl
    have h2 : (if r_ne r 1 = true then f e1 σ3 else sK e1 σ3) = some (t, u, τ) := h2
    rw [hb] at h2
    have h2 : some (0, e1, σ3) = some (t, u, τ) := h2
    cases h2
    exact ⟨ho3, fun _ => ⟨hE1, fun k => go (fun q => absurd hr q) (fun _ => k)⟩, fun z => (by cases z), fun z => by omega⟩
  · have hb : r_ne r 1 = true := by unfold r_ne; exact decide_eq_true hr
    have h2 : (if r_ne r 1 = true then f e1 σ3 else sK e1 σ3) = some (t, u, τ) := h2
    rw [if_pos hb] at h2
    obtain ⟨q1, q2, q3, q4⟩ := hf e1 σ3 t u τ ho3 hE1 h2
    exact ⟨q1, fun z => ⟨(q2 z).1, fun k => go (fun _ => (q2 z).2 k) (fun q => absurd q hr)⟩, fun z => ⟨(q3 z).1, fun k => go (fun _ => (q3 z).2 k) (fun q => absurd q hr)⟩, fun z => ⟨(q4 z).1, fun k => go (fun _ => (q4 z).2 k) (fun q => absurd q hr)⟩⟩
end ZAT
