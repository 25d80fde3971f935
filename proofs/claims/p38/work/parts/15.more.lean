section ZMORE
variable {M : zM} {Γ : List (Nat × Nat)} {n a b : Nat}
theorem zx_bconst {c m : Int} (hd : decode (zcc M) a = .ok (.iconst m, 1)) (hm : m = c) (hc : c = 0 ∨ c = 1) : zEx M Γ n 4 a (a + 1) (xC c) := zx_leaf (fun _ _ => hc) (fun _ _ _ _ k => zr_iconst hd hm k)
end ZMORE
theorem zx_w7 {M : zM} {Γ : List (Nat × Nat)} {n o a b : Nat} {f : zX} (ho : o = 9 ∨ o = 26) (hf : zEx M Γ n (o + 10) a b f) : zEx M Γ n 7 a b f := by
  intro e σ v τ st hok hE h hwt
  obtain ⟨⟨r1, r2⟩, k1⟩ := hf e σ v τ st hok hE h hwt
  refine ⟨⟨?_, r2⟩, fun kn => k1 ?_⟩
  · obtain ⟨q, -, -⟩ := inR_o r1
    show v = 9 ∨ v = 26
    omega
  · refine ⟨kn.1, ?_⟩
    intro p l en R s m args below meth c cells slots Q D cs ad A bb H locs ls K hc hr ho hP hS hl
    have e1 : zsv ad bb ((o + 10, v) :: st) = zsv ad bb ((7, v) :: st) := by rw [zsv_ref (by omega), zsv_ref (by decide)]
    rw [e1]
    exact kn.2 p l en R s m args below meth c cells slots Q D cs ad A bb H locs ls K hc hr ho hP hS hl
section ZSCR
variable {M : zM} {Γ : List (Nat × Nat)} {n a b : Nat}
theorem zx_sarg {k : Fin 4} {i : Nat} (hd : decode (zcc M) a = .ok (.aload_n k, 1)) (hi : (k : Nat) = i) (hm : (i, 3) ∈ Γ) : zEx M Γ n 3 a (a + 1) (xC 0) := zx_leaf (fun _ _ => trivial) (fun _ _ _ _ q => zr_saload_n hd hi hm q)
theorem zx_thisW {o i : Nat} {w : Int} (hd : decode (zcc M) a = .ok (.aload i, 2)) (hw : w = (o : Int)) (ho : o < 43) (hm : (i, o + 10) ∈ Γ) : zEx M Γ n (o + 10) a (a + 2) (xC w) := by
  subst hw
  refine zx_leaf (w := fun _ => (o : Int)) (fun e hE => inR_of ho) (fun e σ st hE q => zr_aload hd (by omega) hm ?_)
  have h0 : zg e i = (o : Int) := (inR_o (hE.2 (i, o + 10) hm)).1
  rw [h0]
  exact q
theorem zc_gotoT {off : Int} {tt ff tgt : Nat} {f : zC} (hf : zCn M Γ n a tt ff f) (hd : decode (zcc M) tt = .ok (.goto off, 3)) (ht : (tt : Int) + off = (tgt : Int)) : zCn M Γ n a tgt ff f := by
  intro e σ v τ st hok hE h hwt
  obtain ⟨o1, k1⟩ := hf e σ v τ st hok hE h hwt
  refine ⟨o1, fun k => k1 ?_⟩
  cases v with
  | true => exact zr_goto hd ht k
  | false => exact k
theorem zs_cnt {Γ2 Γ3 : List (Nat × Nat)} {d : Nat} {X : Nat → Nat × List (Nat × Nat)} (hb : X 3 = (a, Γ2)) (hs : ∀ q ∈ Γ2, q ∈ Γ) : zSt M Γ a d Γ3 X sC := by
  intro e σ t0 u τ ho hE h
  cases h
  refine ⟨ho, fun z => (by cases z), fun z => (by cases z), fun _ => ?_⟩
  rw [hb]
  exact ⟨zE_sub hs hE, fun k => zRn_sub hs k⟩
end ZSCR
