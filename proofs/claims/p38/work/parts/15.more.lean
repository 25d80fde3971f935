section ZMORE
variable {M : zM} {Γ : List (Nat × Nat)} {n a b : Nat}
theorem zx_bconst {c m : Int} (hd : decode (zcc M) a = .ok (.iconst m, 1)) (hm : m = c) (hc : c = 0 ∨ c = 1) : zEx M Γ n 4 a (a + 1) (xC c) := zx_leaf (fun _ _ => hc) (fun _ _ _ _ k => zr_iconst hd hm k)
end ZMORE
section ZLK
variable {M : zM} {Γ Γ2 : List (Nat × Nat)} {a b : Nat} {X : Nat → Nat × List (Nat × Nat)} {x : zX}
def sP (f : zX) (k1 k2 : Int) (g1 g2 d : zS) : zS := fun e σ => (f e σ).bind fun r => ((if r.1 = k1 then g1 else if r.1 = k2 then g2 else d) e r.2).bind fun q => if q.1 = 2 then some (0, q.2) else some q
theorem zs_lookup2 {dflt k1 k2 o1 o2 : Int} {len en t1 t2 td : Nat} {g1 g2 dd : zS} (hx : zEx M Γ 0 0 a b x) (hd : decode (zcc M) b = .ok (.lookupswitch dflt #[(k1, o1), (k2, o2)], len)) (hk : k1 < k2) (h1 : (b : Int) + o1 = (t1 : Int)) (h2 : (b : Int) + o2 = (t2 : Int)) (h3 : (b : Int) + dflt = (td : Int))
    (r1 : -2147483648 ≤ k1 ∧ k1 < 2147483648) (r2 : -2147483648 ≤ k2 ∧ k2 < 2147483648) (hg1 : zSt M Γ t1 en Γ2 (zZ en Γ2 X) g1) (hg2 : zSt M Γ t2 en Γ2 (zZ en Γ2 X) g2) (hdd : zSt M Γ td en Γ2 (zZ en Γ2 X) dd) : zSt M Γ a en Γ2 X (sP x k1 k2 g1 g2 dd) := by
  intro e σ t0 u τ ho hE h
  obtain ⟨⟨v, σ1⟩, q1, q2⟩ := Option.bind_eq_some_iff.mp h
  obtain ⟨⟨t3, u3, σ3⟩, q3, q4⟩ := Option.bind_eq_some_iff.mp q2
  obtain ⟨⟨rv, o1'⟩, k1'⟩ := hx e σ v σ1 [] ho hE q1 (Nat.le_refl 0)
  have hv : (Int32.ofInt v).toInt = v := z32_ti rv
  have hp : ((#[(k1, o1), (k2, o2)] : Array (Int × Int)).toList.zip ((#[(k1, o1), (k2, o2)] : Array (Int × Int)).toList.drop 1)).all (fun (a, next) => a.1 < next.1) = true := by simp [hk]
  have key : ∃ tg : Nat, zSt M Γ tg en Γ2 (zZ en Γ2 X) (if v = k1 then g1 else if v = k2 then g2 else dd) ∧ (zRn M tg Γ e [] σ1 → zRn M b Γ e [(0, v)] σ1) := by
    by_cases c1 : v = k1
    · refine ⟨t1, by rw [if_pos c1]; exact hg1, fun k => zr_a k (fun p l en R s m args below meth c cells slots Q D cs ad A b' H locs ls K hc ho hP hS hl kk => ?_)⟩
      exact lv_lookup (off := o1) K.1 K.2.1 hd hp (by rw [hv]; simp [Op.lookupswitch.offset_cons, c1]) h1 kk
    · by_cases c2 : v = k2
      · refine ⟨t2, by rw [if_neg c1, if_pos c2]; exact hg2, fun k => zr_a k (fun p l en R s m args below meth c cells slots Q D cs ad A b' H locs ls K hc ho hP hS hl kk => ?_)⟩
        exact lv_lookup (off := o2) K.1 K.2.1 hd hp (by rw [hv]; simp [Op.lookupswitch.offset_cons, c1, c2]; omega) h2 kk
      · refine ⟨td, by rw [if_neg c1, if_neg c2]; exact hdd, fun k => zr_a k (fun p l en R s m args below meth c cells slots Q D cs ad A b' H locs ls K hc ho hP hS hl kk => ?_)⟩
        exact lv_lookup (off := dflt) K.1 K.2.1 hd hp (by rw [hv]; rw [Op.lookupswitch.offset_cons, if_neg (fun z => c1 z.symm), Op.lookupswitch.offset_cons, if_neg (fun z => c2 z.symm), Op.lookupswitch.offset_nil]) h3 kk
  obtain ⟨tg, hst, kt⟩ := key
  obtain ⟨p1, p2, p3, p4⟩ := hst e σ1 t3 u3 σ3 o1' hE q3
  dsimp only at q4
  by_cases ht : t3 = 2
  · rw [if_pos ht] at q4
    cases q4
    subst ht
    obtain ⟨z1, z2⟩ := p4 (by decide)
    exact ⟨p1, fun _ => ⟨z1, fun k => k1' (kt (z2 k))⟩, fun z => (by cases z), fun z => by omega⟩
  · rw [if_neg ht] at q4
    cases q4
    refine ⟨p1, fun z => ⟨(p2 z).1, fun k => k1' (kt ((p2 z).2 k))⟩, fun z => ⟨(p3 z).1, fun k => k1' (kt ((p3 z).2 k))⟩, fun z => ?_⟩
    have e2 : zZ en Γ2 X t0 = X t0 := by unfold zZ; rw [if_neg ht]
    have z5 := p4 z
    rw [e2] at z5
    exact ⟨z5.1, fun k => k1' (kt (z5.2 k))⟩
end ZLK
theorem zx_w7 {M : zM} {Γ : List (Nat × Nat)} {n o a b : Nat} {f : zX} (ho : o = 9 ∨ o = 26) (hf : zEx M Γ n (o + 10) a b f) : zEx M Γ n 7 a b f := by
  intro e σ v τ st hok hE h hwt
  obtain ⟨⟨r1, r2⟩, k1⟩ := hf e σ v τ st hok hE h hwt
  refine ⟨⟨?_, r2⟩, fun kn => k1 ?_⟩
  · obtain ⟨q, -, -⟩ := inR_o r1
    show v = 9 ∨ v = 26
    omega
  · intro p l en R s m args below meth c cells slots Q D cs ad A bb H locs ls K hc hr ho hP hS hl
    have e1 : zsv ad bb ((o + 10, v) :: st) = zsv ad bb ((7, v) :: st) := by rw [zsv_ref (by omega), zsv_ref (by decide)]
    rw [e1]
    exact kn p l en R s m args below meth c cells slots Q D cs ad A bb H locs ls K hc hr ho hP hS hl
