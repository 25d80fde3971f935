/-! what an expression, a condition, a row of arguments and a statement come to: pure functions of locals and world -/
abbrev zX : Type := List Int → zHp → Option (Int × zHp)
abbrev zC : Type := List Int → zHp → Option (Bool × zHp)
abbrev zAs : Type := List Int → zHp → Option (List Int × zHp)
def xC (c : Int) : zX := fun _ σ => some (c, σ)
def xL (k : Nat) : zX := fun e σ => some (zg e k, σ)
def xU (op : Int → Int) (f : zX) : zX := fun e σ => (f e σ).bind fun r => some (op r.1, r.2)
def xB (op : Int → Int → Int) (f g : zX) : zX := fun e σ => (f e σ).bind fun r => (g e r.2).bind fun q => some (op r.1 q.1, q.2)
def xD (op : Int → Int → Int) (f g : zX) : zX := fun e σ => (f e σ).bind fun r => (g e r.2).bind fun q => if q.1 = 0 then none else some (op r.1 q.1, q.2)
/-- a field of the cell that f is; of cell o -/
def xF (f : zX) (k : Int) : zX := fun e σ => (f e σ).bind fun r => some (r.2 r.1 k, r.2)
def xG (o k : Int) : zX := fun _ σ => some (σ o k, σ)
/-- a place of a row of N cells: the row that f is; row o -/
def xA (f : zX) (N : Int) (g : zX) : zX := fun e σ => (f e σ).bind fun r => (g e r.2).bind fun q => if 0 ≤ q.1 ∧ q.1 < N then some (q.2 r.1 q.1, q.2) else none
def xE (o N : Int) (g : zX) : zX := fun e σ => (g e σ).bind fun q => if 0 ≤ q.1 ∧ q.1 < N then some (q.2 o q.1, q.2) else none
/-- the sheet at a place -/
def xH (g : zX) : zX := fun e σ => (g e σ).bind fun q => if 0 ≤ q.1 ∧ q.1 < 4 then some (29 + 2 * q.1, q.2) else none
/-- the script's place -/
def xT (L : Nat) (xs : Nat → Int32) (g : zX) : zX := fun e σ => (g e σ).bind fun q => if 0 ≤ q.1 ∧ q.1 < L then some ((xs q.1.toNat).toInt, q.2) else none
def xI (c : zC) (f g : zX) : zX := fun e σ => (c e σ).bind fun r => if r.1 then f e r.2 else g e r.2
def xZ (c : zC) : zX := fun e σ => (c e σ).bind fun r => some (if r.1 then 1 else 0, r.2)
def xK (m : List Int → zHp → Option (Int × zHp)) (fs : zAs) : zX := fun e σ => (fs e σ).bind fun r => m r.1 r.2
def aN : zAs := fun _ σ => some ([], σ)
def aC (f : zX) (g : zAs) : zAs := fun e σ => (f e σ).bind fun r => (g e r.2).bind fun q => some (r.1 :: q.1, q.2)
def cR (rel : Int → Int → Bool) (f g : zX) : zC := fun e σ => (f e σ).bind fun r => (g e r.2).bind fun q => some (rel r.1 q.1, q.2)
def cV (rel : Int → Bool) (f : zX) : zC := fun e σ => (f e σ).bind fun r => some (rel r.1, r.2)
def cA (f g : zC) : zC := fun e σ => (f e σ).bind fun r => if r.1 then g e r.2 else some (false, r.2)
def cO (f g : zC) : zC := fun e σ => (f e σ).bind fun r => if r.1 then some (true, r.2) else g e r.2
def cN (f : zC) : zC := fun e σ => (f e σ).bind fun r => some (!r.1, r.2)
def sS (k : Nat) (f : zX) : zS := fun e σ => (f e σ).bind fun r => some (0, e.set k r.1, r.2)
def sX (f : zX) : zS := fun e σ => (f e σ).bind fun r => some (0, e, r.2)
def sF (fo : zX) (k : Int) (f : zX) : zS := fun e σ => (fo e σ).bind fun r => (f e r.2).bind fun q => some (0, e, zput q.2 r.1 k q.1)
def sG (o k : Int) (f : zX) : zS := fun e σ => (f e σ).bind fun q => some (0, e, zput q.2 o k q.1)
def sA (fo : zX) (N : Int) (g f : zX) : zS := fun e σ => (fo e σ).bind fun r => (g e r.2).bind fun i => (f e i.2).bind fun q => if 0 ≤ i.1 ∧ i.1 < N then some (0, e, zput q.2 r.1 i.1 q.1) else none
def sE (o N : Int) (g f : zX) : zS := fun e σ => (g e σ).bind fun i => (f e i.2).bind fun q => if 0 ≤ i.1 ∧ i.1 < N then some (0, e, zput q.2 o i.1 q.1) else none
/-- a place of row o becomes op of what it is and f -/
def sEo (op : Int → Int → Int) (o N : Int) (g f : zX) : zS := fun e σ => (g e σ).bind fun i => if 0 ≤ i.1 ∧ i.1 < N then (f e i.2).bind fun q => some (0, e, zput q.2 o i.1 (op (i.2 o i.1) q.1)) else none
def sK : zS := fun e σ => some (0, e, σ)
def sQ (f g : zS) : zS := fun e σ => (f e σ).bind fun r => if r.1 = 0 then g r.2.1 r.2.2 else some r
def sI (c : zC) (f g : zS) : zS := fun e σ => (c e σ).bind fun r => if r.1 then f e r.2 else g e r.2
def sR (f : zX) : zS := fun e σ => (f e σ).bind fun r => some (1, [r.1], r.2)
def sV : zS := fun _ σ => some (1, [0], σ)
def sB : zS := fun e σ => some (2, e, σ)
def sC : zS := fun e σ => some (3, e, σ)
/-- locals that go out of sight are 0 from there on -/
def zclr (ks : List Nat) (e : List Int) : List Int := ks.foldl (fun e k => e.set k 0) e
def sD (ks : List Nat) (f : zS) : zS := fun e σ => (f e σ).bind fun r => if r.1 = 1 then some r else some (r.1, zclr ks r.2.1, r.2.2)
def zloop (c : zC) (f s : zS) : Nat → List Int → zHp → Option (Nat × List Int × zHp)
  | 0, _, _ => none
  | n + 1, e, σ => (c e σ).bind fun r => if r.1 then (f e r.2).bind fun q => if q.1 = 0 ∨ q.1 = 3 then (s q.2.1 q.2.2).bind fun z => if z.1 = 0 then zloop c f s n z.2.1 z.2.2 else none else if q.1 = 2 then some (0, q.2) else if q.1 = 1 then some q else none else some (0, e, r.2)
def zfuel : Nat := 10000000
def sW (c : zC) (f s : zS) : zS := fun e σ => zloop c f s zfuel e σ
def zpick (d : zS) : List zS → Int → zS
  | [], _ => d
  | g :: gs, i => if i = 0 then g else zpick d gs (i - 1)
def sN (f : zX) (lo : Int) (gs : List zS) (d : zS) : zS := fun e σ => (f e σ).bind fun r => ((if r.1 < lo then d else zpick d gs (r.1 - lo)) e r.2).bind fun q => if q.1 = 2 then some (0, q.2) else some q
/-! that the machine comes to them -/
def zEx (M : zM) (Γ : List (Nat × Nat)) (n t a b : Nat) (f : zX) : Prop :=
  ∀ (e : List Int) (σ : zHp) (v : Int) (τ : zHp) (st : List (Nat × Int)), zOk σ → zE M Γ e → f e σ = some (v, τ) → zwt st ≤ n → (inR t v ∧ zOk τ) ∧ (zRn M b Γ e ((t, v) :: st) τ → zRn M a Γ e st σ)
def zAr (M : zM) (Γ : List (Nat × Nat)) (n : Nat) (ts : List Nat) (a b : Nat) (f : zAs) : Prop :=
  ∀ (e : List Int) (σ : zHp) (vs : List Int) (τ : zHp) (st : List (Nat × Int)), zOk σ → zE M Γ e → f e σ = some (vs, τ) → zwt st ≤ n → (zOkA ts vs ∧ zOk τ) ∧ (zRn M b Γ e (zsa ts vs ++ st) τ → zRn M a Γ e st σ)
def zCn (M : zM) (Γ : List (Nat × Nat)) (n a tt ff : Nat) (f : zC) : Prop :=
  ∀ (e : List Int) (σ : zHp) (v : Bool) (τ : zHp) (st : List (Nat × Int)), zOk σ → zE M Γ e → f e σ = some (v, τ) → zwt st ≤ n → zOk τ ∧ (zRn M (if v then tt else ff) Γ e st τ → zRn M a Γ e st σ)
section ZX
variable {M : zM} {Γ : List (Nat × Nat)} {n a b d t t1 t2 : Nat} {f g : zX}
theorem zwt_cons (t : Nat) (x : Int) (st : List (Nat × Int)) : zwt ((t, x) :: st) = zcat t + zwt st := by simp [zwt]
theorem zx_leaf {w : List Int → Int} (hr : ∀ e, zE M Γ e → inR t (w e)) (hs : ∀ e σ st, zE M Γ e → zRn M b Γ e ((t, w e) :: st) σ → zRn M a Γ e st σ) : zEx M Γ n t a b (fun e σ => some (w e, σ)) := by
  intro e σ v τ st ho hE h hw
  cases h
  exact ⟨⟨hr e hE, ho⟩, hs e σ st hE⟩
theorem zx_iconst {c m : Int} (hd : decode (zcc M) a = .ok (.iconst m, 1)) (hm : m = c) (hc : -2147483648 ≤ c ∧ c < 2147483648) : zEx M Γ n 0 a (a + 1) (xC c) := zx_leaf (fun _ _ => hc) (fun _ _ _ _ k => zr_iconst hd hm k)
theorem zx_bipush {c m : Int} (hd : decode (zcc M) a = .ok (.bipush m, 2)) (hm : (Int8.ofInt m).toInt32 = Int32.ofInt c) (hc : -2147483648 ≤ c ∧ c < 2147483648) : zEx M Γ n 0 a (a + 2) (xC c) := zx_leaf (fun _ _ => hc) (fun _ _ _ _ k => zr_bipush hd hm k)
theorem zx_sipush {c m : Int} (hd : decode (zcc M) a = .ok (.sipush m, 3)) (hm : (Int16.ofInt m).toInt32 = Int32.ofInt c) (hc : -2147483648 ≤ c ∧ c < 2147483648) : zEx M Γ n 0 a (a + 3) (xC c) := zx_leaf (fun _ _ => hc) (fun _ _ _ _ k => zr_sipush hd hm k)
theorem zx_lconst {c : Int} {m : Fin 2} (hd : decode (zcc M) a = .ok (.lconst m, 1)) (hm : Int64.ofNat (m : Nat) = Int64.ofInt c) (hc : -9223372036854775808 ≤ c ∧ c < 9223372036854775808) : zEx M Γ n 1 a (a + 1) (xC c) := zx_leaf (fun _ _ => hc) (fun _ _ _ _ k => zr_lconst hd hm k)
theorem zx_ldc2 {c : Int} {index : Nat} {x : Int64} (hd : decode (zcc M) a = .ok (.ldc2_w index, 3)) (hw : Cond.constantLong (zown M) index x ∈ zTs M) (hm : x = Int64.ofInt c) (hc : -9223372036854775808 ≤ c ∧ c < 9223372036854775808) : zEx M Γ n 1 a (a + 3) (xC c) := zx_leaf (fun _ _ => hc) (fun _ _ _ _ k => zr_ldc2 hd hw hm k)
theorem zx_ldc {c : Int} {index : Nat} {x : Int32} (hd : decode (zcc M) a = .ok (.ldc index, 2)) (hw : Cond.constant (zown M) index x ∈ zTs M) (hm : x = Int32.ofInt c) (hc : -2147483648 ≤ c ∧ c < 2147483648) : zEx M Γ n 0 a (a + 2) (xC c) := zx_leaf (fun _ _ => hc) (fun _ _ _ _ k => zr_ldc hd hw hm k)
theorem zx_ldcw {c : Int} {index : Nat} {x : Int32} (hd : decode (zcc M) a = .ok (.ldc_w index, 3)) (hw : Cond.constant (zown M) index x ∈ zTs M) (hm : x = Int32.ofInt c) (hc : -2147483648 ≤ c ∧ c < 2147483648) : zEx M Γ n 0 a (a + 3) (xC c) := zx_leaf (fun _ _ => hc) (fun _ _ _ _ k => zr_ldcw hd hw hm k)
theorem zx_iload_n {k : Fin 4} {i : Nat} (hd : decode (zcc M) a = .ok (.iload_n k, 1)) (hi : (k : Nat) = i) (hm : (i, 0) ∈ Γ) : zEx M Γ n 0 a (a + 1) (xL i) := zx_leaf (fun e hE => hE.2 (i, 0) hm) (fun _ _ _ _ q => zr_iload_n hd hi hm q)
theorem zx_iload {i : Nat} (hd : decode (zcc M) a = .ok (.iload i, 2)) (hm : (i, 0) ∈ Γ) : zEx M Γ n 0 a (a + 2) (xL i) := zx_leaf (fun e hE => hE.2 (i, 0) hm) (fun _ _ _ _ q => zr_iload hd hm q)
theorem zx_lload_n {k : Fin 4} {i : Nat} (hd : decode (zcc M) a = .ok (.lload_n k, 1)) (hi : (k : Nat) = i) (hm : (i, 1) ∈ Γ) : zEx M Γ n 1 a (a + 1) (xL i) := zx_leaf (fun e hE => hE.2 (i, 1) hm) (fun _ _ _ _ q => zr_lload_n hd hi hm q)
theorem zx_lload {i : Nat} (hd : decode (zcc M) a = .ok (.lload i, 2)) (hm : (i, 1) ∈ Γ) : zEx M Γ n 1 a (a + 2) (xL i) := zx_leaf (fun e hE => hE.2 (i, 1) hm) (fun _ _ _ _ q => zr_lload hd hm q)
theorem zx_zload_n {k : Fin 4} {i : Nat} (hd : decode (zcc M) a = .ok (.iload_n k, 1)) (hi : (k : Nat) = i) (hm : (i, 4) ∈ Γ) : zEx M Γ n 4 a (a + 1) (xL i) := zx_leaf (fun e hE => hE.2 (i, 4) hm) (fun _ _ _ _ q => zr_zload_n hd hi hm q)
theorem zx_zload {i : Nat} (hd : decode (zcc M) a = .ok (.iload i, 2)) (hm : (i, 4) ∈ Γ) : zEx M Γ n 4 a (a + 2) (xL i) := zx_leaf (fun e hE => hE.2 (i, 4) hm) (fun _ _ _ _ q => zr_zload hd hm q)
theorem zx_aload_n {k : Fin 4} {i : Nat} (hd : decode (zcc M) a = .ok (.aload_n k, 1)) (hi : (k : Nat) = i) (ht : 5 ≤ t) (hm : (i, t) ∈ Γ) : zEx M Γ n t a (a + 1) (xL i) := zx_leaf (fun e hE => hE.2 (i, t) hm) (fun _ _ _ _ q => zr_aload_n hd hi ht hm q)
theorem zx_aload {i : Nat} (hd : decode (zcc M) a = .ok (.aload i, 2)) (ht : 5 ≤ t) (hm : (i, t) ∈ Γ) : zEx M Γ n t a (a + 2) (xL i) := zx_leaf (fun e hE => hE.2 (i, t) hm) (fun _ _ _ _ q => zr_aload hd ht hm q)
theorem inR_o {o : Nat} {x : Int} (h : inR (o + 10) x) : x = o ∧ 0 ≤ x ∧ x < 43 := by
  have h2 : x = ((o + 10 : Nat) : Int) - 10 ∧ 0 ≤ x ∧ x < 43 := h
  omega
theorem inR_of {o : Nat} (h : o < 43) : inR (o + 10) (o : Int) := by
  show (o : Int) = ((o + 10 : Nat) : Int) - 10 ∧ 0 ≤ (o : Int) ∧ (o : Int) < 43
  omega
theorem zx_this {o i : Nat} {k : Fin 4} {w : Int} (hd : decode (zcc M) a = .ok (.aload_n k, 1)) (hi : (k : Nat) = i) (hw : w = (o : Int)) (ho : o < 43) (hm : (i, o + 10) ∈ Γ) : zEx M Γ n (o + 10) a (a + 1) (xC w) := by
  subst hw
  refine zx_leaf (w := fun _ => (o : Int)) (fun e hE => inR_of ho) (fun e σ st hE q => zr_aload_n hd hi (by omega) hm ?_)
  have h0 : zg e i = (o : Int) := (inR_o (hE.2 (i, o + 10) hm)).1
  rw [h0]
  exact q
theorem zx_path {o o2 k index N : Nat} {C : String} {T : u_T} {w w2 : Int} (hf : zEx M Γ n (o + 10) a b (xC w)) (hw0 : w = (o : Int)) (ho : o < 43) (hc : vwCl[zcl (o + 10)]? = some (C, T, N)) (hN : zln (o + 10) = N) (hk : k < N) (hin : ∀ w ∈ u_ws C T N, w ∈ zTs M)
    (hw : Cond.fieldLink (zown M) index (T k).1 (T k).2.1 (T k).2.2.1 ∈ zTs M) (hft : zft (zcl (o + 10)) k = 2) (hs : zsh o k = o2) (hw2 : w2 = (o2 : Int)) (hd : decode (zcc M) b = .ok (.getfield index, 3)) : zEx M Γ n (o2 + 10) a (b + 3) (xC w2) := by
  subst hw2
  subst hw0
  intro e σ v τ st hok hE h hwt
  cases h
  obtain ⟨⟨r1, r2⟩, k1⟩ := hf e σ o σ st hok hE rfl hwt
  refine ⟨⟨inR_of (Nat.lt_trans (hs ▸ zsh_lt o k) (by decide)), hok⟩, fun kn => k1 ?_⟩
  refine zr_getr (by omega) (by omega) r1 hc hN hk hin hw hft (t2 := o2 + 10) (by omega) (fun u hu => ?_) hd kn
  have hou : o = u := by omega
  subst hou
  rw [hs]; simp
theorem zx_sub (hf : zEx M Γ n 4 a b f) : zEx M Γ n 0 a b f := by
  intro e σ v τ st hok hE h hwt
  obtain ⟨⟨r1, r2⟩, k1⟩ := hf e σ v τ st hok hE h hwt
  refine ⟨⟨?_, r2⟩, fun kn => k1 ?_⟩
  · rcases r1 with rfl | rfl
    · exact ⟨by decide, by decide⟩
    · exact ⟨by decide, by decide⟩
  · exact kn
theorem zx_un {op : Int → Int} (hf : zEx M Γ n t1 a b f) (hs : ∀ e st σ x, inR t1 x → inR t (op x) ∧ (zRn M d Γ e ((t, op x) :: st) σ → zRn M b Γ e ((t1, x) :: st) σ)) : zEx M Γ n t a d (xU op f) := by
  intro e σ v τ st hok hE h hwt
  obtain ⟨⟨x, σ1⟩, h1, h2⟩ := Option.bind_eq_some_iff.mp h
  cases h2
  obtain ⟨⟨r1, r2⟩, k1⟩ := hf e σ x _ st hok hE h1 hwt
  obtain ⟨r3, k3⟩ := hs e st _ x r1
  exact ⟨⟨r3, r2⟩, fun k => k1 (k3 k)⟩
theorem zx_bin {op : Int → Int → Int} {c : Nat} (hf : zEx M Γ n t1 a b f) (hg : zEx M Γ (n + zcat t1) t2 b c g) (hs : ∀ e st σ x y, inR t1 x → inR t2 y → inR t (op x y) ∧ (zRn M d Γ e ((t, op x y) :: st) σ → zRn M c Γ e ((t2, y) :: (t1, x) :: st) σ)) : zEx M Γ n t a d (xB op f g) := by
  intro e σ v τ st hok hE h hwt
  obtain ⟨⟨x, σ1⟩, h1, h2⟩ := Option.bind_eq_some_iff.mp h
  obtain ⟨⟨y, σ2⟩, h3, h4⟩ := Option.bind_eq_some_iff.mp h2
  cases h4
  obtain ⟨⟨r1, o1⟩, k1⟩ := hf e σ x σ1 st hok hE h1 hwt
  obtain ⟨⟨r2, o2⟩, k2⟩ := hg e σ1 y _ ((t1, x) :: st) o1 hE h3 (by rw [zwt_cons]; omega)
  obtain ⟨r3, k3⟩ := hs e st _ x y r1 r2
  exact ⟨⟨r3, o2⟩, fun k => k1 (k2 (k3 k))⟩
theorem zx_dv {op : Int → Int → Int} {c : Nat} (hf : zEx M Γ n t1 a b f) (hg : zEx M Γ (n + zcat t1) t2 b c g) (hs : ∀ e st σ x y, inR t1 x → inR t2 y → y ≠ 0 → inR t (op x y) ∧ (zRn M d Γ e ((t, op x y) :: st) σ → zRn M c Γ e ((t2, y) :: (t1, x) :: st) σ)) : zEx M Γ n t a d (xD op f g) := by
  intro e σ v τ st hok hE h hwt
  obtain ⟨⟨x, σ1⟩, h1, h2⟩ := Option.bind_eq_some_iff.mp h
  obtain ⟨⟨y, σ2⟩, h3, h4⟩ := Option.bind_eq_some_iff.mp h2
  dsimp only at h4
  by_cases hy : y = 0
  · rw [if_pos hy] at h4; cases h4
  rw [if_neg hy] at h4
  cases h4
  obtain ⟨⟨r1, o1⟩, k1⟩ := hf e σ x σ1 st hok hE h1 hwt
  obtain ⟨⟨r2, o2⟩, k2⟩ := hg e σ1 y _ ((t1, x) :: st) o1 hE h3 (by rw [zwt_cons]; omega)
  obtain ⟨r3, k3⟩ := hs e st _ x y r1 r2 hy
  exact ⟨⟨r3, o2⟩, fun k => k1 (k2 (k3 k))⟩
def o_iadd (x y : Int) : Int := w32 (x + y)
theorem zx_iadd {c : Nat} (hf : zEx M Γ n 0 a b f) (hg : zEx M Γ (n + 1) 0 b c g) (hd : decode (zcc M) c = .ok (.iadd, 1)) : zEx M Γ n 0 a (c + 1) (xB o_iadd f g) := zx_bin hf hg (fun _ _ _ _ _ _ _ => ⟨w32_r _, fun k => zr_iadd hd k⟩)
def o_isub (x y : Int) : Int := w32 (x - y)
theorem zx_isub {c : Nat} (hf : zEx M Γ n 0 a b f) (hg : zEx M Γ (n + 1) 0 b c g) (hd : decode (zcc M) c = .ok (.isub, 1)) : zEx M Γ n 0 a (c + 1) (xB o_isub f g) := zx_bin hf hg (fun _ _ _ _ _ _ _ => ⟨w32_r _, fun k => zr_isub hd k⟩)
def o_imul (x y : Int) : Int := w32 (x * y)
theorem zx_imul {c : Nat} (hf : zEx M Γ n 0 a b f) (hg : zEx M Γ (n + 1) 0 b c g) (hd : decode (zcc M) c = .ok (.imul, 1)) : zEx M Γ n 0 a (c + 1) (xB o_imul f g) := zx_bin hf hg (fun _ _ _ _ _ _ _ => ⟨w32_r _, fun k => zr_imul hd k⟩)
def o_ladd (x y : Int) : Int := w64 (x + y)
theorem zx_ladd {c : Nat} (hf : zEx M Γ n 1 a b f) (hg : zEx M Γ (n + 2) 1 b c g) (hd : decode (zcc M) c = .ok (.ladd, 1)) : zEx M Γ n 1 a (c + 1) (xB o_ladd f g) := zx_bin hf hg (fun _ _ _ _ _ _ _ => ⟨w64_r _, fun k => zr_ladd hd k⟩)
def o_lsub (x y : Int) : Int := w64 (x - y)
theorem zx_lsub {c : Nat} (hf : zEx M Γ n 1 a b f) (hg : zEx M Γ (n + 2) 1 b c g) (hd : decode (zcc M) c = .ok (.lsub, 1)) : zEx M Γ n 1 a (c + 1) (xB o_lsub f g) := zx_bin hf hg (fun _ _ _ _ _ _ _ => ⟨w64_r _, fun k => zr_lsub hd k⟩)
def o_lmul (x y : Int) : Int := w64 (x * y)
theorem zx_lmul {c : Nat} (hf : zEx M Γ n 1 a b f) (hg : zEx M Γ (n + 2) 1 b c g) (hd : decode (zcc M) c = .ok (.lmul, 1)) : zEx M Γ n 1 a (c + 1) (xB o_lmul f g) := zx_bin hf hg (fun _ _ _ _ _ _ _ => ⟨w64_r _, fun k => zr_lmul hd k⟩)
theorem zx_iand {c : Nat} (hf : zEx M Γ n 0 a b f) (hg : zEx M Γ (n + 1) 0 b c g) (hd : decode (zcc M) c = .ok (.iand, 1)) : zEx M Γ n 0 a (c + 1) (xB zAnd f g) := zx_bin hf hg (fun _ _ _ _ _ _ _ => ⟨z32_rt _, fun k => zr_iand hd k⟩)
theorem zx_ior {c : Nat} (hf : zEx M Γ n 0 a b f) (hg : zEx M Γ (n + 1) 0 b c g) (hd : decode (zcc M) c = .ok (.ior, 1)) : zEx M Γ n 0 a (c + 1) (xB zOr f g) := zx_bin hf hg (fun _ _ _ _ _ _ _ => ⟨z32_rt _, fun k => zr_ior hd k⟩)
theorem zx_ixor {c : Nat} (hf : zEx M Γ n 0 a b f) (hg : zEx M Γ (n + 1) 0 b c g) (hd : decode (zcc M) c = .ok (.ixor, 1)) : zEx M Γ n 0 a (c + 1) (xB zXor f g) := zx_bin hf hg (fun _ _ _ _ _ _ _ => ⟨z32_rt _, fun k => zr_ixor hd k⟩)
theorem zx_ishl {c : Nat} (hf : zEx M Γ n 0 a b f) (hg : zEx M Γ (n + 1) 0 b c g) (hd : decode (zcc M) c = .ok (.ishl, 1)) : zEx M Γ n 0 a (c + 1) (xB zShl f g) := zx_bin hf hg (fun _ _ _ _ _ _ _ => ⟨z32_rt _, fun k => zr_ishl hd k⟩)
theorem zx_ishr {c : Nat} (hf : zEx M Γ n 0 a b f) (hg : zEx M Γ (n + 1) 0 b c g) (hd : decode (zcc M) c = .ok (.ishr, 1)) : zEx M Γ n 0 a (c + 1) (xB zShr f g) := zx_bin hf hg (fun _ _ _ _ _ _ _ => ⟨z32_rt _, fun k => zr_ishr hd k⟩)
theorem zx_iushr {c : Nat} (hf : zEx M Γ n 0 a b f) (hg : zEx M Γ (n + 1) 0 b c g) (hd : decode (zcc M) c = .ok (.iushr, 1)) : zEx M Γ n 0 a (c + 1) (xB zUshr f g) := zx_bin hf hg (fun _ _ _ _ _ _ _ => ⟨z32_rt _, fun k => zr_iushr hd k⟩)
theorem zx_lshr {c : Nat} (hf : zEx M Γ n 1 a b f) (hg : zEx M Γ (n + 2) 0 b c g) (hd : decode (zcc M) c = .ok (.lshr, 1)) : zEx M Γ n 1 a (c + 1) (xB zLshr f g) := zx_bin hf hg (fun _ _ _ _ _ _ _ => ⟨z64_rt _, fun k => zr_lshr hd k⟩)
theorem zmod_r32 {x y : Int} (hx : r32 x) (hy : r32 y) : r32 (zmod x y) := by
  have h : zmod x y = (Int32.ofInt x % Int32.ofInt y).toInt := by rw [Int32.toInt_mod, z32_ti hx, z32_ti hy]; rfl
  rw [h]; exact z32_rt _
theorem zmod_r64 {x y : Int} (hx : r64 x) (hy : r64 y) : r64 (zmod x y) := by
  have h : zmod x y = (Int64.ofInt x % Int64.ofInt y).toInt := by rw [Int64.toInt_mod, z64_ti hx, z64_ti hy]; rfl
  rw [h]; exact z64_rt _
theorem zx_idiv {c : Nat} (hf : zEx M Γ n 0 a b f) (hg : zEx M Γ (n + 1) 0 b c g) (hd : decode (zcc M) c = .ok (.idiv, 1)) : zEx M Γ n 0 a (c + 1) (xD zdiv f g) := zx_dv hf hg (fun _ _ _ _ _ hx hy h0 => ⟨w32_r _, fun k => zr_idiv hx hy h0 hd k⟩)
theorem zx_irem {c : Nat} (hf : zEx M Γ n 0 a b f) (hg : zEx M Γ (n + 1) 0 b c g) (hd : decode (zcc M) c = .ok (.irem, 1)) : zEx M Γ n 0 a (c + 1) (xD zmod f g) := zx_dv hf hg (fun _ _ _ _ _ hx hy h0 => ⟨zmod_r32 hx hy, fun k => zr_irem hx hy h0 hd k⟩)
theorem zx_ldiv {c : Nat} (hf : zEx M Γ n 1 a b f) (hg : zEx M Γ (n + 2) 1 b c g) (hd : decode (zcc M) c = .ok (.ldiv, 1)) : zEx M Γ n 1 a (c + 1) (xD zldiv f g) := zx_dv hf hg (fun _ _ _ _ _ hx hy h0 => ⟨w64_r _, fun k => zr_ldiv hx hy h0 hd k⟩)
theorem zx_lrem {c : Nat} (hf : zEx M Γ n 1 a b f) (hg : zEx M Γ (n + 2) 1 b c g) (hd : decode (zcc M) c = .ok (.lrem, 1)) : zEx M Γ n 1 a (c + 1) (xD zmod f g) := zx_dv hf hg (fun _ _ _ _ _ hx hy h0 => ⟨zmod_r64 hx hy, fun k => zr_lrem hx hy h0 hd k⟩)
theorem zx_ineg (hf : zEx M Γ n 0 a b f) (hd : decode (zcc M) b = .ok (.ineg, 1)) : zEx M Γ n 0 a (b + 1) (xU zneg f) := zx_un hf (fun _ _ _ _ _ => ⟨w32_r _, fun k => zr_ineg hd k⟩)
def o_i2l (x : Int) : Int := x
theorem zx_i2l (hf : zEx M Γ n 0 a b f) (hd : decode (zcc M) b = .ok (.i2l, 1)) : zEx M Γ n 1 a (b + 1) f := by
  intro e σ v τ st hok hE h hwt
  obtain ⟨⟨r1, r2⟩, k1⟩ := hf e σ v τ st hok hE h hwt
  exact ⟨⟨⟨by have := r1.1; omega, by have := r1.2; omega⟩, r2⟩, fun k => k1 (zr_i2l r1 hd k)⟩
theorem zx_i2b (hf : zEx M Γ n 0 a b f) (hd : decode (zcc M) b = .ok (.i2b, 1)) : zEx M Γ n 0 a (b + 1) (xU zi2b f) := zx_un hf (fun _ _ _ x _ => ⟨⟨by have h1 := (Int32.ofInt x).toInt8.le_toInt; unfold zi2b; omega, by have h1 := (Int32.ofInt x).toInt8.toInt_lt; unfold zi2b; omega⟩, fun k => zr_i2b hd k⟩)
theorem zx_i2s (hf : zEx M Γ n 0 a b f) (hd : decode (zcc M) b = .ok (.i2s, 1)) : zEx M Γ n 0 a (b + 1) (xU zi2s f) := zx_un hf (fun _ _ _ x _ => ⟨⟨by have h1 := (Int32.ofInt x).toInt16.le_toInt; unfold zi2s; omega, by have h1 := (Int32.ofInt x).toInt16.toInt_lt; unfold zi2s; omega⟩, fun k => zr_i2s hd k⟩)
/-- a place's value is of the place's kind -/
theorem zOk_f {σ : zHp} {o k ci tt : Nat} (h : zOk σ) (hc : zoc o = ci) (hl : ci < 100) (hf : zft ci k = tt) (h2 : ¬ tt = 2) : inR tt (σ o k) := by
  have h1 := h.1 o k
  have : zst o k = tt := by
    unfold zst
    rw [if_neg (by omega), if_neg (by omega), if_neg (by omega), hc, hf, if_neg h2]
  rw [this] at h1; exact h1
theorem zx_fld {k index N : Nat} {w : Int} {C : String} {T : u_T} (hf : zEx M Γ n t a b f) (ht : 5 ≤ t) (h7 : t ≤ 7 ∨ 10 ≤ t) (hc : vwCl[zcl t]? = some (C, T, N)) (hN : zln t = N) (hk : k < N) (hin : ∀ w ∈ u_ws C T N, w ∈ zTs M)
    (hw : Cond.fieldLink (zown M) index (T k).1 (T k).2.1 (T k).2.2.1 ∈ zTs M) (hft : zft (zcl t) k = t2) (h2 : ¬ t2 = 2) (hwk : w = (k : Int)) (hd : decode (zcc M) b = .ok (.getfield index, 3)) : zEx M Γ n t2 a (b + 3) (xF f w) := by
  subst hwk
  intro e σ v τ st hok hE h hwt
  obtain ⟨⟨x, σ1⟩, h1, h3⟩ := Option.bind_eq_some_iff.mp h
  cases h3
  obtain ⟨⟨r1, o1⟩, k1⟩ := hf e σ x _ st hok hE h1 hwt
  refine ⟨⟨?_, o1⟩, fun kn => k1 (zr_getf ht h7 r1 hc hN hk hin hw hft h2 hd kn)⟩
  obtain ⟨o, q1, rfl, q3, q4⟩ := zcl_ok ht h7 r1
  exact zOk_f o1 q3 (zcl_lt hc) hft h2
theorem zx_fldS {o k index N : Nat} {w w2 : Int} {C : String} {T : u_T} (hf : zEx M Γ n (o + 10) a b (xC w)) (hc : vwCl[zcl (o + 10)]? = some (C, T, N)) (hN : zln (o + 10) = N) (hk : k < N) (hin : ∀ w ∈ u_ws C T N, w ∈ zTs M)
    (hw : Cond.fieldLink (zown M) index (T k).1 (T k).2.1 (T k).2.2.1 ∈ zTs M) (hft : zft (zcl (o + 10)) k = t2) (h2 : ¬ t2 = 2) (hwk : w2 = (k : Int)) (hd : decode (zcc M) b = .ok (.getfield index, 3)) : zEx M Γ n t2 a (b + 3) (xG w w2) :=
  zx_fld hf (by omega) (by omega) hc hN hk hin hw hft h2 hwk hd
/-- a sheet's row -/
theorem zx_num {index : Nat} (hf : zEx M Γ n 5 a b f) (hin : ∀ w ∈ u_ws RX6 TX6 4, w ∈ zTs M) (hw : Cond.fieldLink (zown M) index (TX6 0).1 (TX6 0).2.1 (TX6 0).2.2.1 ∈ zTs M) (hd : decode (zcc M) b = .ok (.getfield index, 3)) : zEx M Γ n 6 a (b + 3) (xU (fun x => x + 1) f) := by
  refine zx_un hf (fun e st σ x hx => ⟨?_, fun kn => zr_getr (t2 := 6) (N := 4) (k := 0) (by decide) (by decide) hx rfl rfl (by decide) hin hw rfl (by decide) (fun o ho => ?_) hd kn⟩)
  · rcases hx with rfl | rfl | rfl | rfl
    · exact Or.inl rfl
    · exact Or.inr (Or.inl rfl)
    · exact Or.inr (Or.inr (Or.inl rfl))
    · exact Or.inr (Or.inr (Or.inr rfl))
  · rcases hx with rfl | rfl | rfl | rfl
    · have : o = 29 := by omega
      subst this; rfl
    · have : o = 31 := by omega
      subst this; rfl
    · have : o = 33 := by omega
      subst this; rfl
    · have : o = 35 := by omega
      subst this; rfl
theorem zx_iald {c : Nat} {N : Int} (hf : zEx M Γ n t a b f) (hg : zEx M Γ (n + 1) 0 b c g) (ht : 5 ≤ t) (h7 : zpr M t) (hc : zcl t = 100) (hN : (zln t : Int) = N) (hd : decode (zcc M) c = .ok (.iaload, 1)) : zEx M Γ n 0 a (c + 1) (xA f N g) := by
  have hcat : zcat t = 1 := by unfold zcat; split <;> first | omega | rfl
  subst hN
  intro e σ v τ st hok hE h hwt
  obtain ⟨⟨x, σ1⟩, h1, h2⟩ := Option.bind_eq_some_iff.mp h
  obtain ⟨⟨i, σ2⟩, h3, h4⟩ := Option.bind_eq_some_iff.mp h2
  dsimp only at h4
  by_cases hi : 0 ≤ i ∧ i < (zln t : Int)
  case neg => rw [if_neg hi] at h4; cases h4
  rw [if_pos hi] at h4
  cases h4
  obtain ⟨⟨r1, o1⟩, k1⟩ := hf e σ x σ1 st hok hE h1 hwt
  obtain ⟨⟨r2, o2⟩, k2⟩ := hg e σ1 i _ ((t, x) :: st) o1 hE h3 (by rw [zwt_cons]; omega)
  refine ⟨⟨?_, o2⟩, fun k => k1 (k2 (zr_iald ht h7 r1 hc hi.1 hi.2 hd k))⟩
  obtain ⟨o, q1, rfl, q3, q4⟩ := zcl_ok ht (zp_7 h7) r1
  obtain ⟨j, rfl⟩ : ∃ j : Nat, i = j := ⟨i.toNat, by omega⟩
  have h9 := o2.1 o j
  have : zst o j = 0 := by unfold zst; rw [q3, hc]; rfl
  rw [this] at h9; exact h9
theorem zx_ialdS {c o : Nat} {N w : Int} (hf : zEx M Γ n (o + 10) a b (xC w)) (hg : zEx M Γ (n + 1) 0 b c g) (h7 : zpr M (o + 10)) (hc : zcl (o + 10) = 100) (hN : (zln (o + 10) : Int) = N) (hd : decode (zcc M) c = .ok (.iaload, 1)) : zEx M Γ n 0 a (c + 1) (xE w N g) :=
  zx_iald hf hg (by omega) h7 hc hN hd
theorem zx_lald {c : Nat} {N : Int} (hf : zEx M Γ n t a b f) (hg : zEx M Γ (n + 1) 0 b c g) (ht : 5 ≤ t) (h7 : zpr M t) (hc : zcl t = 101) (hN : (zln t : Int) = N) (hd : decode (zcc M) c = .ok (.laload, 1)) : zEx M Γ n 1 a (c + 1) (xA f N g) := by
  have hcat : zcat t = 1 := by unfold zcat; split <;> first | omega | rfl
  subst hN
  intro e σ v τ st hok hE h hwt
  obtain ⟨⟨x, σ1⟩, h1, h2⟩ := Option.bind_eq_some_iff.mp h
  obtain ⟨⟨i, σ2⟩, h3, h4⟩ := Option.bind_eq_some_iff.mp h2
  dsimp only at h4
  by_cases hi : 0 ≤ i ∧ i < (zln t : Int)
  case neg => rw [if_neg hi] at h4; cases h4
  rw [if_pos hi] at h4
  cases h4
  obtain ⟨⟨r1, o1⟩, k1⟩ := hf e σ x σ1 st hok hE h1 hwt
  obtain ⟨⟨r2, o2⟩, k2⟩ := hg e σ1 i _ ((t, x) :: st) o1 hE h3 (by rw [zwt_cons]; omega)
  refine ⟨⟨?_, o2⟩, fun k => k1 (k2 (zr_lald ht h7 r1 hc hi.1 hi.2 hd k))⟩
  obtain ⟨o, q1, rfl, q3, q4⟩ := zcl_ok ht (zp_7 h7) r1
  obtain ⟨j, rfl⟩ : ∃ j : Nat, i = j := ⟨i.toNat, by omega⟩
  have h9 := o2.1 o j
  have : zst o j = 1 := by unfold zst; rw [q3, hc]; rfl
  rw [this] at h9; exact h9
theorem zx_laldS {c o : Nat} {N w : Int} (hf : zEx M Γ n (o + 10) a b (xC w)) (hg : zEx M Γ (n + 1) 0 b c g) (h7 : zpr M (o + 10)) (hc : zcl (o + 10) = 101) (hN : (zln (o + 10) : Int) = N) (hd : decode (zcc M) c = .ok (.laload, 1)) : zEx M Γ n 1 a (c + 1) (xE w N g) :=
  zx_lald hf hg (by omega) h7 hc hN hd
theorem zx_aald {c : Nat} {w : Int} (hf : zEx M Γ n 38 a b (xC w)) (hg : zEx M Γ (n + 1) 0 b c g) (hd : decode (zcc M) c = .ok (.aaload, 1)) : zEx M Γ n 5 a (c + 1) (xH g) := by
  intro e σ v τ st hok hE h hwt
  obtain ⟨⟨i, σ2⟩, h3, h4⟩ := Option.bind_eq_some_iff.mp h
  dsimp only at h4
  by_cases hi : 0 ≤ i ∧ i < 4
  case neg => rw [if_neg hi] at h4; cases h4
  rw [if_pos hi] at h4
  cases h4
  obtain ⟨⟨r1, o1⟩, k1⟩ := hf e σ w σ st hok hE rfl hwt
  have ew : w = 28 := (inR_o (o := 28) r1).1
  subst ew
  obtain ⟨⟨r2, o2⟩, k2⟩ := hg e σ i _ ((38, 28) :: st) o1 hE h3 (by rw [zwt_cons]; have : zcat 38 = 1 := rfl; omega)
  refine ⟨⟨?_, o2⟩, fun k => k1 (k2 (zr_aald hi.1 hi.2 hd k))⟩
  show 29 + 2 * i = 29 ∨ 29 + 2 * i = 31 ∨ 29 + 2 * i = 33 ∨ 29 + 2 * i = 35
  omega
theorem zx_len {N : Int} (hf : zEx M Γ n t a b f) (ht : 5 ≤ t) (h7 : zpr M t) (hc : zcl t = 100) (hN : (zln t : Int) = N) (hd : decode (zcc M) b = .ok (.arraylength, 1)) : zEx M Γ n 0 a (b + 1) (xU (fun _ => N) f) := by
  subst hN
  refine zx_un hf (fun e st σ x hx => ⟨?_, fun kn => zr_alen ht h7 hx hc hd kn⟩)
  obtain ⟨o, q1, rfl, q3, q4⟩ := zcl_ok ht (zp_7 h7) hx
  have := zon_lt o
  exact ⟨by omega, by omega⟩
theorem zx_sld {c L : Nat} {xs : Nat → Int32} (hs : zsc M = some (L, xs)) (hm : (0, 3) ∈ Γ) (hd0 : decode (zcc M) a = .ok (.aload_n 0, 1)) (hg : zEx M Γ (n + 1) 0 (a + 1) c g) (hd : decode (zcc M) c = .ok (.iaload, 1)) : zEx M Γ n 0 a (c + 1) (xT L xs g) := by
  intro e σ v τ st hok hE h hwt
  obtain ⟨⟨i, σ2⟩, h3, h4⟩ := Option.bind_eq_some_iff.mp h
  dsimp only at h4
  by_cases hi : 0 ≤ i ∧ i < (L : Int)
  case neg => rw [if_neg hi] at h4; cases h4
  rw [if_pos hi] at h4
  cases h4
  obtain ⟨⟨r2, o2⟩, k2⟩ := hg e σ i _ ((3, 0) :: st) hok hE h3 (by rw [zwt_cons]; have : zcat 3 = 1 := rfl; omega)
  exact ⟨⟨z32_rt _, o2⟩, fun k => zr_saload_n hd0 rfl hm (k2 (zr_sld hs hi.1 hi.2 rfl hd k))⟩
theorem zx_slen {L : Nat} {xs : Nat → Int32} {w : Int} (hs : zsc M = some (L, xs)) (hL : L < 2147483648) (hw : w = (L : Int)) (hm : (0, 3) ∈ Γ) (hd0 : decode (zcc M) a = .ok (.aload_n 0, 1)) (hd : decode (zcc M) (a + 1) = .ok (.arraylength, 1)) : zEx M Γ n 0 a (a + 2) (xC w) := by
  subst hw
  exact zx_leaf (w := fun _ => (L : Int)) (fun _ _ => ⟨by omega, by omega⟩) (fun e σ st hE k => zr_saload_n hd0 rfl hm (zr_slen hs hd k))
def o_max (x y : Int) : Int := if x < y then y else x
def o_min (x y : Int) : Int := if y < x then y else x
def o_maxl (x y : Int) : Int := if y < x then x else y
def o_abs (x : Int) : Int := if 0 ≤ x then x else zneg x
theorem zx_max {c index : Nat} (hf : zEx M Γ n 0 a b f) (hg : zEx M Γ (n + 1) 0 b c g) (hw1 : Cond.methodLink (zown M) index Lib.Math.max.name ∈ zTs M) (hw2 : Cond.static Lib.Math.max.name ∈ zTs M) (hw3 : Cond.initialized "java/lang/Math" ∈ zTs M) (hw4 : Cond.code Lib.Math.max.name Lib.Math.max.code 2 (some .int) ∈ zTs M)
    (hfr : 1 ≤ zfr M) (hlo : n + 13 ≤ zlo M) (hd : decode (zcc M) c = .ok (.invokestatic index, 3)) : zEx M Γ n 0 a (c + 3) (xB o_max f g) := by
  intro e σ v τ st hok hE h hwt
  obtain ⟨⟨x, σ1⟩, h1, h2⟩ := Option.bind_eq_some_iff.mp h
  obtain ⟨⟨y, σ2⟩, h3, h4⟩ := Option.bind_eq_some_iff.mp h2
  cases h4
  obtain ⟨⟨r1, o1⟩, k1⟩ := hf e σ x σ1 st hok hE h1 hwt
  obtain ⟨⟨r2, o2⟩, k2⟩ := hg e σ1 y _ ((0, x) :: st) o1 hE h3 (by rw [zwt_cons]; have : zcat 0 = 1 := rfl; omega)
  refine ⟨⟨?_, o2⟩, fun k => k1 (k2 (zr_mmax r1 r2 hw1 hw2 hw3 hw4 hfr (by omega) hd k))⟩
  show inR 0 (o_max x y)
  unfold o_max
  split
  · exact r2
  · exact r1
theorem zx_min {c index : Nat} (hf : zEx M Γ n 0 a b f) (hg : zEx M Γ (n + 1) 0 b c g) (hw1 : Cond.methodLink (zown M) index Lib.Math.min.name ∈ zTs M) (hw2 : Cond.static Lib.Math.min.name ∈ zTs M) (hw3 : Cond.initialized "java/lang/Math" ∈ zTs M) (hw4 : Cond.code Lib.Math.min.name Lib.Math.min.code 2 (some .int) ∈ zTs M)
    (hfr : 1 ≤ zfr M) (hlo : n + 13 ≤ zlo M) (hd : decode (zcc M) c = .ok (.invokestatic index, 3)) : zEx M Γ n 0 a (c + 3) (xB o_min f g) := by
  intro e σ v τ st hok hE h hwt
  obtain ⟨⟨x, σ1⟩, h1, h2⟩ := Option.bind_eq_some_iff.mp h
  obtain ⟨⟨y, σ2⟩, h3, h4⟩ := Option.bind_eq_some_iff.mp h2
  cases h4
  obtain ⟨⟨r1, o1⟩, k1⟩ := hf e σ x σ1 st hok hE h1 hwt
  obtain ⟨⟨r2, o2⟩, k2⟩ := hg e σ1 y _ ((0, x) :: st) o1 hE h3 (by rw [zwt_cons]; have : zcat 0 = 1 := rfl; omega)
  refine ⟨⟨?_, o2⟩, fun k => k1 (k2 (zr_mmin r1 r2 hw1 hw2 hw3 hw4 hfr (by omega) hd k))⟩
  show inR 0 (o_min x y)
  unfold o_min
  split
  · exact r2
  · exact r1
theorem zx_maxl {c index : Nat} (hf : zEx M Γ n 1 a b f) (hg : zEx M Γ (n + 2) 1 b c g) (hw1 : Cond.methodLink (zown M) index Lib.MathLoose.max_long.x ∈ zTs M) (hw2 : Cond.static Lib.MathLoose.max_long.x ∈ zTs M) (hw3 : Cond.initialized "java/lang/Math" ∈ zTs M) (hw4 : Cond.code Lib.MathLoose.max_long.x Lib.MathLoose.max_long.code 4 (some .long) ∈ zTs M)
    (hfr : 1 ≤ zfr M) (hlo : n + 15 ≤ zlo M) (hd : decode (zcc M) c = .ok (.invokestatic index, 3)) : zEx M Γ n 1 a (c + 3) (xB o_maxl f g) := by
  intro e σ v τ st hok hE h hwt
  obtain ⟨⟨x, σ1⟩, h1, h2⟩ := Option.bind_eq_some_iff.mp h
  obtain ⟨⟨y, σ2⟩, h3, h4⟩ := Option.bind_eq_some_iff.mp h2
  cases h4
  obtain ⟨⟨r1, o1⟩, k1⟩ := hf e σ x σ1 st hok hE h1 hwt
  obtain ⟨⟨r2, o2⟩, k2⟩ := hg e σ1 y _ ((1, x) :: st) o1 hE h3 (by rw [zwt_cons]; have : zcat 1 = 2 := rfl; omega)
  refine ⟨⟨?_, o2⟩, fun k => k1 (k2 (zr_mmaxl r1 r2 hw1 hw2 hw3 hw4 hfr (by omega) hd k))⟩
  show inR 1 (o_maxl x y)
  unfold o_maxl
  split
  · exact r1
  · exact r2
theorem zx_abs {index : Nat} (hf : zEx M Γ n 0 a b f) (hw1 : Cond.methodLink (zown M) index Lib.Math.abs.name ∈ zTs M) (hw2 : Cond.static Lib.Math.abs.name ∈ zTs M) (hw3 : Cond.initialized "java/lang/Math" ∈ zTs M) (hw4 : Cond.code Lib.Math.abs.name Lib.Math.abs.code 1 (some .int) ∈ zTs M)
    (hfr : 1 ≤ zfr M) (hlo : n + 13 ≤ zlo M) (hd : decode (zcc M) b = .ok (.invokestatic index, 3)) : zEx M Γ n 0 a (b + 3) (xU o_abs f) := by
  intro e σ v τ st hok hE h hwt
  obtain ⟨⟨x, σ1⟩, h1, h2⟩ := Option.bind_eq_some_iff.mp h
  cases h2
  obtain ⟨⟨r1, o1⟩, k1⟩ := hf e σ x _ st hok hE h1 hwt
  refine ⟨⟨?_, o1⟩, fun k => k1 (zr_mabs r1 hw1 hw2 hw3 hw4 hfr (by omega) hd k)⟩
  show inR 0 (o_abs x)
  unfold o_abs
  split
  · exact r1
  · exact w32_r _
theorem zx_ite {cc2 : zC} {b1 j b2 c : Nat} {off : Int} (hc : zCn M Γ n a b1 b2 cc2) (hf : zEx M Γ n t b1 j f) (hd : decode (zcc M) j = .ok (.goto off, 3)) (ht : (j : Int) + off = (c : Int)) (hg : zEx M Γ n t b2 c g) : zEx M Γ n t a c (xI cc2 f g) := by
  intro e σ v τ st hok hE h hwt
  obtain ⟨⟨x, σ1⟩, h1, h2⟩ := Option.bind_eq_some_iff.mp h
  obtain ⟨o1, k1⟩ := hc e σ x σ1 st hok hE h1 hwt
  cases x
  · obtain ⟨r, k2⟩ := hg e σ1 v τ st o1 hE h2 hwt
    exact ⟨r, fun k => k1 (k2 k)⟩
  · obtain ⟨r, k2⟩ := hf e σ1 v τ st o1 hE h2 hwt
    exact ⟨r, fun k => k1 (k2 (zr_goto hd ht k))⟩
theorem zx_z {cc2 : zC} {b1 b2 c : Nat} {off : Int} (hc : zCn M Γ n a b1 b2 cc2) (hd1 : decode (zcc M) b1 = .ok (.iconst 1, 1)) (hd : decode (zcc M) (b1 + 1) = .ok (.goto off, 3)) (ht : ((b1 + 1 : Nat) : Int) + off = (c : Int)) (hd2 : decode (zcc M) b2 = .ok (.iconst 0, 1)) (hc2 : b2 + 1 = c) : zEx M Γ n 4 a c (xZ cc2) := by
  intro e σ v τ st hok hE h hwt
  obtain ⟨⟨x, σ1⟩, h1, h2⟩ := Option.bind_eq_some_iff.mp h
  cases h2
  obtain ⟨o1, k1⟩ := hc e σ x _ st hok hE h1 hwt
  subst hc2
  cases x
  · exact ⟨⟨Or.inl rfl, o1⟩, fun k => k1 (zr_iconst hd2 rfl k)⟩
  · exact ⟨⟨Or.inr rfl, o1⟩, fun k => k1 (zr_iconst hd1 rfl (zr_goto hd ht k))⟩
theorem za_nil : zAr M Γ n [] a a aN := by
  intro e σ vs τ st hok hE h hwt
  cases h
  exact ⟨⟨trivial, hok⟩, fun k => k⟩
theorem zsa_cons {ts : List Nat} {vs : List Int} {x : Int} (st : List (Nat × Int)) : zsa (t :: ts) (x :: vs) ++ st = zsa ts vs ++ (t, x) :: st := by
  simp [zsa]
theorem za_cons {ts : List Nat} {c m : Nat} {fs : zAs} (hf : zEx M Γ n t a b f) (hm : n + zcat t = m) (hg : zAr M Γ m ts b c fs) : zAr M Γ n (t :: ts) a c (aC f fs) := by
  subst hm
  intro e σ vs τ st hok hE h hwt
  obtain ⟨⟨x, σ1⟩, h1, h2⟩ := Option.bind_eq_some_iff.mp h
  obtain ⟨⟨ys, σ2⟩, h3, h4⟩ := Option.bind_eq_some_iff.mp h2
  cases h4
  obtain ⟨⟨r1, o1⟩, k1⟩ := hf e σ x σ1 st hok hE h1 hwt
  obtain ⟨⟨r2, o2⟩, k2⟩ := hg e σ1 ys _ ((t, x) :: st) o1 hE h3 (by rw [zwt_cons]; omega)
  refine ⟨⟨⟨r1, r2⟩, o2⟩, fun k => k1 (k2 ?_)⟩
  rw [← zsa_cons]
  exact k
section CALLS
variable {y : MethodName} {cc2 : ByteArray} {maxL fr lo rt index c nn : Nat} {ret : Option FieldType} {ws ws2 : List Cond} {ts : List Nat} {fs : zAs} {mm : List Int → zHp → Option (Int × zHp)} {nd ab : List Nat} {sc : zSc}
theorem zx_callS (ha : zAr M Γ n ts a c fs) (hc : zCon y ws nd ab sc fr lo ts rt mm) (hu : zFor M nd ab sc) (hrt : rt = 0 ∨ rt = 1 ∨ rt = 4) (hws : ws = Cond.code y cc2 maxL ret :: ws2) (hG : GoodIn (zTs M) (va_wsS (zown M) index y ws)) (hn : ts.length = nn)
    (hy : y.cls ≠ "java/lang/invoke/MethodHandle" ∧ y.cls ≠ "java/lang/invoke/VarHandle" ∧ (parseMethodDescriptor y.desc).map (fun d => d.parameters.length) = some nn) (hR : fr + 1 ≤ zfr M ∧ 8 + (maxL + 11) + lo ≤ zlo M) (hn8 : n ≤ 8) (hd : decode (zcc M) c = .ok (.invokestatic index, 3)) : zEx M Γ n rt a (c + 3) (xK mm fs) := by
  intro e σ v τ st hok hE h hwt
  obtain ⟨⟨xs, σ1⟩, h1, h2⟩ := Option.bind_eq_some_iff.mp h
  obtain ⟨⟨r1, o1⟩, k1⟩ := ha e σ xs σ1 st hok hE h1 hwt
  have hr9 : ¬ rt = 9 := by omega
  refine ⟨?_, fun k => k1 (zr_callS hc hu (by omega) o1 r1 h2 hws hG hn hy hR (by omega) hd ?_)⟩
  · obtain ⟨q1, q2, -⟩ := hc.1 xs σ1 v τ o1 r1 h2
    exact ⟨q1.resolve_left hr9, q2⟩
  · have : zrs rt v = [(rt, v)] := by unfold zrs; split <;> first | omega | rfl
    rw [this]; exact k
theorem zx_callV {C : String} {T : u_T} {N : Nat} (ha : zAr M Γ n (t :: ts) a c fs) (hc : zCon y ws nd ab sc fr lo (t :: ts) rt mm) (hu : zFor M nd ab sc) (hrt : rt = 0 ∨ rt = 1 ∨ rt = 4) (ht : 5 ≤ t) (h7 : t ≤ 7 ∨ 10 ≤ t) (hcl : vwCl[zcl t]? = some (C, T, N)) (hws : ws = Cond.code y cc2 maxL ret :: ws2) (hG : GoodIn (zTs M) (wsV (zown M) index C y ws)) (hn : ts.length = nn)
    (hy : y.cls = C ∧ y.cls ≠ "java/lang/invoke/MethodHandle" ∧ y.cls ≠ "java/lang/invoke/VarHandle" ∧ (parseMethodDescriptor y.desc).map (fun d => d.parameters.length) = some nn) (hR : fr + 1 ≤ zfr M ∧ 8 + (maxL + 11) + lo ≤ zlo M) (hn8 : n ≤ 8) (hd : decode (zcc M) c = .ok (.invokevirtual index, 3)) : zEx M Γ n rt a (c + 3) (xK mm fs) := by
  intro e σ v τ st hok hE h hwt
  obtain ⟨⟨xs, σ1⟩, h1, h2⟩ := Option.bind_eq_some_iff.mp h
  obtain ⟨⟨r1, o1⟩, k1⟩ := ha e σ xs σ1 st hok hE h1 hwt
  have hr9 : ¬ rt = 9 := by omega
  cases xs with
  | nil => exact r1.elim
  | cons x xs =>
    refine ⟨?_, fun k => k1 (zr_callV hc hu (by omega) o1 ht h7 r1 hcl h2 hws hG hn hy hR (by omega) hd ?_)⟩
    · obtain ⟨q1, q2, -⟩ := hc.1 (x :: xs) σ1 v τ o1 r1 h2
      exact ⟨q1.resolve_left hr9, q2⟩
    · have : zrs rt v = [(rt, v)] := by unfold zrs; split <;> first | omega | rfl
      rw [this]; exact k
end CALLS
end ZX
