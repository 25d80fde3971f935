def r_eq (x y : Int) : Bool := decide (x = y)
def r_ne (x y : Int) : Bool := decide (¬ x = y)
def r_lt (x y : Int) : Bool := decide (x < y)
def r_ge (x y : Int) : Bool := decide (x ≥ y)
def r_gt (x y : Int) : Bool := decide (x > y)
def r_le (x y : Int) : Bool := decide (x ≤ y)
def rb (x : Int) : Bool := decide (¬ x = 0)
section ZCN
variable {M : zM} {Γ : List (Nat × Nat)} {a b c d n tt ff : Nat} {f g : zX}
def zOp (M : zM) (Γ : List (Nat × Nat)) (t c : Nat) (op : Int → Int → Int) : Prop := ∀ (e : List Int) (st : List (Nat × Int)) (σ : zHp) (u v : Int), inR t u → inR t v → inR t (op u v) ∧ (zRn M (c + 1) Γ e ((t, op u v) :: st) σ → zRn M c Γ e ((t, v) :: (t, u) :: st) σ)
theorem zc_2 {rel : Int → Int → Bool} {t : Nat} (hf : zEx M Γ n t a b f) (hg : zEx M Γ (n + zcat t) t b c g) (hs : ∀ e st σ x y, inR t x → inR t y → zRn M (if rel x y then tt else ff) Γ e st σ → zRn M c Γ e ((t, y) :: (t, x) :: st) σ) : zCn M Γ n a tt ff (cR rel f g) := by
  intro e σ v τ st hok hE h hwt
  obtain ⟨⟨x, σ1⟩, h1, h2⟩ := Option.bind_eq_some_iff.mp h
  obtain ⟨⟨y, σ2⟩, h3, h4⟩ := Option.bind_eq_some_iff.mp h2
  cases h4
  obtain ⟨⟨r1, o1⟩, k1⟩ := hf e σ x σ1 st hok hE h1 hwt
  obtain ⟨⟨r2, o2⟩, k2⟩ := hg e σ1 y _ ((t, x) :: st) o1 hE h3 (by rw [zwt_cons]; omega)
  exact ⟨o2, fun k => k1 (k2 (hs e st _ x y r1 r2 k))⟩
theorem zc_1 {rel : Int → Int → Bool} {rel2 : Int → Bool} (hf : zEx M Γ n 0 a b f) (hs : ∀ e st σ x, inR 0 x → zRn M (if rel2 x then tt else ff) Γ e st σ → zRn M b Γ e ((0, x) :: st) σ) : zCn M Γ n a tt ff (cV rel2 f) := by
  intro e σ v τ st hok hE h hwt
  obtain ⟨⟨x, σ1⟩, h1, h2⟩ := Option.bind_eq_some_iff.mp h
  cases h2
  obtain ⟨⟨r1, o1⟩, k1⟩ := hf e σ x _ st hok hE h1 hwt
  exact ⟨o1, fun k => k1 (hs e st _ x r1 k)⟩
theorem zc_b {off : Int} {tgt : Nat} (hf : zEx M Γ n 0 a b f) (hd : decode (zcc M) b = .ok (.ifCond .ne off, 3)) (ht : (b : Int) + off = (tgt : Int)) : zCn M Γ n a tgt (b + 3) (cV rb f) :=
  zc_1 (rel := fun _ _ => true) hf (fun e st σ x hx k => zr_if_ne hx hd ht (fun q => by rw [show rb x = true by simp [rb, q]] at k; exact k) (fun q => by rw [show rb x = false by simpa [rb] using q] at k; exact k))
theorem zc_bN {off : Int} {tgt : Nat} (hf : zEx M Γ n 0 a b f) (hd : decode (zcc M) b = .ok (.ifCond .eq off, 3)) (ht : (b : Int) + off = (tgt : Int)) : zCn M Γ n a (b + 3) tgt (cV rb f) :=
  zc_1 (rel := fun _ _ => true) hf (fun e st σ x hx k => zr_if_eq hx hd ht (fun q => by rw [show rb x = false by simp [rb, q]] at k; exact k) (fun q => by rw [show rb x = true by simp [rb, q]] at k; exact k))
theorem zc_and {m : Nat} {f g : zC} (hf : zCn M Γ n a m ff f) (hg : zCn M Γ n m tt ff g) : zCn M Γ n a tt ff (cA f g) := by
  intro e σ v τ st hok hE h hwt
  obtain ⟨⟨x, σ1⟩, h1, h2⟩ := Option.bind_eq_some_iff.mp h
  obtain ⟨o1, k1⟩ := hf e σ x σ1 st hok hE h1 hwt
  cases x
  · cases h2
    exact ⟨o1, k1⟩
  · obtain ⟨o2, k2⟩ := hg e σ1 v τ st o1 hE h2 hwt
    exact ⟨o2, fun k => k1 (k2 k)⟩
theorem zc_or {m : Nat} {f g : zC} (hf : zCn M Γ n a tt m f) (hg : zCn M Γ n m tt ff g) : zCn M Γ n a tt ff (cO f g) := by
  intro e σ v τ st hok hE h hwt
  obtain ⟨⟨x, σ1⟩, h1, h2⟩ := Option.bind_eq_some_iff.mp h
  obtain ⟨o1, k1⟩ := hf e σ x σ1 st hok hE h1 hwt
  cases x
  · obtain ⟨o2, k2⟩ := hg e σ1 v τ st o1 hE h2 hwt
    exact ⟨o2, fun k => k1 (k2 k)⟩
  · cases h2
    exact ⟨o1, k1⟩
theorem zc_not {f : zC} (hf : zCn M Γ n a tt ff f) : zCn M Γ n a ff tt (cN f) := by
  intro e σ v τ st hok hE h hwt
  obtain ⟨⟨x, σ1⟩, h1, h2⟩ := Option.bind_eq_some_iff.mp h
  cases h2
  obtain ⟨o1, k1⟩ := hf e σ x _ st hok hE h1 hwt
  refine ⟨o1, fun k => k1 ?_⟩
  cases x <;> exact k
theorem zc_icmp_eq {off : Int} {tgt : Nat} (hf : zEx M Γ n 0 a b f) (hg : zEx M Γ (n + 1) 0 b c g) (hd : decode (zcc M) c = .ok (.if_icmp .eq off, 3)) (ht : (c : Int) + off = (tgt : Int)) : zCn M Γ n a tgt (c + 3) (cR r_eq f g) :=
  zc_2 hf hg (fun e st σ x y hx hy k => zr_icmp_eq hx hy hd ht (fun q => by rw [show r_eq x y = true by unfold r_eq; exact decide_eq_true q] at k; exact k) (fun q => by rw [show r_eq x y = false by unfold r_eq; exact decide_eq_false q] at k; exact k))
theorem zc_icmpN_eq {off : Int} {tgt : Nat} (hf : zEx M Γ n 0 a b f) (hg : zEx M Γ (n + 1) 0 b c g) (hd : decode (zcc M) c = .ok (.if_icmp .ne off, 3)) (ht : (c : Int) + off = (tgt : Int)) : zCn M Γ n a (c + 3) tgt (cR r_eq f g) :=
  zc_2 hf hg (fun e st σ x y hx hy k => zr_icmp_ne hx hy hd ht (fun q => by rw [show r_eq x y = false by unfold r_eq; exact decide_eq_false (by omega)] at k; exact k) (fun q => by rw [show r_eq x y = true by unfold r_eq; exact decide_eq_true (by omega)] at k; exact k))
theorem zc_if_eq {off : Int} {tgt : Nat} (hf : zEx M Γ n 0 a b f) (hd : decode (zcc M) b = .ok (.ifCond .eq off, 3)) (ht : (b : Int) + off = (tgt : Int)) : zCn M Γ n a tgt (b + 3) (cV (fun x => r_eq x 0) f) :=
  zc_1 (rel := fun _ _ => true) hf (fun e st σ x hx k => zr_if_eq hx hd ht (fun q => by rw [show r_eq x 0 = true by unfold r_eq; exact decide_eq_true q] at k; exact k) (fun q => by rw [show r_eq x 0 = false by unfold r_eq; exact decide_eq_false q] at k; exact k))
theorem zc_ifN_eq {off : Int} {tgt : Nat} (hf : zEx M Γ n 0 a b f) (hd : decode (zcc M) b = .ok (.ifCond .ne off, 3)) (ht : (b : Int) + off = (tgt : Int)) : zCn M Γ n a (b + 3) tgt (cV (fun x => r_eq x 0) f) :=
  zc_1 (rel := fun _ _ => true) hf (fun e st σ x hx k => zr_if_ne hx hd ht (fun q => by rw [show r_eq x 0 = false by unfold r_eq; exact decide_eq_false (by omega)] at k; exact k) (fun q => by rw [show r_eq x 0 = true by unfold r_eq; exact decide_eq_true (by omega)] at k; exact k))
theorem zc_lcmp_eq {off : Int} {tgt : Nat} (hf : zEx M Γ n 1 a b f) (hg : zEx M Γ (n + 2) 1 b c g) (hd0 : decode (zcc M) c = .ok (.lcmp, 1)) (hd : decode (zcc M) (c + 1) = .ok (.ifCond .eq off, 3)) (ht : ((c + 1 : Nat) : Int) + off = (tgt : Int)) : zCn M Γ n a tgt (c + 4) (cR r_eq f g) :=
  zc_2 hf hg (fun e st σ x y hx hy k => zr_lcmp_eq hx hy hd0 hd ht (fun q => by rw [show r_eq x y = true by unfold r_eq; exact decide_eq_true q] at k; exact k) (fun q => by rw [show r_eq x y = false by unfold r_eq; exact decide_eq_false q] at k; exact k))
theorem zc_lcmpN_eq {off : Int} {tgt : Nat} (hf : zEx M Γ n 1 a b f) (hg : zEx M Γ (n + 2) 1 b c g) (hd0 : decode (zcc M) c = .ok (.lcmp, 1)) (hd : decode (zcc M) (c + 1) = .ok (.ifCond .ne off, 3)) (ht : ((c + 1 : Nat) : Int) + off = (tgt : Int)) : zCn M Γ n a (c + 4) tgt (cR r_eq f g) :=
  zc_2 hf hg (fun e st σ x y hx hy k => zr_lcmp_ne hx hy hd0 hd ht (fun q => by rw [show r_eq x y = false by unfold r_eq; exact decide_eq_false (by omega)] at k; exact k) (fun q => by rw [show r_eq x y = true by unfold r_eq; exact decide_eq_true (by omega)] at k; exact k))
theorem zc_icmp_ne {off : Int} {tgt : Nat} (hf : zEx M Γ n 0 a b f) (hg : zEx M Γ (n + 1) 0 b c g) (hd : decode (zcc M) c = .ok (.if_icmp .ne off, 3)) (ht : (c : Int) + off = (tgt : Int)) : zCn M Γ n a tgt (c + 3) (cR r_ne f g) :=
  zc_2 hf hg (fun e st σ x y hx hy k => zr_icmp_ne hx hy hd ht (fun q => by rw [show r_ne x y = true by unfold r_ne; exact decide_eq_true q] at k; exact k) (fun q => by rw [show r_ne x y = false by unfold r_ne; exact decide_eq_false q] at k; exact k))
theorem zc_icmpN_ne {off : Int} {tgt : Nat} (hf : zEx M Γ n 0 a b f) (hg : zEx M Γ (n + 1) 0 b c g) (hd : decode (zcc M) c = .ok (.if_icmp .eq off, 3)) (ht : (c : Int) + off = (tgt : Int)) : zCn M Γ n a (c + 3) tgt (cR r_ne f g) :=
  zc_2 hf hg (fun e st σ x y hx hy k => zr_icmp_eq hx hy hd ht (fun q => by rw [show r_ne x y = false by unfold r_ne; exact decide_eq_false (by omega)] at k; exact k) (fun q => by rw [show r_ne x y = true by unfold r_ne; exact decide_eq_true (by omega)] at k; exact k))
theorem zc_if_ne {off : Int} {tgt : Nat} (hf : zEx M Γ n 0 a b f) (hd : decode (zcc M) b = .ok (.ifCond .ne off, 3)) (ht : (b : Int) + off = (tgt : Int)) : zCn M Γ n a tgt (b + 3) (cV (fun x => r_ne x 0) f) :=
  zc_1 (rel := fun _ _ => true) hf (fun e st σ x hx k => zr_if_ne hx hd ht (fun q => by rw [show r_ne x 0 = true by unfold r_ne; exact decide_eq_true q] at k; exact k) (fun q => by rw [show r_ne x 0 = false by unfold r_ne; exact decide_eq_false q] at k; exact k))
theorem zc_ifN_ne {off : Int} {tgt : Nat} (hf : zEx M Γ n 0 a b f) (hd : decode (zcc M) b = .ok (.ifCond .eq off, 3)) (ht : (b : Int) + off = (tgt : Int)) : zCn M Γ n a (b + 3) tgt (cV (fun x => r_ne x 0) f) :=
  zc_1 (rel := fun _ _ => true) hf (fun e st σ x hx k => zr_if_eq hx hd ht (fun q => by rw [show r_ne x 0 = false by unfold r_ne; exact decide_eq_false (by omega)] at k; exact k) (fun q => by rw [show r_ne x 0 = true by unfold r_ne; exact decide_eq_true (by omega)] at k; exact k))
theorem zc_lcmp_ne {off : Int} {tgt : Nat} (hf : zEx M Γ n 1 a b f) (hg : zEx M Γ (n + 2) 1 b c g) (hd0 : decode (zcc M) c = .ok (.lcmp, 1)) (hd : decode (zcc M) (c + 1) = .ok (.ifCond .ne off, 3)) (ht : ((c + 1 : Nat) : Int) + off = (tgt : Int)) : zCn M Γ n a tgt (c + 4) (cR r_ne f g) :=
  zc_2 hf hg (fun e st σ x y hx hy k => zr_lcmp_ne hx hy hd0 hd ht (fun q => by rw [show r_ne x y = true by unfold r_ne; exact decide_eq_true q] at k; exact k) (fun q => by rw [show r_ne x y = false by unfold r_ne; exact decide_eq_false q] at k; exact k))
theorem zc_lcmpN_ne {off : Int} {tgt : Nat} (hf : zEx M Γ n 1 a b f) (hg : zEx M Γ (n + 2) 1 b c g) (hd0 : decode (zcc M) c = .ok (.lcmp, 1)) (hd : decode (zcc M) (c + 1) = .ok (.ifCond .eq off, 3)) (ht : ((c + 1 : Nat) : Int) + off = (tgt : Int)) : zCn M Γ n a (c + 4) tgt (cR r_ne f g) :=
  zc_2 hf hg (fun e st σ x y hx hy k => zr_lcmp_eq hx hy hd0 hd ht (fun q => by rw [show r_ne x y = false by unfold r_ne; exact decide_eq_false (by omega)] at k; exact k) (fun q => by rw [show r_ne x y = true by unfold r_ne; exact decide_eq_true (by omega)] at k; exact k))
theorem zc_icmp_lt {off : Int} {tgt : Nat} (hf : zEx M Γ n 0 a b f) (hg : zEx M Γ (n + 1) 0 b c g) (hd : decode (zcc M) c = .ok (.if_icmp .lt off, 3)) (ht : (c : Int) + off = (tgt : Int)) : zCn M Γ n a tgt (c + 3) (cR r_lt f g) :=
  zc_2 hf hg (fun e st σ x y hx hy k => zr_icmp_lt hx hy hd ht (fun q => by rw [show r_lt x y = true by unfold r_lt; exact decide_eq_true q] at k; exact k) (fun q => by rw [show r_lt x y = false by unfold r_lt; exact decide_eq_false q] at k; exact k))
theorem zc_icmpN_lt {off : Int} {tgt : Nat} (hf : zEx M Γ n 0 a b f) (hg : zEx M Γ (n + 1) 0 b c g) (hd : decode (zcc M) c = .ok (.if_icmp .ge off, 3)) (ht : (c : Int) + off = (tgt : Int)) : zCn M Γ n a (c + 3) tgt (cR r_lt f g) :=
  zc_2 hf hg (fun e st σ x y hx hy k => zr_icmp_ge hx hy hd ht (fun q => by rw [show r_lt x y = false by unfold r_lt; exact decide_eq_false (by omega)] at k; exact k) (fun q => by rw [show r_lt x y = true by unfold r_lt; exact decide_eq_true (by omega)] at k; exact k))
theorem zc_if_lt {off : Int} {tgt : Nat} (hf : zEx M Γ n 0 a b f) (hd : decode (zcc M) b = .ok (.ifCond .lt off, 3)) (ht : (b : Int) + off = (tgt : Int)) : zCn M Γ n a tgt (b + 3) (cV (fun x => r_lt x 0) f) :=
  zc_1 (rel := fun _ _ => true) hf (fun e st σ x hx k => zr_if_lt hx hd ht (fun q => by rw [show r_lt x 0 = true by unfold r_lt; exact decide_eq_true q] at k; exact k) (fun q => by rw [show r_lt x 0 = false by unfold r_lt; exact decide_eq_false q] at k; exact k))
theorem zc_ifN_lt {off : Int} {tgt : Nat} (hf : zEx M Γ n 0 a b f) (hd : decode (zcc M) b = .ok (.ifCond .ge off, 3)) (ht : (b : Int) + off = (tgt : Int)) : zCn M Γ n a (b + 3) tgt (cV (fun x => r_lt x 0) f) :=
  zc_1 (rel := fun _ _ => true) hf (fun e st σ x hx k => zr_if_ge hx hd ht (fun q => by rw [show r_lt x 0 = false by unfold r_lt; exact decide_eq_false (by omega)] at k; exact k) (fun q => by rw [show r_lt x 0 = true by unfold r_lt; exact decide_eq_true (by omega)] at k; exact k))
theorem zc_lcmp_lt {off : Int} {tgt : Nat} (hf : zEx M Γ n 1 a b f) (hg : zEx M Γ (n + 2) 1 b c g) (hd0 : decode (zcc M) c = .ok (.lcmp, 1)) (hd : decode (zcc M) (c + 1) = .ok (.ifCond .lt off, 3)) (ht : ((c + 1 : Nat) : Int) + off = (tgt : Int)) : zCn M Γ n a tgt (c + 4) (cR r_lt f g) :=
  zc_2 hf hg (fun e st σ x y hx hy k => zr_lcmp_lt hx hy hd0 hd ht (fun q => by rw [show r_lt x y = true by unfold r_lt; exact decide_eq_true q] at k; exact k) (fun q => by rw [show r_lt x y = false by unfold r_lt; exact decide_eq_false q] at k; exact k))
theorem zc_lcmpN_lt {off : Int} {tgt : Nat} (hf : zEx M Γ n 1 a b f) (hg : zEx M Γ (n + 2) 1 b c g) (hd0 : decode (zcc M) c = .ok (.lcmp, 1)) (hd : decode (zcc M) (c + 1) = .ok (.ifCond .ge off, 3)) (ht : ((c + 1 : Nat) : Int) + off = (tgt : Int)) : zCn M Γ n a (c + 4) tgt (cR r_lt f g) :=
  zc_2 hf hg (fun e st σ x y hx hy k => zr_lcmp_ge hx hy hd0 hd ht (fun q => by rw [show r_lt x y = false by unfold r_lt; exact decide_eq_false (by omega)] at k; exact k) (fun q => by rw [show r_lt x y = true by unfold r_lt; exact decide_eq_true (by omega)] at k; exact k))
theorem zc_icmp_ge {off : Int} {tgt : Nat} (hf : zEx M Γ n 0 a b f) (hg : zEx M Γ (n + 1) 0 b c g) (hd : decode (zcc M) c = .ok (.if_icmp .ge off, 3)) (ht : (c : Int) + off = (tgt : Int)) : zCn M Γ n a tgt (c + 3) (cR r_ge f g) :=
  zc_2 hf hg (fun e st σ x y hx hy k => zr_icmp_ge hx hy hd ht (fun q => by rw [show r_ge x y = true by unfold r_ge; exact decide_eq_true q] at k; exact k) (fun q => by rw [show r_ge x y = false by unfold r_ge; exact decide_eq_false q] at k; exact k))
theorem zc_icmpN_ge {off : Int} {tgt : Nat} (hf : zEx M Γ n 0 a b f) (hg : zEx M Γ (n + 1) 0 b c g) (hd : decode (zcc M) c = .ok (.if_icmp .lt off, 3)) (ht : (c : Int) + off = (tgt : Int)) : zCn M Γ n a (c + 3) tgt (cR r_ge f g) :=
  zc_2 hf hg (fun e st σ x y hx hy k => zr_icmp_lt hx hy hd ht (fun q => by rw [show r_ge x y = false by unfold r_ge; exact decide_eq_false (by omega)] at k; exact k) (fun q => by rw [show r_ge x y = true by unfold r_ge; exact decide_eq_true (by omega)] at k; exact k))
theorem zc_if_ge {off : Int} {tgt : Nat} (hf : zEx M Γ n 0 a b f) (hd : decode (zcc M) b = .ok (.ifCond .ge off, 3)) (ht : (b : Int) + off = (tgt : Int)) : zCn M Γ n a tgt (b + 3) (cV (fun x => r_ge x 0) f) :=
  zc_1 (rel := fun _ _ => true) hf (fun e st σ x hx k => zr_if_ge hx hd ht (fun q => by rw [show r_ge x 0 = true by unfold r_ge; exact decide_eq_true q] at k; exact k) (fun q => by rw [show r_ge x 0 = false by unfold r_ge; exact decide_eq_false q] at k; exact k))
theorem zc_ifN_ge {off : Int} {tgt : Nat} (hf : zEx M Γ n 0 a b f) (hd : decode (zcc M) b = .ok (.ifCond .lt off, 3)) (ht : (b : Int) + off = (tgt : Int)) : zCn M Γ n a (b + 3) tgt (cV (fun x => r_ge x 0) f) :=
  zc_1 (rel := fun _ _ => true) hf (fun e st σ x hx k => zr_if_lt hx hd ht (fun q => by rw [show r_ge x 0 = false by unfold r_ge; exact decide_eq_false (by omega)] at k; exact k) (fun q => by rw [show r_ge x 0 = true by unfold r_ge; exact decide_eq_true (by omega)] at k; exact k))
theorem zc_lcmp_ge {off : Int} {tgt : Nat} (hf : zEx M Γ n 1 a b f) (hg : zEx M Γ (n + 2) 1 b c g) (hd0 : decode (zcc M) c = .ok (.lcmp, 1)) (hd : decode (zcc M) (c + 1) = .ok (.ifCond .ge off, 3)) (ht : ((c + 1 : Nat) : Int) + off = (tgt : Int)) : zCn M Γ n a tgt (c + 4) (cR r_ge f g) :=
  zc_2 hf hg (fun e st σ x y hx hy k => zr_lcmp_ge hx hy hd0 hd ht (fun q => by rw [show r_ge x y = true by unfold r_ge; exact decide_eq_true q] at k; exact k) (fun q => by rw [show r_ge x y = false by unfold r_ge; exact decide_eq_false q] at k; exact k))
theorem zc_lcmpN_ge {off : Int} {tgt : Nat} (hf : zEx M Γ n 1 a b f) (hg : zEx M Γ (n + 2) 1 b c g) (hd0 : decode (zcc M) c = .ok (.lcmp, 1)) (hd : decode (zcc M) (c + 1) = .ok (.ifCond .lt off, 3)) (ht : ((c + 1 : Nat) : Int) + off = (tgt : Int)) : zCn M Γ n a (c + 4) tgt (cR r_ge f g) :=
  zc_2 hf hg (fun e st σ x y hx hy k => zr_lcmp_lt hx hy hd0 hd ht (fun q => by rw [show r_ge x y = false by unfold r_ge; exact decide_eq_false (by omega)] at k; exact k) (fun q => by rw [show r_ge x y = true by unfold r_ge; exact decide_eq_true (by omega)] at k; exact k))
theorem zc_icmp_gt {off : Int} {tgt : Nat} (hf : zEx M Γ n 0 a b f) (hg : zEx M Γ (n + 1) 0 b c g) (hd : decode (zcc M) c = .ok (.if_icmp .gt off, 3)) (ht : (c : Int) + off = (tgt : Int)) : zCn M Γ n a tgt (c + 3) (cR r_gt f g) :=
  zc_2 hf hg (fun e st σ x y hx hy k => zr_icmp_gt hx hy hd ht (fun q => by rw [show r_gt x y = true by unfold r_gt; exact decide_eq_true q] at k; exact k) (fun q => by rw [show r_gt x y = false by unfold r_gt; exact decide_eq_false q] at k; exact k))
theorem zc_icmpN_gt {off : Int} {tgt : Nat} (hf : zEx M Γ n 0 a b f) (hg : zEx M Γ (n + 1) 0 b c g) (hd : decode (zcc M) c = .ok (.if_icmp .le off, 3)) (ht : (c : Int) + off = (tgt : Int)) : zCn M Γ n a (c + 3) tgt (cR r_gt f g) :=
  zc_2 hf hg (fun e st σ x y hx hy k => zr_icmp_le hx hy hd ht (fun q => by rw [show r_gt x y = false by unfold r_gt; exact decide_eq_false (by omega)] at k; exact k) (fun q => by rw [show r_gt x y = true by unfold r_gt; exact decide_eq_true (by omega)] at k; exact k))
theorem zc_if_gt {off : Int} {tgt : Nat} (hf : zEx M Γ n 0 a b f) (hd : decode (zcc M) b = .ok (.ifCond .gt off, 3)) (ht : (b : Int) + off = (tgt : Int)) : zCn M Γ n a tgt (b + 3) (cV (fun x => r_gt x 0) f) :=
  zc_1 (rel := fun _ _ => true) hf (fun e st σ x hx k => zr_if_gt hx hd ht (fun q => by rw [show r_gt x 0 = true by unfold r_gt; exact decide_eq_true q] at k; exact k) (fun q => by rw [show r_gt x 0 = false by unfold r_gt; exact decide_eq_false q] at k; exact k))
theorem zc_ifN_gt {off : Int} {tgt : Nat} (hf : zEx M Γ n 0 a b f) (hd : decode (zcc M) b = .ok (.ifCond .le off, 3)) (ht : (b : Int) + off = (tgt : Int)) : zCn M Γ n a (b + 3) tgt (cV (fun x => r_gt x 0) f) :=
  zc_1 (rel := fun _ _ => true) hf (fun e st σ x hx k => zr_if_le hx hd ht (fun q => by rw [show r_gt x 0 = false by unfold r_gt; exact decide_eq_false (by omega)] at k; exact k) (fun q => by rw [show r_gt x 0 = true by unfold r_gt; exact decide_eq_true (by omega)] at k; exact k))
theorem zc_lcmp_gt {off : Int} {tgt : Nat} (hf : zEx M Γ n 1 a b f) (hg : zEx M Γ (n + 2) 1 b c g) (hd0 : decode (zcc M) c = .ok (.lcmp, 1)) (hd : decode (zcc M) (c + 1) = .ok (.ifCond .gt off, 3)) (ht : ((c + 1 : Nat) : Int) + off = (tgt : Int)) : zCn M Γ n a tgt (c + 4) (cR r_gt f g) :=
  zc_2 hf hg (fun e st σ x y hx hy k => zr_lcmp_gt hx hy hd0 hd ht (fun q => by rw [show r_gt x y = true by unfold r_gt; exact decide_eq_true q] at k; exact k) (fun q => by rw [show r_gt x y = false by unfold r_gt; exact decide_eq_false q] at k; exact k))
theorem zc_lcmpN_gt {off : Int} {tgt : Nat} (hf : zEx M Γ n 1 a b f) (hg : zEx M Γ (n + 2) 1 b c g) (hd0 : decode (zcc M) c = .ok (.lcmp, 1)) (hd : decode (zcc M) (c + 1) = .ok (.ifCond .le off, 3)) (ht : ((c + 1 : Nat) : Int) + off = (tgt : Int)) : zCn M Γ n a (c + 4) tgt (cR r_gt f g) :=
  zc_2 hf hg (fun e st σ x y hx hy k => zr_lcmp_le hx hy hd0 hd ht (fun q => by rw [show r_gt x y = false by unfold r_gt; exact decide_eq_false (by omega)] at k; exact k) (fun q => by rw [show r_gt x y = true by unfold r_gt; exact decide_eq_true (by omega)] at k; exact k))
theorem zc_icmp_le {off : Int} {tgt : Nat} (hf : zEx M Γ n 0 a b f) (hg : zEx M Γ (n + 1) 0 b c g) (hd : decode (zcc M) c = .ok (.if_icmp .le off, 3)) (ht : (c : Int) + off = (tgt : Int)) : zCn M Γ n a tgt (c + 3) (cR r_le f g) :=
  zc_2 hf hg (fun e st σ x y hx hy k => zr_icmp_le hx hy hd ht (fun q => by rw [show r_le x y = true by unfold r_le; exact decide_eq_true q] at k; exact k) (fun q => by rw [show r_le x y = false by unfold r_le; exact decide_eq_false q] at k; exact k))
theorem zc_icmpN_le {off : Int} {tgt : Nat} (hf : zEx M Γ n 0 a b f) (hg : zEx M Γ (n + 1) 0 b c g) (hd : decode (zcc M) c = .ok (.if_icmp .gt off, 3)) (ht : (c : Int) + off = (tgt : Int)) : zCn M Γ n a (c + 3) tgt (cR r_le f g) :=
  zc_2 hf hg (fun e st σ x y hx hy k => zr_icmp_gt hx hy hd ht (fun q => by rw [show r_le x y = false by unfold r_le; exact decide_eq_false (by omega)] at k; exact k) (fun q => by rw [show r_le x y = true by unfold r_le; exact decide_eq_true (by omega)] at k; exact k))
theorem zc_if_le {off : Int} {tgt : Nat} (hf : zEx M Γ n 0 a b f) (hd : decode (zcc M) b = .ok (.ifCond .le off, 3)) (ht : (b : Int) + off = (tgt : Int)) : zCn M Γ n a tgt (b + 3) (cV (fun x => r_le x 0) f) :=
  zc_1 (rel := fun _ _ => true) hf (fun e st σ x hx k => zr_if_le hx hd ht (fun q => by rw [show r_le x 0 = true by unfold r_le; exact decide_eq_true q] at k; exact k) (fun q => by rw [show r_le x 0 = false by unfold r_le; exact decide_eq_false q] at k; exact k))
theorem zc_ifN_le {off : Int} {tgt : Nat} (hf : zEx M Γ n 0 a b f) (hd : decode (zcc M) b = .ok (.ifCond .gt off, 3)) (ht : (b : Int) + off = (tgt : Int)) : zCn M Γ n a (b + 3) tgt (cV (fun x => r_le x 0) f) :=
  zc_1 (rel := fun _ _ => true) hf (fun e st σ x hx k => zr_if_gt hx hd ht (fun q => by rw [show r_le x 0 = false by unfold r_le; exact decide_eq_false (by omega)] at k; exact k) (fun q => by rw [show r_le x 0 = true by unfold r_le; exact decide_eq_true (by omega)] at k; exact k))
theorem zc_lcmp_le {off : Int} {tgt : Nat} (hf : zEx M Γ n 1 a b f) (hg : zEx M Γ (n + 2) 1 b c g) (hd0 : decode (zcc M) c = .ok (.lcmp, 1)) (hd : decode (zcc M) (c + 1) = .ok (.ifCond .le off, 3)) (ht : ((c + 1 : Nat) : Int) + off = (tgt : Int)) : zCn M Γ n a tgt (c + 4) (cR r_le f g) :=
  zc_2 hf hg (fun e st σ x y hx hy k => zr_lcmp_le hx hy hd0 hd ht (fun q => by rw [show r_le x y = true by unfold r_le; exact decide_eq_true q] at k; exact k) (fun q => by rw [show r_le x y = false by unfold r_le; exact decide_eq_false q] at k; exact k))
theorem zc_lcmpN_le {off : Int} {tgt : Nat} (hf : zEx M Γ n 1 a b f) (hg : zEx M Γ (n + 2) 1 b c g) (hd0 : decode (zcc M) c = .ok (.lcmp, 1)) (hd : decode (zcc M) (c + 1) = .ok (.ifCond .gt off, 3)) (ht : ((c + 1 : Nat) : Int) + off = (tgt : Int)) : zCn M Γ n a (c + 4) tgt (cR r_le f g) :=
  zc_2 hf hg (fun e st σ x y hx hy k => zr_lcmp_gt hx hy hd0 hd ht (fun q => by rw [show r_le x y = false by unfold r_le; exact decide_eq_false (by omega)] at k; exact k) (fun q => by rw [show r_le x y = true by unfold r_le; exact decide_eq_true (by omega)] at k; exact k))
theorem zo_iadd (hd : decode (zcc M) c = .ok (.iadd, 1)) : zOp M Γ 0 c o_iadd := fun _ _ _ _ _ _ _ => ⟨w32_r _, fun k => zr_iadd hd k⟩
theorem zo_isub (hd : decode (zcc M) c = .ok (.isub, 1)) : zOp M Γ 0 c o_isub := fun _ _ _ _ _ _ _ => ⟨w32_r _, fun k => zr_isub hd k⟩
theorem zo_imul (hd : decode (zcc M) c = .ok (.imul, 1)) : zOp M Γ 0 c o_imul := fun _ _ _ _ _ _ _ => ⟨w32_r _, fun k => zr_imul hd k⟩
theorem zo_ladd (hd : decode (zcc M) c = .ok (.ladd, 1)) : zOp M Γ 1 c o_ladd := fun _ _ _ _ _ _ _ => ⟨w64_r _, fun k => zr_ladd hd k⟩
theorem zo_lsub (hd : decode (zcc M) c = .ok (.lsub, 1)) : zOp M Γ 1 c o_lsub := fun _ _ _ _ _ _ _ => ⟨w64_r _, fun k => zr_lsub hd k⟩
theorem zo_lmul (hd : decode (zcc M) c = .ok (.lmul, 1)) : zOp M Γ 1 c o_lmul := fun _ _ _ _ _ _ _ => ⟨w64_r _, fun k => zr_lmul hd k⟩
theorem zo_iand (hd : decode (zcc M) c = .ok (.iand, 1)) : zOp M Γ 0 c zAnd := fun _ _ _ _ _ _ _ => ⟨z32_rt _, fun k => zr_iand hd k⟩
theorem zo_ior (hd : decode (zcc M) c = .ok (.ior, 1)) : zOp M Γ 0 c zOr := fun _ _ _ _ _ _ _ => ⟨z32_rt _, fun k => zr_ior hd k⟩
theorem zo_ixor (hd : decode (zcc M) c = .ok (.ixor, 1)) : zOp M Γ 0 c zXor := fun _ _ _ _ _ _ _ => ⟨z32_rt _, fun k => zr_ixor hd k⟩
end ZCN
section ZS
variable {M : zM} {Γ Γ2 Γ3 : List (Nat × Nat)} {a b d t n : Nat} {X : Nat → Nat × List (Nat × Nat)} {f g : zS} {x h : zX}
theorem zwt_nil : zwt [] = 0 := rfl
theorem zs_skip : zSt M Γ a a Γ X sK := by
  intro e σ t u τ ho hE hf
  cases hf
  exact ⟨ho, fun _ => ⟨hE, fun k => k⟩, fun h => (by cases h), fun h => by omega⟩
theorem zs_goto {off : Int} (hf : zSt M Γ a b Γ2 X f) (hd : decode (zcc M) b = .ok (.goto off, 3)) (ht : (b : Int) + off = (d : Int)) : zSt M Γ a d Γ2 X f := by
  intro e σ t u τ ho hE h
  obtain ⟨q1, q2, q3, q4⟩ := hf e σ t u τ ho hE h
  exact ⟨q1, fun z => ⟨(q2 z).1, fun k => (q2 z).2 (zr_goto hd ht k)⟩, q3, q4⟩
theorem zs_seq (hf : zSt M Γ a b Γ2 X f) (hg : zSt M Γ2 b d Γ3 X g) : zSt M Γ a d Γ3 X (sQ f g) := by
  intro e σ t u τ ho hE h
  obtain ⟨⟨t1, u1, τ1⟩, h1, h2⟩ := Option.bind_eq_some_iff.mp h
  obtain ⟨q1, q2, q3, q4⟩ := hf e σ t1 u1 τ1 ho hE h1
  dsimp only at h2
  by_cases ht : t1 = 0
  · rw [if_pos ht] at h2
    obtain ⟨hE1, k1⟩ := q2 ht
    obtain ⟨p1, p2, p3, p4⟩ := hg u1 τ1 t u τ q1 hE1 h2
    exact ⟨p1, fun z => ⟨(p2 z).1, fun k => k1 ((p2 z).2 k)⟩, fun z => ⟨(p3 z).1, fun k => k1 ((p3 z).2 k)⟩, fun z => ⟨(p4 z).1, fun k => k1 ((p4 z).2 k)⟩⟩
  · rw [if_neg ht] at h2
    cases h2
    exact ⟨q1, fun z => absurd z ht, q3, q4⟩
/-- fewer locals known -/
theorem zRn_sub {e : List Int} {st : List (Nat × Int)} {σ : zHp} (hs : ∀ q ∈ Γ2, q ∈ Γ) (k : zRn M a Γ2 e st σ) : zRn M a Γ e st σ := by
  refine ⟨k.1, ?_⟩
  intro p l en R s m args below meth c cells slots Q D cs ad A b H locs ls K hc hr ho hP hS hl
  exact k.2 p l en R s m args below meth c cells slots Q D cs ad A b H locs ls K hc hr ho hP hS ⟨hl.1, hl.2.1, fun q hq => by
    obtain ⟨z, hz, rfl⟩ := List.mem_map.mp hq
    exact hl.2.2 _ (List.mem_map.mpr ⟨z, hs z hz, rfl⟩)⟩
theorem zE_sub {e : List Int} (hs : ∀ q ∈ Γ2, q ∈ Γ) (h : zE M Γ e) : zE M Γ2 e := ⟨h.1, fun q hq => h.2 q (hs q hq)⟩
/-- locals that aren't known may be anything -/
theorem zRn_any {e e2 : List Int} {st : List (Nat × Int)} {σ : zHp} (hs : ∀ q ∈ Γ, zg e2 q.1 = zg e q.1) (k : zRn M a Γ e2 st σ) : zRn M a Γ e st σ := by
  have h : ∀ (ad : Nat → Nat) (b : Nat), zLs ad b Γ e = zLs ad b Γ e2 := fun ad b => List.map_congr_left (fun q hq => by rw [hs q hq])
  refine ⟨k.1, ?_⟩
  intro p l en R s m args below meth c cells slots Q D cs ad A b H locs ls K hc hr ho hP hS hl
  rw [h] at hl
  exact k.2 p l en R s m args below meth c cells slots Q D cs ad A b H locs ls K hc hr ho hP hS hl
theorem zclr_len : ∀ (ks : List Nat) (e : List Int), (zclr ks e).length = e.length
  | [], _ => rfl
  | k :: ks, e => by
    show (zclr ks (e.set k 0)).length = _
    rw [zclr_len ks, List.length_set]
theorem zclr_ne : ∀ (ks : List Nat) (e : List Int) (i : Nat), i ∉ ks → zg (zclr ks e) i = zg e i
  | [], _, _, _ => rfl
  | k :: ks, e, i, h => by
    show zg (zclr ks (e.set k 0)) i = _
    rw [zclr_ne ks _ i (fun q => h (List.mem_cons_of_mem _ q)), zg_set_ne (fun q => h (by rw [q]; exact List.mem_cons_self))]
/-- a block's own locals go -/
theorem zs_blk {ks : List Nat} (hf : zSt M Γ a b Γ3 X f) (hs : ∀ q ∈ Γ2, q ∈ Γ3) (hk : ∀ q ∈ Γ2, q.1 ∉ ks) (hX : ∀ i : Nat, ∀ q ∈ (X i).2, q.1 ∉ ks) : zSt M Γ a b Γ2 X (sD ks f) := by
  intro e σ t u τ ho hE h
  obtain ⟨⟨t1, u1, τ1⟩, h1, h2⟩ := Option.bind_eq_some_iff.mp h
  obtain ⟨q1, q2, q3, q4⟩ := hf e σ t1 u1 τ1 ho hE h1
  dsimp only at h2
  by_cases ht : t1 = 1
  · rw [if_pos ht] at h2
    cases h2
    exact ⟨q1, fun z => by omega, q3, fun z => by omega⟩
  · rw [if_neg ht] at h2
    cases h2
    refine ⟨q1, fun z => ⟨?_, fun k => ?_⟩, fun z => absurd z ht, fun z => ⟨?_, fun k => ?_⟩⟩
    · have h3 := zE_sub hs (q2 z).1
      exact ⟨by rw [zclr_len]; exact h3.1, fun q hq => by rw [zclr_ne ks _ _ (hk q hq)]; exact h3.2 q hq⟩
    · exact (q2 z).2 (zRn_sub hs (zRn_any (fun q hq => zclr_ne ks _ _ (hk q hq)) k))
    · have h3 := (q4 z).1
      exact ⟨by rw [zclr_len]; exact h3.1, fun q hq => by rw [zclr_ne ks _ _ (hX _ q hq)]; exact h3.2 q hq⟩
    · exact (q4 z).2 (zRn_any (fun q hq => zclr_ne ks _ _ (hX _ q hq)) k)
theorem zs_if {c : zC} {b1 b2 : Nat} (hc : zCn M Γ 0 a b1 b2 c) (hf : zSt M Γ b1 d Γ2 X f) (hg : zSt M Γ b2 d Γ2 X g) : zSt M Γ a d Γ2 X (sI c f g) := by
  intro e σ t u τ ho hE h
  obtain ⟨⟨v, σ1⟩, h1, h2⟩ := Option.bind_eq_some_iff.mp h
  obtain ⟨o1, k1⟩ := hc e σ v σ1 [] ho hE h1 (Nat.le_refl 0)
  cases v
  · obtain ⟨p1, p2, p3, p4⟩ := hg e σ1 t u τ o1 hE h2
    exact ⟨p1, fun z => ⟨(p2 z).1, fun k => k1 ((p2 z).2 k)⟩, fun z => ⟨(p3 z).1, fun k => k1 ((p3 z).2 k)⟩, fun z => ⟨(p4 z).1, fun k => k1 ((p4 z).2 k)⟩⟩
  · obtain ⟨p1, p2, p3, p4⟩ := hf e σ1 t u τ o1 hE h2
    exact ⟨p1, fun z => ⟨(p2 z).1, fun k => k1 ((p2 z).2 k)⟩, fun z => ⟨(p3 z).1, fun k => k1 ((p3 z).2 k)⟩, fun z => ⟨(p4 z).1, fun k => k1 ((p4 z).2 k)⟩⟩
def zX0 : Nat → Nat × List (Nat × Nat) := fun _ => (0, [])
theorem zX0_ok {ks : List Nat} : ∀ i : Nat, ∀ q ∈ (zX0 i).2, q.1 ∉ ks := fun _ _ h => absurd h List.not_mem_nil
def zY (b s : Nat) (Γ : List (Nat × Nat)) : Nat → Nat × List (Nat × Nat) := fun i => if i = 2 then (b, Γ) else (s, Γ)
theorem zY_ok {ks : List Nat} {s : Nat} (h : ∀ q ∈ Γ, q.1 ∉ ks) : ∀ i : Nat, ∀ q ∈ (zY b s Γ i).2, q.1 ∉ ks := by
  intro i q hq
  unfold zY at hq
  split at hq <;> exact h q hq
/-- a loop: head a, body b1 to s, step s to a, end b -/
theorem zs_loop {c : zC} {b1 s : Nat} {st : zS} (hc : zCn M Γ 0 a b1 b c) (hf : zSt M Γ b1 s Γ (zY b s Γ) f) (hs : zSt M Γ s a Γ X st) : zSt M Γ a b Γ X (sW c f st) := by
  have key : ∀ (n : Nat) (e : List Int) (σ : zHp) (t : Nat) (u : List Int) (τ : zHp), zOk σ → zE M Γ e → zloop c f st n e σ = some (t, u, τ) →
      zOk τ ∧ (t = 0 → zE M Γ u ∧ (zRn M b Γ u [] τ → zRn M a Γ e [] σ)) ∧ (t = 1 → zrr (zrt M) (zg u 0) ∧ (zpo M (zg u 0) τ ∧ zct τ ≤ zcp M → zRn M a Γ e [] σ)) ∧ (2 ≤ t → zE M (X t).2 u ∧ (zRn M (X t).1 (X t).2 u [] τ → zRn M a Γ e [] σ)) := by
    intro n
    induction n with
    | zero => intro e σ t u τ _ _ h; cases h
    | succ n ih =>
      intro e σ t u τ ho hE h
      obtain ⟨⟨v, σ1⟩, h1, h2⟩ := Option.bind_eq_some_iff.mp h
      obtain ⟨o1, k1⟩ := hc e σ v σ1 [] ho hE h1 (Nat.le_refl 0)
      cases v
      · cases h2
        exact ⟨o1, fun _ => ⟨hE, k1⟩, fun z => (by cases z), fun z => by omega⟩
      · obtain ⟨⟨t2, u2, σ2⟩, h3, h4⟩ := Option.bind_eq_some_iff.mp h2
        obtain ⟨q1, q2, q3, q4⟩ := hf e σ1 t2 u2 σ2 o1 hE h3
        dsimp only at h4
        by_cases ht : t2 = 0 ∨ t2 = 3
        · rw [if_pos ht] at h4
          have hq : zE M Γ u2 ∧ (zRn M s Γ u2 [] σ2 → zRn M b1 Γ e [] σ1) := by
            rcases ht with rfl | rfl
            · exact q2 rfl
            · exact q4 (by decide)
          obtain ⟨⟨t3, u3, σ3⟩, h5, h6⟩ := Option.bind_eq_some_iff.mp h4
          dsimp only at h6
          by_cases ht3 : t3 = 0
          case neg => rw [if_neg ht3] at h6; cases h6
          rw [if_pos ht3] at h6
          obtain ⟨s1, s2, -, -⟩ := hs u2 σ2 t3 u3 σ3 q1 hq.1 h5
          obtain ⟨hE3, k3⟩ := s2 ht3
          obtain ⟨p1, p2, p3, p4⟩ := ih u3 σ3 t u τ s1 hE3 h6
          exact ⟨p1, fun z => ⟨(p2 z).1, fun k => k1 (hq.2 (k3 ((p2 z).2 k)))⟩, fun z => ⟨(p3 z).1, fun k => k1 (hq.2 (k3 ((p3 z).2 k)))⟩, fun z => ⟨(p4 z).1, fun k => k1 (hq.2 (k3 ((p4 z).2 k)))⟩⟩
        · rw [if_neg ht] at h4
          by_cases ht2 : t2 = 2
          · rw [if_pos ht2] at h4
            cases h4
            subst ht2
            obtain ⟨p1, p2⟩ := q4 (by decide)
            exact ⟨q1, fun _ => ⟨p1, fun k => k1 (p2 k)⟩, fun z => (by cases z), fun z => by omega⟩
          · rw [if_neg ht2] at h4
            by_cases ht1 : t2 = 1
            case neg => rw [if_neg ht1] at h4; cases h4
            rw [if_pos ht1] at h4
            cases h4
            exact ⟨q1, fun z => by omega, fun z => ⟨(q3 z).1, fun k => k1 ((q3 z).2 k)⟩, fun z => by omega⟩
  intro e σ t u τ ho hE h
  exact key zfuel e σ t u τ ho hE h
theorem zs_ret (hx : zEx M Γ 0 t a b x) (ht : zrt M = t) (h9 : t = 0 ∨ t = 1 ∨ t = 4) (hd : zri t (zcc M) b) : zSt M Γ a d Γ2 X (sR x) := by
  intro e σ t0 u τ ho hE h
  obtain ⟨⟨v, σ1⟩, h1, h2⟩ := Option.bind_eq_some_iff.mp h
  cases h2
  obtain ⟨⟨r1, o1⟩, k1⟩ := hx e σ v _ [] ho hE h1 (Nat.le_refl 0)
  refine ⟨o1, fun z => (by cases z), fun _ => ⟨Or.inr (by rw [ht]; exact r1), fun hp => k1 ?_⟩, fun z => by omega⟩
  refine ⟨hp.2, ?_⟩
  intro p l en R s m args below meth c cells slots Q D cs ad A bb H locs ls K hc hr hok hP hS hl
  have hw := hr v _ H locs ls b cells slots hp.1 (Or.inr (by rw [ht]; exact r1)) hok hp.2 hc (zW_sub K.2.2.2.2.2.2.2.2.2.2.2.2.2 hP) hS (by rw [ht]; exact hd)
  have e1 : zsv ad bb [(t, v)] = zrv (zrt M) v := by
    rw [ht]
    rcases h9 with rfl | rfl | rfl <;> rfl
  rw [e1]
  exact hw
theorem zs_retv (ht : zrt M = 9) (hd : decode (zcc M) a = .ok (.return_, 1)) : zSt M Γ a d Γ2 X sV := by
  intro e σ t0 u τ ho hE h
  cases h
  refine ⟨ho, fun z => (by cases z), fun _ => ⟨Or.inl ht, fun hp => ?_⟩, fun z => by omega⟩
  refine ⟨hp.2, ?_⟩
  intro p l en R s m args below meth c cells slots Q D cs ad A bb H locs ls K hc hr hok hP hS hl
  have hw := hr 0 σ H locs ls a cells slots hp.1 (Or.inl ht) hok hp.2 hc (zW_sub K.2.2.2.2.2.2.2.2.2.2.2.2.2 hP) hS (by rw [ht]; exact hd)
  rw [ht] at hw
  exact hw
theorem zs_brk (hb : X 2 = (a, Γ2)) (hs : ∀ q ∈ Γ2, q ∈ Γ) : zSt M Γ a d Γ3 X sB := by
  intro e σ t0 u τ ho hE h
  cases h
  refine ⟨ho, fun z => (by cases z), fun z => (by cases z), fun _ => ?_⟩
  rw [hb]
  exact ⟨zE_sub hs hE, fun k => zRn_sub hs k⟩
theorem zs_brkG {off : Int} (hd : decode (zcc M) a = .ok (.goto off, 3)) (ht : (a : Int) + off = (b : Int)) (hb : X 2 = (b, Γ2)) (hs : ∀ q ∈ Γ2, q ∈ Γ) : zSt M Γ a d Γ3 X sB := by
  intro e σ t0 u τ ho hE h
  cases h
  refine ⟨ho, fun z => (by cases z), fun z => (by cases z), fun _ => ?_⟩
  rw [hb]
  exact ⟨zE_sub hs hE, fun k => zr_goto hd ht (zRn_sub hs k)⟩
theorem zs_cntG {off : Int} (hd : decode (zcc M) a = .ok (.goto off, 3)) (ht : (a : Int) + off = (b : Int)) (hb : X 3 = (b, Γ2)) (hs : ∀ q ∈ Γ2, q ∈ Γ) : zSt M Γ a d Γ3 X sC := by
  intro e σ t0 u τ ho hE h
  cases h
  refine ⟨ho, fun z => (by cases z), fun z => (by cases z), fun _ => ?_⟩
  rw [hb]
  exact ⟨zE_sub hs hE, fun k => zr_goto hd ht (zRn_sub hs k)⟩
theorem zs_istore_n {k : Fin 4} {i : Nat} (hx : zEx M Γ 0 0 a b x) (hd : decode (zcc M) b = .ok (.istore_n k, 1)) (hi : (k : Nat) = i) (hn : i < znl M) (h2 : ∀ q ∈ Γ2, q ∈ zset1 i 0 Γ) : zSt M Γ a (b + 1) Γ2 X (sS i x) := by
  intro e σ t0 u τ ho hE h
  obtain ⟨⟨v, σ1⟩, h1, h3⟩ := Option.bind_eq_some_iff.mp h
  cases h3
  obtain ⟨⟨r1, o1⟩, k1⟩ := hx e σ v _ [] ho hE h1 (Nat.le_refl 0)
  exact ⟨o1, fun _ => ⟨zE_sub h2 (zE_set1 hE (by omega) r1), fun k => k1 (zr_istore_n hd hi hn hE.1 (zRn_sub h2 k))⟩, fun z => (by cases z), fun z => by omega⟩
theorem zs_istore {i : Nat} (hx : zEx M Γ 0 0 a b x) (hd : decode (zcc M) b = .ok (.istore i, 2)) (hn : i < znl M) (h2 : ∀ q ∈ Γ2, q ∈ zset1 i 0 Γ) : zSt M Γ a (b + 2) Γ2 X (sS i x) := by
  intro e σ t0 u τ ho hE h
  obtain ⟨⟨v, σ1⟩, h1, h3⟩ := Option.bind_eq_some_iff.mp h
  cases h3
  obtain ⟨⟨r1, o1⟩, k1⟩ := hx e σ v _ [] ho hE h1 (Nat.le_refl 0)
  exact ⟨o1, fun _ => ⟨zE_sub h2 (zE_set1 hE (by omega) r1), fun k => k1 (zr_istore hd hn hE.1 (zRn_sub h2 k))⟩, fun z => (by cases z), fun z => by omega⟩
theorem zs_zstore_n {k : Fin 4} {i : Nat} (hx : zEx M Γ 0 4 a b x) (hd : decode (zcc M) b = .ok (.istore_n k, 1)) (hi : (k : Nat) = i) (hn : i < znl M) (h2 : ∀ q ∈ Γ2, q ∈ zset1 i 4 Γ) : zSt M Γ a (b + 1) Γ2 X (sS i x) := by
  intro e σ t0 u τ ho hE h
  obtain ⟨⟨v, σ1⟩, h1, h3⟩ := Option.bind_eq_some_iff.mp h
  cases h3
  obtain ⟨⟨r1, o1⟩, k1⟩ := hx e σ v _ [] ho hE h1 (Nat.le_refl 0)
  exact ⟨o1, fun _ => ⟨zE_sub h2 (zE_set1 hE (by omega) r1), fun k => k1 (zr_zstore_n hd hi hn hE.1 (zRn_sub h2 k))⟩, fun z => (by cases z), fun z => by omega⟩
theorem zs_zstore {i : Nat} (hx : zEx M Γ 0 4 a b x) (hd : decode (zcc M) b = .ok (.istore i, 2)) (hn : i < znl M) (h2 : ∀ q ∈ Γ2, q ∈ zset1 i 4 Γ) : zSt M Γ a (b + 2) Γ2 X (sS i x) := by
  intro e σ t0 u τ ho hE h
  obtain ⟨⟨v, σ1⟩, h1, h3⟩ := Option.bind_eq_some_iff.mp h
  cases h3
  obtain ⟨⟨r1, o1⟩, k1⟩ := hx e σ v _ [] ho hE h1 (Nat.le_refl 0)
  exact ⟨o1, fun _ => ⟨zE_sub h2 (zE_set1 hE (by omega) r1), fun k => k1 (zr_zstore hd hn hE.1 (zRn_sub h2 k))⟩, fun z => (by cases z), fun z => by omega⟩
theorem zs_lstore_n {k : Fin 4} {i : Nat} (hx : zEx M Γ 0 1 a b x) (hd : decode (zcc M) b = .ok (.lstore_n k, 1)) (hi : (k : Nat) = i) (hn : i + 1 < znl M) (h2 : ∀ q ∈ Γ2, q ∈ zset2 i 1 Γ) : zSt M Γ a (b + 1) Γ2 X (sS i x) := by
  intro e σ t0 u τ ho hE h
  obtain ⟨⟨v, σ1⟩, h1, h3⟩ := Option.bind_eq_some_iff.mp h
  cases h3
  obtain ⟨⟨r1, o1⟩, k1⟩ := hx e σ v _ [] ho hE h1 (Nat.le_refl 0)
  exact ⟨o1, fun _ => ⟨zE_sub h2 (zE_set2 hE (by omega) r1), fun k => k1 (zr_lstore_n hd hi hn hE.1 (zRn_sub h2 k))⟩, fun z => (by cases z), fun z => by omega⟩
theorem zs_lstore {i : Nat} (hx : zEx M Γ 0 1 a b x) (hd : decode (zcc M) b = .ok (.lstore i, 2)) (hn : i + 1 < znl M) (h2 : ∀ q ∈ Γ2, q ∈ zset2 i 1 Γ) : zSt M Γ a (b + 2) Γ2 X (sS i x) := by
  intro e σ t0 u τ ho hE h
  obtain ⟨⟨v, σ1⟩, h1, h3⟩ := Option.bind_eq_some_iff.mp h
  cases h3
  obtain ⟨⟨r1, o1⟩, k1⟩ := hx e σ v _ [] ho hE h1 (Nat.le_refl 0)
  exact ⟨o1, fun _ => ⟨zE_sub h2 (zE_set2 hE (by omega) r1), fun k => k1 (zr_lstore hd hn hE.1 (zRn_sub h2 k))⟩, fun z => (by cases z), fun z => by omega⟩
theorem zs_astore_n {k : Fin 4} {i : Nat} (hx : zEx M Γ 0 t a b x) (h5 : 5 ≤ t) (hd : decode (zcc M) b = .ok (.astore_n k, 1)) (hi : (k : Nat) = i) (hn : i < znl M) (h2 : ∀ q ∈ Γ2, q ∈ zset1 i t Γ) : zSt M Γ a (b + 1) Γ2 X (sS i x) := by
  intro e σ t0 u τ ho hE h
  obtain ⟨⟨v, σ1⟩, h1, h3⟩ := Option.bind_eq_some_iff.mp h
  cases h3
  obtain ⟨⟨r1, o1⟩, k1⟩ := hx e σ v _ [] ho hE h1 (Nat.le_refl 0)
  exact ⟨o1, fun _ => ⟨zE_sub h2 (zE_set1 hE (by omega) r1), fun k => k1 (zr_astore_n hd hi h5 hn hE.1 (zRn_sub h2 k))⟩, fun z => (by cases z), fun z => by omega⟩
theorem zs_astore {i : Nat} (hx : zEx M Γ 0 t a b x) (h5 : 5 ≤ t) (hd : decode (zcc M) b = .ok (.astore i, 2)) (hn : i < znl M) (h2 : ∀ q ∈ Γ2, q ∈ zset1 i t Γ) : zSt M Γ a (b + 2) Γ2 X (sS i x) := by
  intro e σ t0 u τ ho hE h
  obtain ⟨⟨v, σ1⟩, h1, h3⟩ := Option.bind_eq_some_iff.mp h
  cases h3
  obtain ⟨⟨r1, o1⟩, k1⟩ := hx e σ v _ [] ho hE h1 (Nat.le_refl 0)
  exact ⟨o1, fun _ => ⟨zE_sub h2 (zE_set1 hE (by omega) r1), fun k => k1 (zr_astore hd h5 hn hE.1 (zRn_sub h2 k))⟩, fun z => (by cases z), fun z => by omega⟩
theorem zs_iinc {i : Nat} {m : Int} (hd : decode (zcc M) a = .ok (.iinc i m, 3)) (hm : (i, 0) ∈ Γ) (hn : i < znl M) (h2 : ∀ q ∈ Γ2, q ∈ zset1 i 0 Γ) : zSt M Γ a (a + 3) Γ2 X (sS i (xB o_iadd (xL i) (xC m))) := by
  intro e σ t0 u τ ho hE h
  cases h
  exact ⟨ho, fun _ => ⟨zE_sub h2 (zE_set1 hE hn (w32_r _)), fun k => zr_iinc hd hm hn hE.1 (zRn_sub h2 k)⟩, fun z => (by cases z), fun z => by omega⟩
theorem zs_pop (hx : zEx M Γ 0 t a b x) (hc : zcat t = 1) (hd : decode (zcc M) b = .ok (.pop, 1)) : zSt M Γ a (b + 1) Γ X (sX x) := by
  intro e σ t0 u τ ho hE h
  obtain ⟨⟨v, σ1⟩, h1, h3⟩ := Option.bind_eq_some_iff.mp h
  cases h3
  obtain ⟨⟨r1, o1⟩, k1⟩ := hx e σ v _ [] ho hE h1 (Nat.le_refl 0)
  exact ⟨o1, fun _ => ⟨hE, fun k => k1 (zr_pop hc hd k)⟩, fun z => (by cases z), fun z => by omega⟩
section FLD
variable {k index N t2 c : Nat} {C : String} {T : u_T} {ty0 : Nat → FieldType} {ty : FieldType} {w : Int} {fo : zX}
theorem zs_putf (hf : zEx M Γ 0 t a b fo) (hx : zEx M Γ 1 t2 b c x) (ht : 5 ≤ t) (h7 : t ≤ 7 ∨ 10 ≤ t) (hc : vwCl[zcl t]? = some (C, T, N)) (hN : zln t = N) (hk : k < N) (hin : ∀ w ∈ u_ws C T N, w ∈ zTs M)
    (hw : Cond.fieldLink (zown M) index (T k).1 (T k).2.1 (T k).2.2.1 ∈ zTs M) (hty : ∀ k, k < N → parseFieldDescriptor (T k).2.2.1 = some (ty0 k)) (hnm : ∀ a, a < N → ∀ b, b < N → a ≠ b → (T a).2.1 ≠ (T b).2.1) (hfin : (T k).2.2.2 = false) (hds : parseFieldDescriptor (T k).2.2.1 = some ty)
    (hft : zft (zcl t) k = t2) (h2 : t2 = 0 ∧ ty = .int ∨ t2 = 1 ∧ ty = .long ∨ t2 = 4 ∧ ty = .boolean) (hwk : w = (k : Int)) (hd : decode (zcc M) c = .ok (.putfield index, 3)) : zSt M Γ a (c + 3) Γ X (sF fo w x) := by
  subst hwk
  have hcat : zcat t = 1 := by unfold zcat; split <;> first | omega | rfl
  intro e σ t0 u τ ho hE h
  obtain ⟨⟨y, σ1⟩, h1, h3⟩ := Option.bind_eq_some_iff.mp h
  obtain ⟨⟨v, σ2⟩, h4, h5⟩ := Option.bind_eq_some_iff.mp h3
  cases h5
  obtain ⟨⟨r1, o1⟩, k1⟩ := hf e σ y σ1 [] ho hE h1 (Nat.le_refl 0)
  obtain ⟨⟨r2, o2⟩, k2⟩ := hx e σ1 v σ2 [(t, y)] o1 hE h4 (by rw [zwt_cons, zwt_nil]; omega)
  refine ⟨?_, fun _ => ⟨hE, fun k => k1 (k2 (zr_putf ht h7 r1 r2 hc hN hk hin hw hty hnm hfin hds hft h2 hd k))⟩, fun z => (by cases z), fun z => by omega⟩
  obtain ⟨o, q1, rfl, q3, q4⟩ := zcl_ok ht h7 r1
  have hlt := zcl_lt hc
  refine zOk_put o2 ?_
  have : zst o k = t2 := by
    unfold zst
    rw [if_neg (by omega), if_neg (by omega), if_neg (by omega), q3, hft, if_neg (by omega)]
  rw [this]; exact r2
theorem zs_putS {o : Nat} {w0 : Int} (hf : zEx M Γ 0 (o + 10) a b (xC w0)) (hx : zEx M Γ 1 t2 b c x) (hc : vwCl[zcl (o + 10)]? = some (C, T, N)) (hN : zln (o + 10) = N) (hk : k < N) (hin : ∀ w ∈ u_ws C T N, w ∈ zTs M)
    (hw : Cond.fieldLink (zown M) index (T k).1 (T k).2.1 (T k).2.2.1 ∈ zTs M) (hty : ∀ k, k < N → parseFieldDescriptor (T k).2.2.1 = some (ty0 k)) (hnm : ∀ a, a < N → ∀ b, b < N → a ≠ b → (T a).2.1 ≠ (T b).2.1) (hfin : (T k).2.2.2 = false) (hds : parseFieldDescriptor (T k).2.2.1 = some ty)
    (hft : zft (zcl (o + 10)) k = t2) (h2 : t2 = 0 ∧ ty = .int ∨ t2 = 1 ∧ ty = .long ∨ t2 = 4 ∧ ty = .boolean) (hwk : w = (k : Int)) (hd : decode (zcc M) c = .ok (.putfield index, 3)) : zSt M Γ a (c + 3) Γ X (sG w0 w x) :=
  zs_putf hf hx (by omega) (by omega) hc hN hk hin hw hty hnm hfin hds hft h2 hwk hd
/-- a field of cell o becomes op of what it is and x: the cell's address is doubled first -/
theorem zs_putO {o : Nat} {w0 : Int} {op : Int → Int → Int} (hf : zEx M Γ 0 (o + 10) a b (xC w0)) (hd1 : decode (zcc M) b = .ok (.dup, 1)) (hd2 : decode (zcc M) (b + 1) = .ok (.getfield index, 3))
    (hm : 1 + zcat t2 = n) (hx : zEx M Γ n t2 (b + 4) c x) (hs : zOp M Γ t2 c op) (hc : vwCl[zcl (o + 10)]? = some (C, T, N)) (hN : zln (o + 10) = N) (hk : k < N) (hin : ∀ w ∈ u_ws C T N, w ∈ zTs M)
    (hw : Cond.fieldLink (zown M) index (T k).1 (T k).2.1 (T k).2.2.1 ∈ zTs M) (hty : ∀ k, k < N → parseFieldDescriptor (T k).2.2.1 = some (ty0 k)) (hnm : ∀ a, a < N → ∀ b, b < N → a ≠ b → (T a).2.1 ≠ (T b).2.1) (hfin : (T k).2.2.2 = false) (hds : parseFieldDescriptor (T k).2.2.1 = some ty)
    (hft : zft (zcl (o + 10)) k = t2) (h2 : t2 = 0 ∧ ty = .int ∨ t2 = 1 ∧ ty = .long ∨ t2 = 4 ∧ ty = .boolean) (hwk : w = (k : Int)) (hd : decode (zcc M) (c + 1) = .ok (.putfield index, 3)) : zSt M Γ a (c + 4) Γ X (sG w0 w (xB op (xG w0 w) x)) := by
  subst hwk
  subst hm
  have hcat : zcat (o + 10) = 1 := by unfold zcat; split <;> first | omega | rfl
  intro e σ t0 u τ ho hE h
  obtain ⟨⟨v, σ2⟩, h4, h5⟩ := Option.bind_eq_some_iff.mp h
  cases h5
  obtain ⟨⟨y, σ1⟩, h1, h3⟩ := Option.bind_eq_some_iff.mp h4
  cases h1
  obtain ⟨⟨z, σ3⟩, h6, h7⟩ := Option.bind_eq_some_iff.mp h3
  cases h7
  obtain ⟨⟨r1, o1⟩, k1⟩ := hf e σ w0 σ [] ho hE rfl (Nat.le_refl 0)
  obtain ⟨e0, e1, e2⟩ := inR_o r1
  subst e0
  have hlt := zcl_lt hc
  obtain ⟨o', p1, p2, p3, p4⟩ := zcl_ok (t := o + 10) (by omega) (by omega) r1
  have hoo : o' = o := by omega
  subst hoo
  have rv : inR t2 (σ (o' : Int) k) := zOk_f ho p3 hlt hft (by omega)
  obtain ⟨⟨r2, o2⟩, k2⟩ := hx e σ z _ [(t2, σ (o' : Int) k), (o' + 10, (o' : Int))] ho hE h6 (by rw [zwt_cons, zwt_cons, zwt_nil]; omega)
  obtain ⟨r3, k3⟩ := hs e [(o' + 10, (o' : Int))] _ _ z rv r2
  refine ⟨?_, fun _ => ⟨hE, fun k => k1 (zr_dup hcat hd1 (zr_getf (by omega) (by omega) r1 hc hN hk hin hw hft (by omega) hd2 (k2 (k3 (zr_putf (by omega) (by omega) r1 r3 hc hN hk hin hw hty hnm hfin hds hft h2 hd k)))))⟩, fun z => (by cases z), fun z => by omega⟩
  refine zOk_put o2 ?_
  have : zst o' k = t2 := by
    unfold zst
    rw [if_neg (by omega), if_neg (by omega), if_neg (by omega), p3, hft, if_neg (by omega)]
  rw [this]; exact r3
end FLD
theorem zs_iast {c : Nat} {N : Int} {fo gi : zX} (hf : zEx M Γ 0 t a b fo) (hg : zEx M Γ 1 0 b c gi) (hx : zEx M Γ 2 0 c d x) (ht : 5 ≤ t) (h7 : zpr M t) (hc : zcl t = 100) (hN : (zln t : Int) = N) (hd : decode (zcc M) d = .ok (.iastore, 1)) : zSt M Γ a (d + 1) Γ X (sA fo N gi x) := by
  have hcat : zcat t = 1 := by unfold zcat; split <;> first | omega | rfl
  have hc0 : zcat 0 = 1 := rfl
  subst hN
  intro e σ t0 u τ ho hE h
  obtain ⟨⟨y, σ1⟩, h1, h2⟩ := Option.bind_eq_some_iff.mp h
  obtain ⟨⟨i, σ2⟩, h3, h4⟩ := Option.bind_eq_some_iff.mp h2
  obtain ⟨⟨v, σ3⟩, h5, h6⟩ := Option.bind_eq_some_iff.mp h4
  dsimp only at h6
  by_cases hi : 0 ≤ i ∧ i < (zln t : Int)
  case neg => rw [if_neg hi] at h6; cases h6
  rw [if_pos hi] at h6
  cases h6
  obtain ⟨⟨r1, o1⟩, k1⟩ := hf e σ y σ1 [] ho hE h1 (Nat.le_refl 0)
  obtain ⟨⟨r2, o2⟩, k2⟩ := hg e σ1 i σ2 [(t, y)] o1 hE h3 (by rw [zwt_cons, zwt_nil]; omega)
  obtain ⟨⟨r3, o3⟩, k3⟩ := hx e σ2 v σ3 [(0, i), (t, y)] o2 hE h5 (by rw [zwt_cons, zwt_cons, zwt_nil]; omega)
  refine ⟨?_, fun _ => ⟨hE, fun k => k1 (k2 (k3 (zr_iast ht h7 r1 r3 hc hi.1 hi.2 hd k)))⟩, fun z => (by cases z), fun z => by omega⟩
  obtain ⟨o, q1, rfl, q3, q4⟩ := zcl_ok ht (zp_7 h7) r1
  obtain ⟨j, rfl⟩ : ∃ j : Nat, i = j := ⟨i.toNat, by omega⟩
  refine zOk_put o3 ?_
  have : zst o j = 0 := by unfold zst; rw [q3, hc]; rfl
  rw [this]; exact r3
theorem zs_iastS {c o : Nat} {N w : Int} {gi : zX} (hf : zEx M Γ 0 (o + 10) a b (xC w)) (hg : zEx M Γ 1 0 b c gi) (hx : zEx M Γ 2 0 c d x) (h7 : zpr M (o + 10)) (hc : zcl (o + 10) = 100) (hN : (zln (o + 10) : Int) = N) (hd : decode (zcc M) d = .ok (.iastore, 1)) : zSt M Γ a (d + 1) Γ X (sE w N gi x) :=
  zs_iast hf hg hx (by omega) h7 hc hN hd
theorem zs_last {c : Nat} {N : Int} {fo gi : zX} (hf : zEx M Γ 0 t a b fo) (hg : zEx M Γ 1 0 b c gi) (hx : zEx M Γ 2 1 c d x) (ht : 5 ≤ t) (h7 : zpr M t) (hc : zcl t = 101) (hN : (zln t : Int) = N) (hd : decode (zcc M) d = .ok (.lastore, 1)) : zSt M Γ a (d + 1) Γ X (sA fo N gi x) := by
  have hcat : zcat t = 1 := by unfold zcat; split <;> first | omega | rfl
  have hc0 : zcat 0 = 1 := rfl
  subst hN
  intro e σ t0 u τ ho hE h
  obtain ⟨⟨y, σ1⟩, h1, h2⟩ := Option.bind_eq_some_iff.mp h
  obtain ⟨⟨i, σ2⟩, h3, h4⟩ := Option.bind_eq_some_iff.mp h2
  obtain ⟨⟨v, σ3⟩, h5, h6⟩ := Option.bind_eq_some_iff.mp h4
  dsimp only at h6
  by_cases hi : 0 ≤ i ∧ i < (zln t : Int)
  case neg => rw [if_neg hi] at h6; cases h6
  rw [if_pos hi] at h6
  cases h6
  obtain ⟨⟨r1, o1⟩, k1⟩ := hf e σ y σ1 [] ho hE h1 (Nat.le_refl 0)
  obtain ⟨⟨r2, o2⟩, k2⟩ := hg e σ1 i σ2 [(t, y)] o1 hE h3 (by rw [zwt_cons, zwt_nil]; omega)
  obtain ⟨⟨r3, o3⟩, k3⟩ := hx e σ2 v σ3 [(0, i), (t, y)] o2 hE h5 (by rw [zwt_cons, zwt_cons, zwt_nil]; omega)
  refine ⟨?_, fun _ => ⟨hE, fun k => k1 (k2 (k3 (zr_last ht h7 r1 r3 hc hi.1 hi.2 hd k)))⟩, fun z => (by cases z), fun z => by omega⟩
  obtain ⟨o, q1, rfl, q3, q4⟩ := zcl_ok ht (zp_7 h7) r1
  obtain ⟨j, rfl⟩ : ∃ j : Nat, i = j := ⟨i.toNat, by omega⟩
  refine zOk_put o3 ?_
  have : zst o j = 1 := by unfold zst; rw [q3, hc]; rfl
  rw [this]; exact r3
theorem zs_lastS {c o : Nat} {N w : Int} {gi : zX} (hf : zEx M Γ 0 (o + 10) a b (xC w)) (hg : zEx M Γ 1 0 b c gi) (hx : zEx M Γ 2 1 c d x) (h7 : zpr M (o + 10)) (hc : zcl (o + 10) = 101) (hN : (zln (o + 10) : Int) = N) (hd : decode (zcc M) d = .ok (.lastore, 1)) : zSt M Γ a (d + 1) Γ X (sE w N gi x) :=
  zs_last hf hg hx (by omega) h7 hc hN hd
theorem zs_iastO {c o : Nat} {N w : Int} {gi : zX} {op : Int → Int → Int} (hf : zEx M Γ 0 (o + 10) a b (xC w)) (hg : zEx M Γ 1 0 b c gi) (hd1 : decode (zcc M) c = .ok (.dup2, 1)) (hd2 : decode (zcc M) (c + 1) = .ok (.iaload, 1)) (hx : zEx M Γ 3 0 (c + 2) d x) (hs : zOp M Γ 0 d op) (h7 : zpr M (o + 10)) (hc : zcl (o + 10) = 100) (hN : (zln (o + 10) : Int) = N) (hd : decode (zcc M) (d + 1) = .ok (.iastore, 1)) : zSt M Γ a (d + 2) Γ X (sEo op w N gi x) := by
  have hcat : zcat (o + 10) = 1 := by unfold zcat; split <;> first | omega | rfl
  have hc0 : zcat 0 = 1 := rfl
  subst hN
  intro e σ t0 u τ ho hE h
  obtain ⟨⟨i, σ2⟩, h3, h4⟩ := Option.bind_eq_some_iff.mp h
  dsimp only at h4
  by_cases hi : 0 ≤ i ∧ i < (zln (o + 10) : Int)
  case neg => rw [if_neg hi] at h4; cases h4
  rw [if_pos hi] at h4
  obtain ⟨⟨v, σ3⟩, h5, h6⟩ := Option.bind_eq_some_iff.mp h4
  cases h6
  obtain ⟨⟨r1, o1⟩, k1⟩ := hf e σ w σ [] ho hE rfl (Nat.le_refl 0)
  obtain ⟨⟨r2, o2⟩, k2⟩ := hg e σ i σ2 [(o + 10, w)] ho hE h3 (by rw [zwt_cons, zwt_nil]; omega)
  obtain ⟨o', q1, e1, q3, q4⟩ := zcl_ok (t := o + 10) (by omega) (by omega) r1
  obtain ⟨j, rfl⟩ : ∃ j : Nat, i = j := ⟨i.toNat, by omega⟩
  have hst : zst o' j = 0 := by unfold zst; rw [q3, hc]; rfl
  have rv : inR 0 (σ2 w j) := by
    have := o2.1 o' j
    rw [hst] at this
    rw [e1]; exact this
  obtain ⟨⟨r3, o3⟩, k3⟩ := hx e σ2 v σ3 [(0, σ2 w j), (0, (j : Int)), (o + 10, w)] o2 hE h5 (by rw [zwt_cons, zwt_cons, zwt_cons, zwt_nil]; omega)
  obtain ⟨r4, k4⟩ := hs e [(0, (j : Int)), (o + 10, w)] σ3 _ v rv r3
  refine ⟨?_, fun _ => ⟨hE, fun k => k1 (k2 (zr_dup2 rfl hcat hd1 (zr_iald (by omega) h7 r1 hc hi.1 hi.2 hd2 (k3 (k4 (zr_iast (by omega) h7 r1 r4 hc hi.1 hi.2 hd k))))))⟩, fun z => (by cases z), fun z => by omega⟩
  rw [e1]
  refine zOk_put o3 ?_
  rw [hst]
  rw [← e1]; exact r4
theorem zs_lastO {c o : Nat} {N w : Int} {gi : zX} {op : Int → Int → Int} (hf : zEx M Γ 0 (o + 10) a b (xC w)) (hg : zEx M Γ 1 0 b c gi) (hd1 : decode (zcc M) c = .ok (.dup2, 1)) (hd2 : decode (zcc M) (c + 1) = .ok (.laload, 1)) (hx : zEx M Γ 4 1 (c + 2) d x) (hs : zOp M Γ 1 d op) (h7 : zpr M (o + 10)) (hc : zcl (o + 10) = 101) (hN : (zln (o + 10) : Int) = N) (hd : decode (zcc M) (d + 1) = .ok (.lastore, 1)) : zSt M Γ a (d + 2) Γ X (sEo op w N gi x) := by
  have hcat : zcat (o + 10) = 1 := by unfold zcat; split <;> first | omega | rfl
  have hc0 : zcat 0 = 1 := rfl
  have hc1 : zcat 1 = 2 := rfl
  subst hN
  intro e σ t0 u τ ho hE h
  obtain ⟨⟨i, σ2⟩, h3, h4⟩ := Option.bind_eq_some_iff.mp h
  dsimp only at h4
  by_cases hi : 0 ≤ i ∧ i < (zln (o + 10) : Int)
  case neg => rw [if_neg hi] at h4; cases h4
  rw [if_pos hi] at h4
  obtain ⟨⟨v, σ3⟩, h5, h6⟩ := Option.bind_eq_some_iff.mp h4
  cases h6
  obtain ⟨⟨r1, o1⟩, k1⟩ := hf e σ w σ [] ho hE rfl (Nat.le_refl 0)
  obtain ⟨⟨r2, o2⟩, k2⟩ := hg e σ i σ2 [(o + 10, w)] ho hE h3 (by rw [zwt_cons, zwt_nil]; omega)
  obtain ⟨o', q1, e1, q3, q4⟩ := zcl_ok (t := o + 10) (by omega) (by omega) r1
  obtain ⟨j, rfl⟩ : ∃ j : Nat, i = j := ⟨i.toNat, by omega⟩
  have hst : zst o' j = 1 := by unfold zst; rw [q3, hc]; rfl
  have rv : inR 1 (σ2 w j) := by
    have := o2.1 o' j
    rw [hst] at this
    rw [e1]; exact this
  obtain ⟨⟨r3, o3⟩, k3⟩ := hx e σ2 v σ3 [(1, σ2 w j), (0, (j : Int)), (o + 10, w)] o2 hE h5 (by rw [zwt_cons, zwt_cons, zwt_cons, zwt_nil]; omega)
  obtain ⟨r4, k4⟩ := hs e [(0, (j : Int)), (o + 10, w)] σ3 _ v rv r3
  refine ⟨?_, fun _ => ⟨hE, fun k => k1 (k2 (zr_dup2 rfl hcat hd1 (zr_lald (by omega) h7 r1 hc hi.1 hi.2 hd2 (k3 (k4 (zr_last (by omega) h7 r1 r4 hc hi.1 hi.2 hd k))))))⟩, fun z => (by cases z), fun z => by omega⟩
  rw [e1]
  refine zOk_put o3 ?_
  rw [hst]
  rw [← e1]; exact r4
section CALLS
variable {y : MethodName} {cc2 : ByteArray} {maxL fr lo index c nn : Nat} {ret : Option FieldType} {ws ws2 : List Cond} {ts : List Nat} {fs : zAs} {mm : List Int → zHp → Option (Int × zHp)} {nd ab : List Nat} {sc : zSc}
theorem zs_callS (ha : zAr M Γ 0 ts a c fs) (hc : zCon y ws nd ab sc fr lo ts 9 mm) (hu : zFor M nd ab sc) (hws : ws = Cond.code y cc2 maxL ret :: ws2) (hG : GoodIn (zTs M) (va_wsS (zown M) index y ws)) (hn : ts.length = nn)
    (hy : y.cls ≠ "java/lang/invoke/MethodHandle" ∧ y.cls ≠ "java/lang/invoke/VarHandle" ∧ (parseMethodDescriptor y.desc).map (fun d => d.parameters.length) = some nn) (hR : fr + 1 ≤ zfr M ∧ 8 + (maxL + 11) + lo ≤ zlo M) (hd : decode (zcc M) c = .ok (.invokestatic index, 3)) : zSt M Γ a (c + 3) Γ X (sX (xK mm fs)) := by
  intro e σ t0 u τ ho hE h
  obtain ⟨⟨v, σ1⟩, h1, h2⟩ := Option.bind_eq_some_iff.mp h
  cases h2
  obtain ⟨⟨xs, σ2⟩, h4, h5⟩ := Option.bind_eq_some_iff.mp h1
  obtain ⟨⟨r1, o1⟩, k1⟩ := ha e σ xs σ2 [] ho hE h4 (Nat.le_refl 0)
  obtain ⟨q1, q2, -⟩ := hc.1 xs σ2 v _ o1 r1 h5
  exact ⟨q2, fun _ => ⟨hE, fun k => k1 (zr_callS hc hu (by omega) o1 r1 h5 hws hG hn hy hR (by rw [zwt_nil]; omega) hd k)⟩, fun z => (by cases z), fun z => by omega⟩
theorem zs_callV {C : String} {T : u_T} {N : Nat} (ha : zAr M Γ 0 (t :: ts) a c fs) (hc : zCon y ws nd ab sc fr lo (t :: ts) 9 mm) (hu : zFor M nd ab sc) (ht : 5 ≤ t) (h7 : t ≤ 7 ∨ 10 ≤ t) (hcl : vwCl[zcl t]? = some (C, T, N)) (hws : ws = Cond.code y cc2 maxL ret :: ws2) (hG : GoodIn (zTs M) (wsV (zown M) index C y ws)) (hn : ts.length = nn)
    (hy : y.cls = C ∧ y.cls ≠ "java/lang/invoke/MethodHandle" ∧ y.cls ≠ "java/lang/invoke/VarHandle" ∧ (parseMethodDescriptor y.desc).map (fun d => d.parameters.length) = some nn) (hR : fr + 1 ≤ zfr M ∧ 8 + (maxL + 11) + lo ≤ zlo M) (hd : decode (zcc M) c = .ok (.invokevirtual index, 3)) : zSt M Γ a (c + 3) Γ X (sX (xK mm fs)) := by
  intro e σ t0 u τ ho hE h
  obtain ⟨⟨v, σ1⟩, h1, h2⟩ := Option.bind_eq_some_iff.mp h
  cases h2
  obtain ⟨⟨xs, σ2⟩, h4, h5⟩ := Option.bind_eq_some_iff.mp h1
  obtain ⟨⟨r1, o1⟩, k1⟩ := ha e σ xs σ2 [] ho hE h4 (Nat.le_refl 0)
  obtain ⟨q1, q2, -⟩ := hc.1 xs σ2 v _ o1 r1 h5
  cases xs with
  | nil => exact r1.elim
  | cons z zs => exact ⟨q2, fun _ => ⟨hE, fun k => k1 (zr_callV hc hu (by omega) o1 ht h7 r1 hcl h5 hws hG hn hy hR (by rw [zwt_nil]; omega) hd k)⟩, fun z => (by cases z), fun z => by omega⟩
end CALLS
def zSws (M : zM) (Γ : List (Nat × Nat)) (en : Nat) (Γ2 : List (Nat × Nat)) (Y : Nat → Nat × List (Nat × Nat)) : List Nat → List zS → Prop
  | [], [] => True
  | t :: ts, g :: gs => zSt M Γ t en Γ2 Y g ∧ zSws M Γ en Γ2 Y ts gs
  | _, _ => False
def zZ (en : Nat) (Γ2 : List (Nat × Nat)) (X : Nat → Nat × List (Nat × Nat)) : Nat → Nat × List (Nat × Nat) := fun i => if i = 2 then (en, Γ2) else X i
theorem zZ_ok {en : Nat} {ks : List Nat} (h : ∀ q ∈ Γ2, q.1 ∉ ks) (hX : ∀ i : Nat, ∀ q ∈ (X i).2, q.1 ∉ ks) : ∀ i : Nat, ∀ q ∈ (zZ en Γ2 X i).2, q.1 ∉ ks := by
  intro i q hq
  unfold zZ at hq
  split at hq
  · exact h q hq
  · exact hX i q hq
theorem zSws_in {en : Nat} {Y : Nat → Nat × List (Nat × Nat)} {dd : zS} : ∀ {ts : List Nat} {gs : List zS}, zSws M Γ en Γ2 Y ts gs → ∀ i : Nat, (∀ tg, ts[i]? = some tg → zSt M Γ tg en Γ2 Y (zpick dd gs i)) ∧ (ts.length ≤ i → zpick dd gs i = dd)
  | [], [], _, i => ⟨fun tg h => by simp at h, fun _ => rfl⟩
  | t :: ts, g :: gs, h, 0 => ⟨fun tg q => by
      have : t = tg := by simpa using q
      subst this
      exact h.1, fun q => by simp at q⟩
  | t :: ts, g :: gs, h, i + 1 => by
      obtain ⟨p1, p2⟩ := zSws_in (dd := dd) h.2 i
      have e : zpick dd (g :: gs) ((i + 1 : Nat) : Int) = zpick dd gs (i : Int) := by
        show (if ((i + 1 : Nat) : Int) = 0 then g else zpick dd gs (((i + 1 : Nat) : Int) - 1)) = _
        rw [if_neg (by omega)]
        congr 1
        omega
      rw [e]
      exact ⟨fun tg q => p1 tg (by simpa using q), fun q => p2 (by simp at q; omega)⟩
  | [], _ :: _, h, _ => h.elim
  | _ :: _, [], h, _ => h.elim
theorem zs_switch {dflt lo hi : Int} {offs : Array Int} {len en td : Nat} {ts : List Nat} {gs : List zS} {dd : zS} (hx : zEx M Γ 0 0 a b x) (hd : decode (zcc M) b = .ok (.tableswitch dflt lo hi offs, len)) (hts : offs.toList = ts.map (fun t : Nat => (t : Int) - (b : Int))) (hhi : hi = lo + (ts.length : Int) - 1) (htd : (b : Int) + dflt = (td : Int)) (hgs : zSws M Γ en Γ2 (zZ en Γ2 X) ts gs) (hdd : zSt M Γ td en Γ2 (zZ en Γ2 X) dd) : zSt M Γ a en Γ2 X (sN x lo gs dd) := by
  intro e σ t0 u τ ho hE h
  obtain ⟨⟨v, σ1⟩, h1, h2⟩ := Option.bind_eq_some_iff.mp h
  obtain ⟨⟨t3, u3, σ3⟩, h3, h4⟩ := Option.bind_eq_some_iff.mp h2
  obtain ⟨⟨r1, o1⟩, k1⟩ := hx e σ v σ1 [] ho hE h1 (Nat.le_refl 0)
  have hv : (Int32.ofInt v).toInt = v := z32_ti r1
  have key : ∃ tg : Nat, zSt M Γ tg en Γ2 (zZ en Γ2 X) (if v < lo then dd else zpick dd gs (v - lo)) ∧ (zRn M tg Γ e [] σ1 → zRn M b Γ e [(0, v)] σ1) := by
    by_cases hlo : v < lo
    · refine ⟨td, by rw [if_pos hlo]; exact hdd, fun k => zr_a k (fun p l en R s m args below meth c cells slots Q D cs ad A b' H locs ls K hc ho hP hS hl kk => ?_)⟩
      exact lv_tableOut K.1 K.2.1 hd (Or.inl (by rw [hv]; exact hlo)) htd kk
    · rw [if_neg hlo]
      obtain ⟨i, hi⟩ : ∃ i : Nat, v - lo = i := ⟨(v - lo).toNat, by omega⟩
      obtain ⟨p1, p2⟩ := zSws_in (dd := dd) hgs i
      rw [hi]
      by_cases hl : i < ts.length
      · obtain ⟨tg, htg⟩ : ∃ tg, ts[i]? = some tg := ⟨_, List.getElem?_eq_getElem hl⟩
        refine ⟨tg, p1 tg htg, fun k => zr_a k (fun p l en R s m args below meth c cells slots Q D cs ad A b' H locs ls K hc ho hP hS hlv kk => ?_)⟩
        refine lv_tableIn (off := (tg : Int) - (b : Int)) K.1 K.2.1 hd (by rw [hv]; exact hlo) (by rw [hv]; omega) ?_ (by omega) kk
        rw [hv, hi, Int.toNat_natCast, ← Array.getElem?_toList, hts, List.getElem?_map, htg]
        rfl
      · rw [p2 (by omega)]
        refine ⟨td, hdd, fun k => zr_a k (fun p l en R s m args below meth c cells slots Q D cs ad A b' H locs ls K hc ho hP hS hlv kk => ?_)⟩
        exact lv_tableOut K.1 K.2.1 hd (Or.inr (by rw [hv]; omega)) htd kk
  obtain ⟨tg, hst, kt⟩ := key
  obtain ⟨q1, q2, q3, q4⟩ := hst e σ1 t3 u3 σ3 o1 hE h3
  dsimp only at h4
  by_cases ht : t3 = 2
  · rw [if_pos ht] at h4
    cases h4
    subst ht
    obtain ⟨p1, p2⟩ := q4 (by decide)
    exact ⟨q1, fun _ => ⟨p1, fun k => k1 (kt (p2 k))⟩, fun z => (by cases z), fun z => by omega⟩
  · rw [if_neg ht] at h4
    cases h4
    refine ⟨q1, fun z => ⟨(q2 z).1, fun k => k1 (kt ((q2 z).2 k))⟩, fun z => ⟨(q3 z).1, fun k => k1 (kt ((q3 z).2 k))⟩, fun z => ?_⟩
    have e2 : zZ en Γ2 X t0 = X t0 := by unfold zZ; rw [if_neg ht]
    have q5 := q4 z
    rw [e2] at q5
    exact ⟨q5.1, fun k => k1 (kt (q5.2 k))⟩
end ZS

