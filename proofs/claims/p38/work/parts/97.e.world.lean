/-! the world while the law looks: calls at a world that is the base's but for what is free -/
def qW (σ x : zHp) : Prop := zOk x ∧ zIS x ∧ ∀ a b : Int, zfree a b = false → ¬ (29 ≤ a ∧ a ≤ 36) → ¬ (a = 37 ∧ 54 ≤ b) → x a b = σ a b
def qU (n : Nat) (V : Int → Int) (x : zHp) : Prop := ∀ b : Int, 0 ≤ b → b < n → x 37 (54 + b) = V b
theorem qW.rf {σ : zHp} (h : zInv σ) : qW σ σ := ⟨h.1, zI10 h, fun _ _ _ _ _ => rfl⟩
theorem qW.g {σ x : zHp} (h : qW σ x) {a b : Int} (ha : a < 29) (hf : zfree a b = false) : x a b = σ a b := h.2.2 a b hf (by omega) (by omega)
theorem qW.g37 {σ x : zHp} (h : qW σ x) {b : Int} (hb : b < 54) : x 37 b = σ 37 b := h.2.2 37 b rfl (by omega) (by omega)
theorem qW.pl {σ x : zHp} (h : qW σ x) (k : Int) : zpl x k = zpl σ k := zpl_c (h.g (a := 1) (b := 3) (by decide) rfl) k
theorem qW.inv {σ x : zHp} (h : qW σ x) (hI : zInv σ) : zInv x := by
  obtain ⟨-, hF, hL, hH, hB, hP, hE, hN, hC, hR, hS⟩ := hI
  have r : ∀ a : Int, a < 29 → (∀ b, zfree a b = false) → ∀ k, x a k = σ a k := fun a h1 h2 k => h.g h1 (h2 k)
  have r1 : ∀ k, x 1 k = σ 1 k := r 1 (by decide) (fun _ => rfl)
  have r2 := r 2 (by decide) (fun _ => rfl)
  have r3 := r 3 (by decide) (fun _ => rfl)
  have r4 := r 4 (by decide) (fun _ => rfl)
  have r5 := r 5 (by decide) (fun _ => rfl)
  have r6 := r 6 (by decide) (fun _ => rfl)
  have r7 := r 7 (by decide) (fun _ => rfl)
  have r8 := r 8 (by decide) (fun _ => rfl)
  have r9 := r 9 (by decide) (fun _ => rfl)
  have r11 := r 11 (by decide) (fun _ => rfl)
  have r10 : x 10 2 = σ 10 2 := h.g (by decide) rfl
  refine ⟨h.1, trivial, ?_, ?_, ?_, ?_, ?_, ?_, ?_, trivial, h.2.1⟩
  · exact zIL_c hL (r1 0) (r1 1) (r1 2) (r1 0) (r1 1)
  · exact zIH_c hH (r1 1) (r1 2) r2 r3 r4 r2
  · exact zIB_c hB (r1 2) r2 r5
  · exact zIP_c hP (r1 2) (r1 3) h.pl
  · exact zIE_c hE r10 r10
  · exact zIN_c hN (r6 0) (r6 0) (r1 2) r7 r8 r9 r7 r8 r9
  · exact zIC_c hC (r1 1) (r1 2) (r6 0) r2 r7 r8 r11 h.pl
theorem qW.gq {σ x : zHp} (h : qW σ x) (hI : zInv σ) (hq : zGq σ) : zGq x := by
  obtain ⟨⟨g0, g1, g2, g3⟩, ⟨b0, b1⟩, e⟩ := hq
  have hN := (zN_eq hI.2.2.1).2
  have hB := (zI3 hI).2.2.1
  refine ⟨⟨?_, ?_, fun c c0 c1 => ?_, ?_⟩, ⟨?_, fun b p0 p1 => ?_⟩, ?_⟩
  · rw [h.g37 (by decide), h.g (a := 1) (by decide) rfl]; exact g0
  · rw [h.g37 (by decide), h.g (a := 1) (by decide) rfl]; exact g1
  · rw [h.g (a := 1) (by decide) rfl] at c1
    rw [h.g37 (by omega), h.g (a := 2) (by decide) rfl]; exact g2 c c0 c1
  · rw [h.g37 (by decide), h.g (a := 1) (by decide) rfl]; exact g3
  · rw [h.g37 (by decide), h.g (a := 6) (by decide) rfl]; exact b0
  · rw [h.g (a := 6) (by decide) rfl] at p1
    rw [h.g37 (by omega), h.g37 (by omega), h.g (a := 7) (by decide) rfl, h.g (a := 8) (by decide) rfl]; exact b1 b p0 p1
  · rw [h.g37 (by decide), h.g (a := 10) (b := 2) (by decide) rfl]; exact e
theorem qW.nb {σ x : zHp} (h : qW σ x) : zNb x = zNb σ := by unfold zNb; rw [h.g (a := 6) (by decide) rfl]
theorem qW.nc {σ x : zHp} (h : qW σ x) : zNc x = zNc σ := by unfold zNc; rw [h.g (a := 1) (by decide) rfl]
theorem qW.ff {σ x : zHp} (h : qW σ x) (w : Int) : zFF x w = zFF σ w := by unfold zFF; rw [h.g (a := 10) (b := 2) (by decide) rfl]
theorem qW.w9 {σ x : zHp} (h : qW σ x) : x 9 = σ 9 := funext fun k => h.g (by decide) rfl
theorem qW.gg {σ x : zHp} (h : qW σ x) (w : Int) : zGG x w = zGG σ w := by
  funext b c
  unfold zGG
  rw [zGr_eq (h.g (a := 1) (b := 1) (by decide) rfl), h.g (a := 11) (by decide) rfl, h.g (a := 8) (b := b) (by decide) rfl]
theorem qW.pp {σ x : zHp} (h : qW σ x) (w b c : Int) : zPP x w b c = zPP σ w b c := by
  unfold zPP
  rw [zPu_eq (h.g (a := 1) (b := 1) (by decide) rfl), h.g (a := 7) (b := b) (by decide) rfl, h.g (a := 8) (b := b) (by decide) rfl]
theorem qW.qq {σ x : zHp} (h : qW σ x) (w b c : Int) : zQQ x w b c = zQQ σ w b c := by
  unfold zQQ
  rw [zQd_eq (h.g (a := 1) (b := 1) (by decide) rfl) (fun k => h.g (a := 2) (b := k) (by decide) rfl) h.pl, h.g (a := 7) (b := b) (by decide) rfl, h.g (a := 8) (b := b) (by decide) rfl]
theorem qW.st {σ x y : zHp} (h : qW σ x) (ho : zOk y) (hs : zSame x y) : qW σ y := by
  refine ⟨ho, zIS_c h.2.1 (fun o h1 h2 => hs o 3 (by unfold zfree; exact decide_eq_false (by omega))), fun a b q1 q2 q3 => ?_⟩
  rw [hs a b q1]
  exact h.2.2 a b q1 q2 q3
theorem qW.cl {σ x y : zHp} (h : qW σ x) (ho : zOk y) (hs : zCl x y) : qW σ y := h.st ho hs.same
theorem qU.cl {n : Nat} {V : Int → Int} {x y : zHp} (h : qU n V x) (e : ∀ b : Int, y 37 b = x 37 b) : qU n V y := fun b b0 b1 => by rw [e]; exact h b b0 b1
theorem W_whose {σ x : zHp} (hI : zInv σ) (h : qW σ x) {c w : Int} (hc : 0 ≤ c ∧ c < σ 1 2) (hw : 0 ≤ w ∧ w ≤ 39) : ∃ y, m_X8_whose [0, c, w] x = some (zWh (zFF σ w) (zLd (σ 9) (zGG σ w) c) (zNb σ), y) ∧ qW σ y ∧ zCl x y := by
  have hN := (zN_eq hI.2.2.1).2
  obtain ⟨y, y1, y2⟩ := c_whose (h.inv hI) (c := c) (w := w) (by rw [h.g (a := 1) (by decide) rfl]; exact hc) hw
  rw [h.ff, h.w9, h.gg, h.nb] at y1
  exact ⟨y, y1, h.cl (zOk_of k_X8_whose h.1 y1 ⟨zthis, ⟨by omega, by omega⟩, ⟨by omega, by omega⟩, trivial⟩) y2, y2⟩
theorem W_reach {σ x : zHp} (hI : zInv σ) (h : qW σ x) {b w : Int} (hb : 0 ≤ b ∧ b < σ 6 0) (hw : 0 ≤ w ∧ w ≤ 39) : ∃ y, m_X8_reach [0, b, w] x = some (zSt2 (zRb (zFF σ w) (σ 9) (zGG σ w) (zNb σ) b) (zNc σ), y) ∧ qW σ y ∧ zCl x y := by
  have hB := (zI3 hI).2.2.1
  obtain ⟨y, y1, y2⟩ := c_reach (h.inv hI) (b := b) (w := w) (by rw [h.g (a := 6) (by decide) rfl]; exact hb) hw
  rw [h.ff, h.w9, h.gg, h.nb, h.nc] at y1
  exact ⟨y, y1, h.cl (zOk_of k_X8_reach h.1 y1 ⟨zthis, ⟨by omega, by omega⟩, ⟨by omega, by omega⟩, trivial⟩) y2, y2⟩
theorem W_wins {σ x : zHp} (hI : zInv σ) (h : qW σ x) {b c w : Int} (hb : 0 ≤ b ∧ b < σ 6 0) (hc : 0 ≤ c ∧ c < σ 1 2) (hw : 0 ≤ w ∧ w ≤ 39) : ∃ y, m_X8_wins [0, b, c, w] x = some (zFst (zWn (zFF σ w) (σ 9) (zGG σ w) (zNb σ) b c) 99, y) ∧ qW σ y ∧ zCl x y := by
  have hB := (zI3 hI).2.2.1
  have hN := (zN_eq hI.2.2.1).2
  obtain ⟨y, y1, y2⟩ := c_wins (h.inv hI) (b := b) (c := c) (w := w) (by rw [h.g (a := 6) (by decide) rfl]; exact hb) (by rw [h.g (a := 1) (by decide) rfl]; exact hc) hw
  rw [h.ff, h.w9, h.gg, h.nb] at y1
  exact ⟨y, y1, h.cl (zOk_of k_X8_wins h.1 y1 ⟨zthis, ⟨by omega, by omega⟩, ⟨by omega, by omega⟩, ⟨by omega, by omega⟩, trivial⟩) y2, y2⟩
theorem W_cheap {σ x : zHp} (hI : zInv σ) (h : qW σ x) {c w q : Int} (hc : 0 ≤ c ∧ c < σ 1 2) (hw : 0 ≤ w ∧ w ≤ 39) (g4 : 0 ≤ q ∧ q ≤ 1) : ∃ y, m_X8_cheapest [0, c, w, q] x = some (if q = 0 then (zCh (fun b => zFst (zWn (zFF σ w) (σ 9) (zGG σ w) (zNb σ) b c) 99) (σ 9) (zNb σ)).1 else (zCh (fun b => zFst (zWn (zFF σ w) (σ 9) (zGG σ w) (zNb σ) b c) 99) (σ 9) (zNb σ)).2, y) ∧ qW σ y ∧ zCl x y := by
  have hN := (zN_eq hI.2.2.1).2
  obtain ⟨y, y1, y2⟩ := c_cheapest (h.inv hI) (c := c) (w := w) (q := q) (by rw [h.g (a := 1) (by decide) rfl]; exact hc) hw g4
  rw [h.ff, h.w9, h.gg, h.nb] at y1
  exact ⟨y, y1, h.cl (zOk_of k_X8_cheapest h.1 y1 ⟨zthis, ⟨by omega, by omega⟩, ⟨by omega, by omega⟩, ⟨by omega, by omega⟩, trivial⟩) y2, y2⟩
theorem W_loud {σ x : zHp} (hI : zInv σ) (h : qW σ x) {b c w q : Int} (hb : 0 ≤ b ∧ b < σ 6 0) (hc : 0 ≤ c ∧ c < σ 1 2) (hw : 0 ≤ w ∧ w ≤ 39) (g4 : 0 ≤ q ∧ q ≤ 1) :
    m_X8_loud [0, b, c, w, q] x = some (if q = 0 then ((((zPP σ w b c).toNat * (σ 9 b).toNat) / Nat.gcd ((zPP σ w b c).toNat * (σ 9 b).toNat) (zQQ σ w b c).toNat : Nat) : Int) else (((zQQ σ w b c).toNat / Nat.gcd ((zPP σ w b c).toNat * (σ 9 b).toNat) (zQQ σ w b c).toNat : Nat) : Int), x) := by
  have := c_loud (h.inv hI) (b := b) (c := c) (w := w) (q := q) (by rw [h.g (a := 6) (by decide) rfl]; exact hb) (by rw [h.g (a := 1) (by decide) rfl]; exact hc) hw g4
  rw [h.pp, h.qq, h.g (a := 9) (by decide) rfl] at this
  exact this
theorem W_hear {σ x : zHp} (hI : zInv σ) (hq : zGq σ) (h : qW σ x) (hu : qU (zNb σ) (σ 9) x) {c w : Int} (hc : 0 ≤ c ∧ c < σ 1 2) (hw : 0 ≤ w ∧ w ≤ 39) (hcap : zct x < zcap) : ∃ y, m_L_hear_a [37, c, w, 38] x = some (0, y) ∧ qW σ y ∧ (∀ a b : Int, a ≠ 38 → a ≠ 42 → a ≠ -1 → y a b = x a b) ∧ zct y = zct x + 1 ∧ (∀ b : Int, 0 ≤ b → b < zNb σ → y 38 b = σ 9 b * zPP σ w b c ∧ y 38 (8 + b) = zQQ σ w b c) ∧ m_L_best_a [37, 38] y = some ((zLI (zFF σ w) (zLd (σ 9) (zGG σ w) c) (zNb σ)).2, y) := by
  have hN := (zN_eq hI.2.2.1).2
  obtain ⟨n1, n2⟩ := zNb_e hI
  obtain ⟨cc1, cc2⟩ := zNc_e hI
  have gq := h.gq hI hq
  obtain ⟨y, y1, y2, y3, y4⟩ := q_heara (h.inv hI) gq.1 gq.2.1 (V := σ 9) (fun b b0 b1 => by rw [h.g (a := 6) (by decide) rfl] at b1; exact hu b b0 (by omega)) (by rw [h.nb]; exact zWt_I hI) (c := c) (w := w) (by rw [h.g (a := 1) (by decide) rfl]; exact hc) hw hcap
  have oy := zOk_of k_L_hear_a h.1 y1 ⟨⟨rfl, by decide, by decide⟩, ⟨by omega, by omega⟩, ⟨by omega, by omega⟩, ⟨rfl, by decide, by decide⟩, trivial⟩
  have wy : qW σ y := h.st oy (fun a b q => y2 a b (fun e => by rw [e] at q; simp [zfree] at q) (fun e => by rw [e] at q; simp [zfree] at q) (fun e => by rw [e] at q; simp [zfree] at q))
  have y5 : ∀ b : Int, 0 ≤ b → b < zNb σ → y 38 b = σ 9 b * zPP σ w b c ∧ y 38 (8 + b) = zQQ σ w b c := fun b b0 b1 => by
    have := y4 b b0 (by rw [h.g (a := 6) (by decide) rfl]; omega)
    rw [h.pp, h.qq] at this
    exact this
  have hP := zPc_I hI hw
  have hB : ∀ b : Int, 0 ≤ b → b < zNb σ → (1 ≤ zPP σ w b c ∧ zPP σ w b c ≤ 38) ∧ (1 ≤ zQQ σ w b c ∧ zQQ σ w b c ≤ 209152) := fun b b0 b1 => by
    have := hP.2.2.2.2.2 b c b0 b1 hc.1 (by omega)
    exact ⟨this.1, this.2.1⟩
  have hW := zWt_I hI
  have gy := wy.gq hI hq
  have best := q_besta (σ := y) (n := zNb σ) (ea := σ 10 2) (U := fun b => σ 9 b * zPP σ w b c) (Q := fun b => zQQ σ w b c) (by rw [gy.2.1.1, wy.g (a := 6) (by decide) rfl, n1]) n2 (by rw [gy.2.2, wy.g (a := 10) (b := 2) (by decide) rfl]) hP.2.2.1 (fun b b0 b1 => y5 b b0 b1)
    (fun b b0 b1 => by
      have v := hW b b0 b1
      have u := hB b b0 b1
      have m := zmul_i (x := σ 9 b) (y := zPP σ w b c) 99 38 (by omega) (by omega)
      have m2 : 1 * 1 ≤ σ 9 b * zPP σ w b c := Int.mul_le_mul v.1 u.1.1 (by decide) (by omega)
      show 1 ≤ σ 9 b * zPP σ w b c ∧ σ 9 b * zPP σ w b c ≤ 3762
      omega)
    (fun b b0 b1 => (hB b b0 b1).2)
  rw [q_set hP ⟨hc.1, by omega⟩] at best
  exact ⟨y, y1, wy, y2, y3, y5, best⟩
theorem W_whoseL {σ x : zHp} (hI : zInv σ) (hq : zGq σ) (h : qW σ x) {V : Int → Int} (hu : qU (zNb σ) V x) (hW : zWt (zNb σ) V) {c w : Int} (hc : 0 ≤ c ∧ c < σ 1 2) (hw : 0 ≤ w ∧ w ≤ 39) (hcap : zct x + 1 < zcap) : ∃ y, m_L_whose [37, c, w] x = some (zWh (zFF σ w) (zLd V (zGG σ w) c) (zNb σ), y) ∧ qW σ y ∧ (∀ a b : Int, a ≠ 41 → a ≠ 42 → a ≠ -1 → y a b = x a b) ∧ zct y = zct x + 2 := by
  have hN := (zN_eq hI.2.2.1).2
  obtain ⟨n1, n2⟩ := zNb_e hI
  obtain ⟨y, y1, y2, y3⟩ := q_whose (h.inv hI) (h.gq hI hq) (V := V) (fun b b0 b1 => by rw [h.g (a := 6) (by decide) rfl] at b1; exact hu b b0 (by omega)) (by rw [h.nb]; exact hW) (c := c) (w := w) (by rw [h.g (a := 1) (by decide) rfl]; exact hc) hw hcap
  rw [h.ff, h.gg, h.nb] at y1
  have oy := zOk_of k_L_whose h.1 y1 ⟨⟨rfl, by decide, by decide⟩, ⟨by omega, by omega⟩, ⟨by omega, by omega⟩, trivial⟩
  exact ⟨y, y1, h.st oy (fun a b q => y2 a b (fun e => by rw [e] at q; simp [zfree] at q) (fun e => by rw [e] at q; simp [zfree] at q) (fun e => by rw [e] at q; simp [zfree] at q)), y2, y3⟩
