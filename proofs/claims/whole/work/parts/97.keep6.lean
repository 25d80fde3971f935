/-! keep: what may be planted, what is of use -/
def zPp (σ : zHp) (c : Int) (x : Nat) : Bool := decide ((x : Int) < σ 1 2 ∧ (x : Int) ≠ c ∧ ¬ σ 42 x = 1 ∧ zcn (fun b => decide (σ 8 b = x)) (zNb σ) = 0)
def zQq (σ : zHp) (b c : Int) (x : Nat) : Bool := zt (zUs σ b c (zNb σ)) x && zPp σ c x
def zK3 (σ : zHp) (w b c x y z : Int) : Bool := zKk σ w b c (zS3 x y z)
def zKr (σ : zHp) (w b c : Int) (n : Nat) : Option (Int × Int × Int) := zRs (zPp σ c) (zK3 σ w b c) (zNc σ) n
theorem zQq_n {σ : zHp} (hI : zInv σ) {b c : Int} (hc : 0 ≤ c ∧ c < σ 1 2) {u : Nat} (hp : zPp σ c u = true) (hq : zQq σ b c u = false) : ∀ x : Int, 0 ≤ x → x < zNb σ → x ≠ b → ¬ zOnW σ (σ 8 x) c u := fun x x0 x1 xb h => by
  unfold zQq at hq
  rw [hp, Bool.and_true] at hq
  have h1 := zUs_t σ b c u _ hq x x0 x1 xb
  rw [zOnW_t hI ⟨x0, x1⟩ hc h] at h1
  cases h1
theorem zK3_m {σ : zHp} (hI : zInv σ) {w b c : Int} (hw : 0 ≤ w ∧ w ≤ 39) (hb : 0 ≤ b ∧ b < zNb σ) (hc : 0 ≤ c ∧ c < σ 1 2) {x y z x2 y2 z2 : Int} {u : Nat} (h : ∀ i : Nat, i ≠ u → (((i : Int) = x ∨ (i : Int) = y ∨ (i : Int) = z) ↔ ((i : Int) = x2 ∨ (i : Int) = y2 ∨ (i : Int) = z2))) (hT : ¬ ((u : Int) = x2 ∨ (u : Int) = y2 ∨ (u : Int) = z2)) (hp : zPp σ c u = true) (hq : zQq σ b c u = false) (hK : zK3 σ w b c x y z = true) : zK3 σ w b c x2 y2 z2 = true :=
  zKk_rm hI hw hb hc (u := u) (fun i hi => decide_eq_decide.mpr (h i hi)) (decide_eq_false hT) (zQq_n hI hc hp hq) hK
theorem zKr_q {σ : zHp} (hI : zInv σ) {w b c : Int} (hw : 0 ≤ w ∧ w ≤ 39) (hb : 0 ≤ b ∧ b < zNb σ) (hc : 0 ≤ c ∧ c < σ 1 2) : ∀ n : Nat, n ≤ 3 → (∀ j, j < n → zKr σ w b c j = none) → zRs (zQq σ b c) (zK3 σ w b c) (zNc σ) n = zKr σ w b c n := by
  have hpq : ∀ i, zQq σ b c i = true → zPp σ c i = true := fun i h => by
    unfold zQq at h
    rw [Bool.and_eq_true] at h
    exact h.2
  intro n hn H
  match n, hn with
  | 0, _ => rfl
  | 1, _ => exact zRa_u hpq (fun x hp hq hk => zK3_m hI hw hb hc (u := x) (fun i hi => by omega) (by omega) hp hq hk) (H 0 (by omega))
  | 2, _ => exact zRbb_u hpq (fun x y hxy hp hq hk => zK3_m hI hw hb hc (u := x) (fun i hi => by omega) (by omega) hp hq hk) (fun x y hxy hp hq hk => zK3_m hI hw hb hc (u := y) (fun i hi => by omega) (by omega) hp hq hk) (H 1 (by omega))
  | 3, _ => exact zRc_u hpq (fun x y z hxy hyz hp hq hk => zK3_m hI hw hb hc (u := x) (fun i hi => by omega) (by omega) hp hq hk) (fun x y z hxy hyz hp hq hk => zK3_m hI hw hb hc (u := y) (fun i hi => by omega) (by omega) hp hq hk) (fun x y z hxy hyz hp hq hk => zK3_m hI hw hb hc (u := z) (fun i hi => by omega) (by omega) hp hq hk) (H 2 (by omega))
theorem w_ftEval {τ υ : zHp} {b c us n cw P r : Int} {t : Nat} {e : List Int} (hl : sW lc_X7_fewestToKeep_1 lf_X7_fewestToKeep_1 ls_X7_fewestToKeep_1 [19, b, c, 0, 0, 0] (zput τ 19 5 b) = some (0, [19, b, c, us, n, 0], υ)) (hcw : m_X1_cellsWithBells [6] υ = some (cw, υ)) (hP : zAnd (zAnd (zAnd us (zXor (υ 1 3) (-1))) (zXor cw (-1))) (zXor (zShl 1 c) (-1)) = P) (hl2 : sW lc_X7_fewestToKeep_2 lf_X7_fewestToKeep_2 ls_X7_fewestToKeep_2 [19, b, c, us, 0, 0] (zput υ 19 6 P) = some (t, e, zput υ 19 6 P)) (ht : (t = 1 ∧ e = [r]) ∨ (t = 0 ∧ r = -9)) : m_X7_fewestToKeep [19, b, c] τ = some (r, zput υ 19 6 P) := by
  rcases ht with ⟨rfl, rfl⟩ | ⟨rfl, rfl⟩
  · simp [e_X7_fewestToKeep, d_X7_fewestToKeep, xC_e, xL_e, xU_e, xB_e, xD_e, xF_e, xG_e, xA_e, xE_e, xH_e, xI_e, xZ_e, xK_e, aN_e, aC_e, cR_e, cV_e, cA_e, cO_e, cN_e, bs_e, bn_e, zg_0, zg_S, sS_e, sX_e, sF_e, sG_e, sA_e, sE_e, sEo_e, sK_e, sQ_e, sI_e, sR_e, sV_e, sB_e, sC_e, sD_e, sN_e, sP_e, sY_e, st_0, st_S, zc_0, zc_S, r_eq, r_ne, r_lt, r_le, r_gt, r_ge, rb_ite, rb_0, rb_1, hl, hcw, hP, hl2]
  · simp [e_X7_fewestToKeep, d_X7_fewestToKeep, xC_e, xL_e, xU_e, xB_e, xD_e, xF_e, xG_e, xA_e, xE_e, xH_e, xI_e, xZ_e, xK_e, aN_e, aC_e, cR_e, cV_e, cA_e, cO_e, cN_e, bs_e, bn_e, zg_0, zg_S, sS_e, sX_e, sF_e, sG_e, sA_e, sE_e, sEo_e, sK_e, sQ_e, sI_e, sR_e, sV_e, sB_e, sC_e, sD_e, sN_e, sP_e, sY_e, st_0, st_S, zc_0, zc_S, r_eq, r_ne, r_lt, r_le, r_gt, r_ge, rb_ite, rb_0, rb_1, hl, hcw, hP, hl2]
theorem zPtt {a b2 d : Bool} {A B D E : Prop} [Decidable A] [Decidable B] [Decidable D] [Decidable E] {u : Bool} (ha : a = decide A) (hb : b2 = decide B) (hd : d = decide D) (h : (¬ A ∧ ¬ B ∧ ¬ D) ↔ E) : (u && (a ^^ true) && (b2 ^^ true) && (d ^^ true)) = (u && decide E) := by
  rw [Bool.eq_iff_iff]
  simp only [ha, hb, hd, Bool.and_eq_true, Bool.xor_true, Bool.not_eq_true', decide_eq_true_eq, decide_eq_false_iff_not]
  rw [← h]
  simp only [and_assoc]
theorem w_ft {σ τ : zHp} (hI : zInv σ) {w b c : Int} (hw : 0 ≤ w ∧ w ≤ 39) (hb : 0 ≤ b ∧ b < zNb σ) (hc : 0 ≤ c ∧ c < σ 1 2) (hs : zSame σ τ) (hC : zCp τ (zNb σ) (zNc σ) (zFF σ w) (σ 9) (zGG σ w)) : ∃ (υ : zHp) (r : Int), m_X7_fewestToKeep [19, b, c] τ = some (r, υ) ∧ zSame σ υ ∧ ((∃ (n : Nat) (x y z : Int), n ≤ 3 ∧ zKr σ w b c n = some (x, y, z) ∧ (∀ j, j < n → zKr σ w b c j = none) ∧ r = zBb n (x, y, z)) ∨ (r = -9 ∧ ∀ j, j ≤ 3 → zKr σ w b c j = none)) := by
  obtain ⟨nb1, nb2⟩ := zNb_e hI
  obtain ⟨nc1, nc2⟩ := zNc_e hI
  obtain ⟨υ, h1, h2, h3⟩ := w_fk1 (b := b) hI hw hc (hs.put (o := 19) (i := 5) (v := b) rfl) (zCp_p hC (by decide)) (zput_self _ _ _ _)
  have hcw := w_cw (υ := υ) (n := zNb σ) (by rw [h3.1, nb1]) nb2
  generalize hP : zAnd (zAnd (zAnd (zUs σ b c (zNb σ)) (zXor (υ 1 3) (-1))) (zXor (zCw υ (zNb σ)) (-1))) (zXor (zShl 1 c) (-1)) = P
  have s2 : zSame σ (zput υ 19 6 P) := h2.put rfl
  have wd : zWd2 σ (zput υ 19 6 P) w b c := by
    obtain ⟨a1, a2, a3, a4, a5⟩ := h3
    exact ⟨by rw [zput_o (by decide), a1], by rw [zput_o (by decide), a2], by rw [zput_o (by decide), a3], by rw [zput_i (by decide), a4], fun x x0 x1 => by rw [zput_o (by decide), zput_o (by decide)]; exact a5 x x0 x1⟩
  have hq : ∀ x : Nat, x < zNc σ → zt ((zput υ 19 6 P) 19 6) x = zQq σ b c x := fun x hx => by
    rw [zput_self, ← hP]
    simp only [zt_and, zt_xor, zt_m1 x (by omega)]
    refine zPtt (A := ((x : Int) < σ 1 2 ∧ σ 42 x = 1)) (B := ¬ zcn (fun b => decide (σ 8 b = x)) (zNb σ) = 0) (D := ((x : Int) = c)) ?_ ?_ ?_ ?_
    · rw [h2 1 3 rfl, hI.2.2.2.2.2.1 x (by omega)]
    · rw [zCw_t (σ := υ) (u := x) (zNb σ) (fun y y0 y1 => by
        rw [h2 8 y rfl]
        have := ((zI3 hI).2.2.2 y y0 (by omega)).2.1.2
        omega)]
      rw [show (fun b : Nat => decide (υ 8 b = (x : Int))) = (fun b : Nat => decide (σ 8 b = (x : Int))) from funext (fun b => by rw [h2 8 b rfl])]
    · exact zt_bit_i (by omega) x
    · omega
  have hK : ∀ s, m_X7_isKeptBy [19, s] (zput υ 19 6 P) = some (if (fun s => (fun S => zKk σ w b c S) (zt s)) s = true then 1 else 0, zput υ 19 6 P) := fun s => w_kp hI hw hb hc wd s
  have H : ∀ n : Nat, n ≤ 3 → m_X7_firstSet [19, 0, (n : Int), 0] (zput υ 19 6 P) = some (zVal (zSr (zQq σ b c) (fun s => (fun S => zKk σ w b c S) (zt s)) (zNc σ) n 0 0), zput υ 19 6 P) := fun n hn =>
    w_fs nc2 (by rw [s2 1 2 rfl, nc1]) hq hK n 5 0 0 (by omega) hn (by omega) (zbt0 _)
  obtain ⟨t, e, hl2, hr⟩ := w_fl (b := b) (c := c) (us := zUs σ b c (zNb σ)) H (fun n r hn h => zSr_9 nc2 (zbt0 _) h)
  have sr := fun n hn => zSr_R (q := zQq σ b c) (K := fun S => zKk σ w b c S) nc2 n hn
  have none_j : ∀ m : Nat, m ≤ 4 → (∀ j, j < m → zSr (zQq σ b c) (fun s => (fun S => zKk σ w b c S) (zt s)) (zNc σ) j 0 0 = none) → ∀ j, j < m → zKr σ w b c j = none := by
    intro m
    induction m with
    | zero => intro _ _ j hj; omega
    | succ m ih =>
      intro hm h j hj
      have ihm := ih (by omega) (fun j hj => h j (by omega))
      by_cases z : j = m
      · subst z
        have h4 := h j (by omega)
        rw [sr j (by omega)] at h4
        have e := zKr_q hI hw hb hc j (by omega) ihm
        rw [← e]
        exact Option.map_eq_none_iff.mp h4
      · exact ihm j (by omega)
  rcases hr with ⟨rfl, n, r, n3, hn, hj, rfl⟩ | ⟨rfl, hj⟩
  · have hj2 := none_j n (by omega) hj
    rw [sr n n3] at hn
    obtain ⟨⟨x, y, z⟩, q1, q2⟩ := Option.map_eq_some_iff.mp hn
    refine ⟨_, r, w_ftEval h1 hcw hP hl2 (Or.inl ⟨rfl, rfl⟩), s2, Or.inl ⟨n, x, y, z, n3, ?_, hj2, q2.symm⟩⟩
    rw [← zKr_q hI hw hb hc n n3 hj2]
    exact q1
  · refine ⟨_, -9, w_ftEval h1 hcw hP hl2 (Or.inr ⟨rfl, rfl⟩), s2, Or.inr ⟨rfl, fun j hj2 => ?_⟩⟩
    exact none_j 4 (by omega) (fun j hj3 => hj j (by omega)) j (by omega)
