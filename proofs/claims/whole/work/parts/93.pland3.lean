theorem zp0 : zp_0 zInv := by
  intro s so i n hsr hsor hir hnr σ hI
  have nN := zN_eq hI.2.2.1
  have hN := zI3 hI
  have hS := zI10 hI
  have ha : zOkA [0, 0, 0, 0] [s, so, i, n] := ⟨hsr, hsor, hir, hnr, trivial⟩
  by_cases g1 : 0 ≤ s ∧ s < 4
  case neg =>
    refine zqf k_X8_land k_X9_land hI ha (r := -1) (x := 0) ?_ (fun τ hτ => ?_)
    · simp [e_X8_land, d_X8_land, xC_e, xL_e, xU_e, xB_e, xD_e, xF_e, xG_e, xA_e, xE_e, xH_e, xI_e, xZ_e, xK_e, aN_e, aC_e, cR_e, cV_e, cA_e, cO_e, cN_e, bs_e, bn_e, zg_0, zg_S, sS_e, sX_e, sF_e, sG_e, sA_e, sE_e, sEo_e, sK_e, sQ_e, sI_e, sR_e, sV_e, sB_e, sC_e, sD_e, sN_e, sP_e, sY_e, st_0, st_S, zc_0, zc_S, r_eq, r_ne, r_lt, r_le, r_gt, r_ge, rb_ite, rb_0, rb_1, w_isSheet_f g1]
    · simp [e_X9_land, d_X9_land, xC_e, xL_e, xU_e, xB_e, xD_e, xF_e, xG_e, xA_e, xE_e, xH_e, xI_e, xZ_e, xK_e, aN_e, aC_e, cR_e, cV_e, cA_e, cO_e, cN_e, bs_e, bn_e, zg_0, zg_S, sS_e, sX_e, sF_e, sG_e, sA_e, sE_e, sEo_e, sK_e, sQ_e, sI_e, sR_e, sV_e, sB_e, sC_e, sD_e, sN_e, sP_e, sY_e, st_0, st_S, zc_0, zc_S, r_eq, r_ne, r_lt, r_le, r_gt, r_ge, rb_ite, rb_0, rb_1, v_isSheet_f g1]
  by_cases g2 : 0 ≤ so ∧ so ≤ 2
  case neg =>
    refine zqf k_X8_land k_X9_land hI ha (r := -2) (x := 0) ?_ (fun τ hτ => ?_)
    · simp [e_X8_land, d_X8_land, xC_e, xL_e, xU_e, xB_e, xD_e, xF_e, xG_e, xA_e, xE_e, xH_e, xI_e, xZ_e, xK_e, aN_e, aC_e, cR_e, cV_e, cA_e, cO_e, cN_e, bs_e, bn_e, zg_0, zg_S, sS_e, sX_e, sF_e, sG_e, sA_e, sE_e, sEo_e, sK_e, sQ_e, sI_e, sR_e, sV_e, sB_e, sC_e, sD_e, sN_e, sP_e, sY_e, st_0, st_S, zc_0, zc_S, r_eq, r_ne, r_lt, r_le, r_gt, r_ge, rb_ite, rb_0, rb_1, w_isSheet_t g1, w_isSort_f g2]
    · simp [e_X9_land, d_X9_land, xC_e, xL_e, xU_e, xB_e, xD_e, xF_e, xG_e, xA_e, xE_e, xH_e, xI_e, xZ_e, xK_e, aN_e, aC_e, cR_e, cV_e, cA_e, cO_e, cN_e, bs_e, bn_e, zg_0, zg_S, sS_e, sX_e, sF_e, sG_e, sA_e, sE_e, sEo_e, sK_e, sQ_e, sI_e, sR_e, sV_e, sB_e, sC_e, sD_e, sN_e, sP_e, sY_e, st_0, st_S, zc_0, zc_S, r_eq, r_ne, r_lt, r_le, r_gt, r_ge, rb_ite, rb_0, rb_1, v_isSheet_t g1, v_isSort_f g2]
  obtain ⟨-, s2, s3, s4, s5⟩ := hS s g1.1 g1.2
  have fr : m_X6_faultOfRow [29 + 2 * s, so, i, n] (zput σ 0 8 0) = some (zAg σ s so i n, zput σ 0 8 0) := by
    have e : ∀ k, zput σ 0 8 0 (29 + 2 * s) k = σ (29 + 2 * s) k := fun k => zput_o (by omega) k
    rw [w_faultOfRow (by rw [e]; omega), e, e, e]
    rfl
  have agn : ∀ τ : zHp, τ 38 s = σ 38 s → τ 39 s = σ 39 s → m_X9_against [37, s, so, i, n] (zput τ 37 0 0) = some (zAg σ s so i n, zput τ 37 0 0) := fun τ t1 t2 => by
    rw [v_against g1 (st := σ 38 s) (len := σ 39 s) (by rw [zput_o (by decide), t1]) (by rw [zput_o (by decide), t2]) ⟨s3, s4⟩, zAg_38 hS g1]
  by_cases ga : zAg σ s so i n = 0
  case neg =>
    have gb := zAg_b σ s so i n
    refine zqf k_X8_land k_X9_land hI ha (w_ldEvA g1 g2 fr ga (w32_id (x := -10 - zAg σ s so i n) ⟨by omega, by omega⟩)) (fun τ hτ => v_ldEvA g1 g2 (agn τ (hτ 38 s (by omega)) (hτ 39 s (by omega))) ga gb)
  obtain ⟨a1, a2, a3, a4⟩ := zAg_0 ga
  rw [ga] at fr agn
  obtain ⟨n, rfl⟩ : ∃ m : Nat, n = (m : Int) := ⟨n.toNat, by omega⟩
  have f60 : o_iadd (o_imul 60 s) i = 60 * s + i := by
    have : o_imul 60 s = 60 * s := w32_id ⟨by omega, by omega⟩
    rw [this]
    exact w32_id ⟨by omega, by omega⟩
  have fE : o_iadd (60 * s + i) (n : Int) = 60 * s + i + (n : Int) := w32_id ⟨by omega, by omega⟩
  generalize hV : (fun k : Nat => σ 40 (60 * s + (i + (k : Int)))) = V
  have V40 : ∀ k : Nat, σ 40 (60 * s + i + (k : Int)) = V k := fun k => by rw [← hV, show 60 * s + i + (k : Int) = 60 * s + (i + (k : Int)) by omega]
  have V30 : ∀ k : Nat, k < n → σ (30 + 2 * s) (i + (k : Int)) = V k := fun k hk => by
    rw [← hV, show 30 + 2 * s = 29 + 2 * s + 1 by omega]
    exact (s5 (i + (k : Int)) (by omega) (by omega)).symm
  have Vr : ∀ k : Nat, k < n → r32 (V k) := fun k hk => by
    rw [← hV]
    have h := hI.1 40 (60 * s + (i + (k : Int))).toNat
    rw [show (((60 * s + (i + (k : Int))).toNat : Nat) : Int) = 60 * s + (i + (k : Int)) by omega] at h
    exact h
  clear hV
  obtain ⟨q, q1, q2⟩ := w_fft (σ := zput σ 0 8 0) (o := 30 + 2 * s) (i := i) (n := n) (V := V) (fun k hk => ⟨by rw [zput_o (by omega)]; exact V30 k hk, Vr k hk⟩) ⟨a1, by omega⟩
  have hfb : 0 ≤ 60 * s + i ∧ 60 * s + i + (n : Int) ≤ 240 := by omega
  have n60 : n ≤ 60 := by omega
  have rl := fun (x : zHp) (hx : ∀ j : Int, x 40 j = σ 40 j) (hat : x 37 10 = 60 * s + i) => v_rl (σ := x) (f := 60 * s + i) (n := n) (V := V) hfb (fun k hk => by rw [hx]; exact V40 k) n60 hat
  by_cases ok : q = n ∧ 2 < n ∧ n = 3 + zHi V * (1 + zWi V)
  case neg =>
    rw [if_neg ok] at q2
    have qn : q ≤ n := by
      rcases Nat.lt_or_ge n q with z | z
      · exact absurd (q1.1 n z).1 (Nat.lt_irrefl _)
      · exact z
    have h1 := w_ldEvQ g1 g2 fr q2 (by omega) (w32_id (x := -100 - (q : Int)) ⟨by omega, by omega⟩)
    obtain ⟨r, τ, x1, x2, x3⟩ := rl (zput (zput (zput σ 0 8 0) 37 0 0) 37 10 (60 * s + i)) (fun j => by rw [zput_o (by decide), zput_o (by decide), zput_o (by decide)]) (zput_self _ _ _ _)
    rcases x3 with ⟨rfl, p, p1, p2, p3⟩ | ⟨-, p1, p2, -⟩
    · have pq := zFp_u p2 q1
      subst pq
      have h2 := v_ldEvQ g1 g2 (agn (zput σ 0 8 0) (zput_o (by decide) _) (zput_o (by decide) _)) f60 fE rfl x1 p1 (w32_id (x := 60 * s + i + (p : Int) - (60 * s + i)) ⟨by omega, by omega⟩) (r := -100 - (p : Int)) (by
        have : o_isub (-100) (60 * s + i + (p : Int) - (60 * s + i)) = -100 - (60 * s + i + (p : Int) - (60 * s + i)) := w32_id ⟨by omega, by omega⟩
        omega)
      have o1 := zOk_of k_X8_land hI.1 h1 ⟨zthis, ha⟩
      have o2 := zOk_of k_X9_land o1 h2 ⟨zthat, ha⟩
      refine ⟨_, _, _, h1, h2, zInv_sF o2 hI (fun a b z1 z2 z3 => ?_) ?_⟩
      · rw [x2 a b (by rintro rfl; simp [zfree] at z1) (by rintro ⟨rfl, rfl | rfl | rfl⟩ <;> simp [zfree] at z1), zput_n (by rintro ⟨rfl, rfl⟩; simp [zfree] at z1), zput_n z3, zput_n z2]
      · rw [x2 0 8 (by decide) (by decide), x2 37 0 (by decide) (by decide), zput_o (by decide), zput_o (by decide), zput_self, zput_i (by decide), zput_self]
    · exfalso
      have : zFp V n n := ⟨fun j hj => ⟨hj, p1 j hj⟩, fun z => absurd z.1 (Nat.lt_irrefl _)⟩
      exact ok ⟨zFp_u q1 this, p2⟩
  rw [if_pos ok] at q2
  have allgo : ∀ k, k < n → zGo V k = true := fun k hk => (q1.1 k (by rw [ok.1]; exact hk)).2
  obtain ⟨hw1, hw2, hw3, hw4, hw5, hw6⟩ := zHW (allgo 1 (by omega)) (allgo 2 (by omega))
  have fpn : zFp V n n := ⟨fun j hj => ⟨hj, allgo j hj⟩, fun z => absurd z.1 (Nat.lt_irrefl _)⟩
  have okn := ok.2
  obtain ⟨τ, t1, tk, t5⟩ := w_tk (σ := zput σ 0 8 0) (o := 30 + 2 * s) (i := i) (n := n) (V := V) (by omega) (fun k hk => by rw [zput_o (by omega)]; exact V30 k hk) ⟨a1, by omega⟩ ok.2.2 allgo
  have h1 := w_ldEv g1 g2 fr q2 t1
  have eC : zHi V * zWi V = zWi V * zHi V := Nat.mul_comm _ _
  have C30 : zWi V * zHi V ≤ 30 := Nat.mul_le_mul hw4 hw2
  have hHW : ((zHi V * zWi V : Nat) : Int) = (zHi V : Int) * (zWi V : Int) := Int.natCast_mul _ _
  rw [eC] at tk hHW
  clear ok q2 allgo q1 eC hw5 hw6
  generalize hH : zHi V = H at *
  generalize hWd : zWi V = W at *
  generalize hCe : W * H = C at *
  clear hH hWd hCe
  have lA := zLA_of tk
  have hret : τ 1 2 = (C : Int) := by rw [tk.1 1 2 (by decide) (by decide) (by decide) (by decide), zput_i (by decide), zput_self]
  rw [hret] at h1
  clear hret tk t1
  generalize zput (zput (zput τ 6 0 0) 14 2 0) 10 2 10 = A at *
  obtain ⟨r, B, x1, x2, x3⟩ := rl (zput (zput A 37 0 0) 37 10 (60 * s + i)) (fun j => by rw [zput_o (by decide), zput_o (by decide)]; exact lA.1 40 j (fun z => absurd z.1 (by decide)) (by decide) (by decide) (by decide) (by decide) (by decide) (fun z => absurd z.1 (by decide)) (fun z => absurd z.1 (by decide)) (fun z => absurd z.1 (by decide))) (zput_self _ _ _ _)
  have x4 : r = 1 ∧ B 37 11 = (H : Int) ∧ B 37 12 = (W : Int) ∧ ∀ c : Nat, c < C → B 43 c = zHt V W c := by
    rcases x3 with ⟨-, p, p1, p2, p3⟩ | ⟨p0, p1, p2, p4, p5, p6⟩
    · exact absurd ⟨zFp_u p2 fpn, okn⟩ p3
    · exact ⟨p0, p4, p5, p6⟩
  obtain ⟨rfl, B11, B12, B43⟩ := x4
  clear x3 okn fpn rl
  have wC : w32 ((H : Int) * (W : Int)) = (C : Int) := by
    rw [← hHW]
    exact zw30 C30
  obtain ⟨Z, h2, lZ⟩ := zLZ_of (A := A) (V := V) g1 g2 (agn A (lA.1 38 s (fun z => absurd z.1 (by decide)) (by decide) (by decide) (by decide) (by decide) (by decide) (fun z => absurd z.1 (by decide)) (fun z => absurd z.1 (by decide)) (fun z => absurd z.1 (by decide))) (lA.1 39 s (fun z => absurd z.1 (by decide)) (by decide) (by decide) (by decide) (by decide) (by decide) (fun z => absurd z.1 (by decide)) (fun z => absurd z.1 (by decide)) (fun z => absurd z.1 (by decide)))) f60 fE x1 x2 B11 B12 B43 C30 wC
  have o1 := zOk_of k_X8_land hI.1 h1 ⟨zthis, ha⟩
  have o2 := zOk_of k_X9_land o1 h2 ⟨zthat, ha⟩
  exact ⟨_, _, _, h1, h2, zLd_inv hI o2 lA lZ ⟨hw1, hw2⟩ ⟨hw3, hw4⟩ C30 hHW t5⟩
