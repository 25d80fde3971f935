/-! THE CLAIM OUT OF ONE WALK OF THE LAW'S BODY. Your part is whole_start (and what it stands on); all else here is the same for every law, but numbers. -/
def R_law : String := "BellLandLaw"
def lw_P (b : Addr) (xs : List Int32) (args : Array Value) (s : State) : Prop := args = #[.ref b] ∧ s.IntsAt b xs ∧ xs.length ≤ 260 ∧ (Jvm.Cond.and given_1 narrow_1).before args s = true
def lw_Q (_ : Array Value) (s : State) (o : Outcome) (t : State) : Prop := o = .returned (some (.int 1)) ∧ Framed s o t [] 600000 7302250
def lw_Z (below : List Frame) (a : Array Value) (s : State) : State → Prop := fun t => ∃ o, t.status = .running ∧ Ended t below o ∧ lw_Q a s o t
/-- the law's own end, with 1 on the stack, nothing written that was there before, its room as the claim has it -/
theorem lw_ret {p : Program} {l : Launch} {e : Env} {s : State} {m : MethodId} {below : List Frame} {meth : Method} {c : Code} {b : Nat} (hx : p.tables.exec = Jvm.exec) (hb : c.code = code) (hr : meth.sig.returnType = ret) (hlocks : meth.locks = false) {pc : Nat} {H : Heap} {ls : Array Slot} (hdg : decode code pc = .ok (.ireturn, 1)) : W p l e room_1 s m #[Value.ref b] below meth c H [] 600000 7302250 (lw_Z below #[Value.ref b] s) (F0 m pc ls [.int 1]) := by
  intro T hT X
  obtain ⟨fs, hret, hrun, hended, hW, hframe⟩ := X.leave (v := some (.int 1)) (hlocks := hlocks) (fun h => by rw [hr] at h; cases h)
  have hmeth' : T.vm.method? m = some meth := X.method'
  refine ⟨T.setFrames fs, ?_, .returned (some (.int 1)), hrun, hended, rfl, ⟨_, rfl⟩, hW, hframe⟩
  jvm_step X.here [X.here.top, hx, hb, hdg, hmeth', hr, ret, narrow_b1]
  (try refine ⟨rfl, ?_⟩); (try refine ⟨rfl, ?_⟩)
  first | (intro acts; rw [hret _ acts rfl rfl rfl]) | rw [hret _ _ rfl rfl rfl]
  exact Steps.refl _
/-- what holds at the law's entry: the machine, the code, the tables' words (any of lw_tbl by 'hts w (by decide +kernel)'), the script of L ints xs at the cell b, what the Statement gives of the start (any of its parts by flat_of_before) -/
def lw_At (p : Program) (s : State) (m : MethodId) (meth : Method) (c : Code) (b L : Nat) (xs : Nat → Int32) : Prop :=
  p.tables.exec = Jvm.exec ∧ c.code = code ∧ meth.sig.returnType = ret ∧ c.maxLocals = 17 ∧ s.vm.findClass R_law = some m.cls ∧ (∀ w ∈ lw_tbl, w.before #[Value.ref b] s = true) ∧ va_X b L xs s s.heap ∧ b < s.heap.size ∧ meth.locks = false ∧ (Jvm.Cond.and given_1 narrow_1).before #[Value.ref b] s = true
def zsig0 : zHp := fun _ _ => 0
theorem zct_0 : zct zsig0 = 0 := rfl
theorem zOk_0 : zOk zsig0 := by
  refine ⟨fun o k => ?_, by decide, by decide⟩
  have hz : zst o k = 0 ∨ zst o k = 1 ∨ zst o k = 3 ∨ zst o k = 4 := by
    unfold zst
    split; · exact Or.inl rfl
    split; · exact Or.inr (Or.inl rfl)
    split; · exact Or.inr (Or.inr (Or.inl rfl))
    split; · exact Or.inr (Or.inr (Or.inl rfl))
    next h2 =>
    rcases zfv_kind (zoc o) k with h | h | h | h
    · exact Or.inl h
    · exact Or.inr (Or.inl h)
    · exact absurd h h2
    · exact Or.inr (Or.inr (Or.inr h))
  show inR (zst o k) 0
  rcases hz with h | h | h | h <;> rw [h]
  · exact ⟨by decide, by decide⟩
  · exact ⟨by decide, by decide⟩
  · exact trivial
  · exact Or.inl rfl
theorem z_arrV {cA : ClassId} {n : Nat} {f g : Nat → Value} (h : ∀ j, j < n → f j = g j) : arrV cA n f = arrV cA n g := by
  unfold arrV
  congr 1
  apply Array.ext
  · simp
  · intro i h1 h2
    simp at h1 ⊢
    exact h i h1
theorem z_atI {D : va_G} {cl : List vw_C} {a : Nat} {cA : ClassId} {n : Nat} {f g : Nat → Int32} {H : Heap} (h : va_at D cl (a, .inl (cA, n, .inl f)) H) (hfg : ∀ j, j < n → f j = g j) : va_at D cl (a, .inl (cA, n, .inl g)) H := by
  have h1 : H[a]? = some (vp_cell cA (n, .inl f)) := h
  show H[a]? = some (vp_cell cA (n, .inl g))
  rw [h1, vp_cell_i, vp_cell_i, z_arrV (fun j hj => by rw [hfg j hj])]
theorem z_atQ {D : va_G} {cl : List vw_C} {a : Nat} {cA : ClassId} {n : Nat} {f g : Nat → Option Nat} {H : Heap} (h : va_at D cl (a, .inl (cA, n, .inr (.inr (.inr (.inr f))))) H) (hfg : ∀ j, j < n → f j = g j) : va_at D cl (a, .inl (cA, n, .inr (.inr (.inr (.inr g))))) H := by
  have h1 : H[a]? = some (vp_cell cA (n, .inr (.inr (.inr (.inr f))))) := h
  show H[a]? = some (vp_cell cA (n, .inr (.inr (.inr (.inr g)))))
  rw [h1, vp_cell_q, vp_cell_q, z_arrV (fun j hj => by rw [hfg j hj])]
theorem z_known {s : State} {args : Array Value} {C : String} {T : u_T} {N : Nat} (hts : ∀ w ∈ lw_tbl, w.before args s = true) (h1 : ∀ w ∈ u_ws C T N, w ∈ zG) (h2 : Cond.instantiable C N ∈ zG) : ∃ (c : ClassId) (i : Nat → Nat), u_Kn s C T N c i :=
  u_known (n := N) hts (fun w h => zG_tbl w (h1 w h)) (hts _ (zG_tbl _ h2))
theorem z_isT {s : State} {args : Array Value} {ty : FieldType} (h : (Cond.arrayClass ty).before args s = true) : ∃ cA : ClassId, ArrOfT s cA ty ∧ s.vm.findClass ("[" ++ ty.toString) = some cA := by
  obtain ⟨c, k, comp, h1, h2, h3⟩ := Cond.arrayClass_spec h
  exact ⟨c, fun n z => ⟨fun k h => (by cases h), k, h2, comp, h3⟩, h1⟩
theorem z_isQ {s : State} {args : Array Value} {C : String} (h : (Cond.arrayOver (.object C)).before args s = true) : ∃ cA : ClassId, ArrOfT s cA (.object C) ∧ va_RA s cA (.object C) := by
  obtain ⟨comp, c, k, h1, h2, h3, h4, h5⟩ := Cond.arrayOver_spec h
  exact ⟨c, fun n z => ⟨fun k h => (by cases h), k, h3, comp, h4⟩, k, comp, h3, h4, h1, h5⟩
theorem z_blind8 {av : List Value} {D : va_G} {sz : Nat} {ws : va_W} {tys : List (ClassId × FieldType)} : FrameBlind (va_Pc av (fun U => U.heap.size = sz ∧ va_P D vwCl ws U.heap ∧ va_K D vwCl tys U ∧ va_D (fun _ => True) ws ∧ va_AO RX6 U)) := fun a U g mk q => by
  obtain ⟨q0, q1, qP, qK, qD, qO⟩ := q
  exact ⟨q0, q1, qP, va_K.moved (u := U) (U := U.calling g mk a) (Vm.Alike.refl U.vm) qK, qD, va_AO.moved (u := U) (U := U.calling g mk a) (Vm.Alike.refl U.vm) qO⟩
set_option maxRecDepth 100000 in
set_option maxHeartbeats 40000000 in
theorem z_world {D : va_G} {cs : zCs} {H : Heap} (a0 a1 a2 a3 a4 a5 a6 a7 a8 a9 a10 a11 a12 a13 a14 a15 a16 a17 a18 a19 a20 a21 a22 a23 a24 a25 a26 a27 a28 a29 a30 a31 a32 a33 a34 a35 a36 a37 : Nat) (hP : va_P D vwCl [(a0, .inr (8, [.ref a1, .ref a6, .ref a10, .ref a14, .ref a19, .ref a22, .ref a25, .ref a28, .int 0, .int 0])), (a1, .inr (3, [.int 0, .int 0, .int 0, .int 0, .ref a2, .ref a3, .ref a4, .ref a5])), (a2, zIa cs 30), (a3, zIa cs 30), (a4, zIa cs 30), (a5, zIa cs 10), (a6, .inr (1, [.int 0, .ref a7, .ref a8, .ref a9])), (a7, zIa cs 6), (a8, zIa cs 6), (a9, zIa cs 6), (a10, .inr (0, [.ref a1, .ref a6, .int 0, .ref a11, .ref a12, .long 0, .ref a13])), (a11, zLa cs 180), (a12, zLa cs 180), (a13, zLa cs 30), (a14, .inr (4, [.ref a6, .ref a10, .int 0, .ref a15, .ref a16, .ref a17, .ref a18])), (a15, zIa cs 10), (a16, zIa cs 10), (a17, zIa cs 10), (a18, zIa cs 10), (a19, .inr (7, [.ref a1, .ref a6, .ref a10, .ref a20, .ref a21, .int 0, .int 0])), (a20, zLa cs 6), (a21, zIa cs 6), (a22, .inr (5, [.ref a6, .ref a10, .ref a23, .ref a24])), (a23, zIa cs 6), (a24, zIa cs 6), (a25, .inr (2, [.ref a6, .ref a10, .ref a26, .ref a27, .int 0, .int 0])), (a26, zIa cs 6), (a27, zLa cs 201), (a28, .inl (cs.2.2, 4, .inr (.inr (.inr (.inr (va_up (va_up (va_up (va_up (fun _ => none) (Int32.toNatClampNeg 0) (some a29)) (Int32.toNatClampNeg 1) (some a31)) (Int32.toNatClampNeg 2) (some a33)) (Int32.toNatClampNeg 3) (some a35))))))), (a29, .inr (6, [.ref a30, .int 0, .int 0, .int 0])), (a30, zIa cs 60), (a31, .inr (6, [.ref a32, .int 0, .int 0, .int 0])), (a32, zIa cs 60), (a33, .inr (6, [.ref a34, .int 0, .int 0, .int 0])), (a34, zIa cs 60), (a35, .inr (6, [.ref a36, .int 0, .int 0, .int 0])), (a36, zIa cs 60), (a37, zIa cs 60)] H) : va_P D vwCl (zW cs (fun i => ([a0, a1, a2, a3, a4, a5, a6, a7, a8, a9, a10, a11, a12, a13, a14, a15, a16, a17, a18, a19, a20, a21, a22, a23, a24, a25, a26, a27, a28, a29, a30, a31, a32, a33, a34, a35, a36, a37] : List Nat).getD i 0) zsig0 (List.range 38)) H := by
  intro k q hk
  obtain ⟨o, h1, h2, rfl⟩ := zW_of hk
  clear h1 hk
  have hlt : o < 38 := List.mem_range.mp h2
  clear h2
  match o, hlt with
  | 0, _ => exact hP 0 _ rfl
  | 1, _ => exact hP 1 _ rfl
  | 2, _ => exact hP 2 _ rfl
  | 3, _ => exact hP 3 _ rfl
  | 4, _ => exact hP 4 _ rfl
  | 5, _ => exact hP 5 _ rfl
  | 6, _ => exact hP 6 _ rfl
  | 7, _ => exact hP 7 _ rfl
  | 8, _ => exact hP 8 _ rfl
  | 9, _ => exact hP 9 _ rfl
  | 10, _ => exact hP 10 _ rfl
  | 11, _ => exact hP 11 _ rfl
  | 12, _ => exact hP 12 _ rfl
  | 13, _ => exact hP 13 _ rfl
  | 14, _ => exact hP 14 _ rfl
  | 15, _ => exact hP 15 _ rfl
  | 16, _ => exact hP 16 _ rfl
  | 17, _ => exact hP 17 _ rfl
  | 18, _ => exact hP 18 _ rfl
  | 19, _ => exact hP 19 _ rfl
  | 20, _ => exact hP 20 _ rfl
  | 21, _ => exact hP 21 _ rfl
  | 22, _ => exact hP 22 _ rfl
  | 23, _ => exact hP 23 _ rfl
  | 24, _ => exact hP 24 _ rfl
  | 25, _ => exact hP 25 _ rfl
  | 26, _ => exact hP 26 _ rfl
  | 27, _ => exact hP 27 _ rfl
  | 28, _ => exact z_atQ (hP 28 _ rfl) (fun j hj => by have hj : j < 4 := hj; rcases (show j = 0 ∨ j = 1 ∨ j = 2 ∨ j = 3 by omega) with rfl | rfl | rfl | rfl <;> rfl)
  | 29, _ => exact hP 29 _ rfl
  | 30, _ => exact hP 30 _ rfl
  | 31, _ => exact hP 31 _ rfl
  | 32, _ => exact hP 32 _ rfl
  | 33, _ => exact hP 33 _ rfl
  | 34, _ => exact hP 34 _ rfl
  | 35, _ => exact hP 35 _ rfl
  | 36, _ => exact hP 36 _ rfl
  | 37, _ => exact hP 37 _ rfl
  | n + 38, h => exact absurd h (by omega)
set_option maxRecDepth 100000 in
set_option maxHeartbeats 40000000 in
/-- the law from its entry, once its loop is known to come to 1 -/
theorem zw_start {p : Program} {e : Env} {s : State} {m : MethodId} {below : List Frame} {meth : Method} {c : Code} (l : Launch) {b L : Nat} {xs : Nat → Int32} (hL : L ≤ 260) (C0 : lw_At p s m meth c b L xs) (hpure : ∃ τ, d_L_law L xs [0, 0, 37, 0, 0, 0, 0, 0, 0, 0, 0, 0, 0, 0, 0, 0, 0] zsig0 = some (1, [1], τ)) : W p l e room_1 s m #[Value.ref b] below meth c s.heap [] 0 0 (lw_Z below #[Value.ref b] s) (entryFrame m ([Value.ref b] : List Value).toArray 17) := by
  obtain ⟨hx, hb, hr, hml, hown, hts, hX, hbl, hlocks, hgv⟩ := id C0
  have hb : c.code = cL_law := hb
  have hown : s.vm.findClass RL = some m.cls := hown
  have hA : ∀ q : Nat, s.heap.size ≤ q → (fun q : Nat => s.heap.size ≤ q) q := fun _ h => h
  obtain ⟨c0, i0, hK0⟩ := z_known (C := RX0) (T := TX0) (N := 7) hts inG_X0 zw_92
  obtain ⟨c1, i1, hK1⟩ := z_known (C := RX1) (T := TX1) (N := 4) hts inG_X1 zw_65
  obtain ⟨c2, i2, hK2⟩ := z_known (C := RX2) (T := TX2) (N := 6) hts inG_X2 zw_195
  obtain ⟨c3, i3, hK3⟩ := z_known (C := RX3) (T := TX3) (N := 8) hts inG_X3 zw_29
  obtain ⟨c4, i4, hK4⟩ := z_known (C := RX4) (T := TX4) (N := 7) hts inG_X4 zw_122
  obtain ⟨c5, i5, hK5⟩ := z_known (C := RX5) (T := TX5) (N := 4) hts inG_X5 zw_176
  obtain ⟨c6, i6, hK6⟩ := z_known (C := RX6) (T := TX6) (N := 4) hts inG_X6 zw_219
  obtain ⟨c7, i7, hK7⟩ := z_known (C := RX7) (T := TX7) (N := 7) hts inG_X7 zw_150
  obtain ⟨c8, i8, hK8⟩ := z_known (C := RX8) (T := TX8) (N := 10) hts inG_X8 zw_21
  obtain ⟨dC, dI, hKc⟩ : ∃ (dC : Nat → ClassId) (dI : Nat → Nat → Nat), ∀ (k : Nat) (q : vw_C), vwCl[k]? = some q → u_Kn s q.1 q.2.1 q.2.2 (dC k) (dI k) := by
    refine ⟨fun k => ([c0, c1, c2, c3, c4, c5, c6, c7, c8] : List ClassId).getD k c0, fun k => ([i0, i1, i2, i3, i4, i5, i6, i7, i8] : List (Nat → Nat)).getD k i0, ?_⟩
    intro k q hq
    match k, hq with
    | 0, hq => cases hq; exact hK0
    | 1, hq => cases hq; exact hK1
    | 2, hq => cases hq; exact hK2
    | 3, hq => cases hq; exact hK3
    | 4, hq => cases hq; exact hK4
    | 5, hq => cases hq; exact hK5
    | 6, hq => cases hq; exact hK6
    | 7, hq => cases hq; exact hK7
    | 8, hq => cases hq; exact hK8
    | k + 9, hq => simp [vwCl] at hq
  obtain ⟨cI, gI, fI⟩ := z_isT (hts _ (zG_tbl _ zw_63))
  obtain ⟨cJ, gJ, fJ⟩ := z_isT (hts _ (zG_tbl _ zw_120))
  have hover : va_AO RX6 s := va_AO.of (hts _ zw_over)
  obtain ⟨cO, gO, fO⟩ := z_isQ (hts _ zw_over)
  obtain ⟨cs, rfl⟩ : ∃ cs : zCs, cs = (cI, cJ, cO) := ⟨_, rfl⟩
  have hK : va_K (dC, dI) vwCl (zty (cI, cJ, cO)) s := by
    refine ⟨hKc, fun k q hk => ?_⟩
    match k, hk with
    | 0, hk => cases hk; exact ⟨gI, fI⟩
    | 1, hk => cases hk; exact ⟨gJ, fJ⟩
    | 2, hk => cases hk; exact ⟨gO, fO⟩
    | k + 3, hk => simp [zty] at hk
  generalize hcs : ((cI, cJ, cO) : zCs) = cs at hK
  have hS : va_S (fun q : Nat => s.heap.size ≤ q) s.heap s.heap [] := va_S.rf
  have hP : va_P (dC, dI) vwCl [] s.heap := fun k q h => by simp at h
  have hD : va_D (fun q : Nat => s.heap.size ≤ q) [] := ⟨fun i j p q h => by simp at h, fun k q h => by simp at h⟩
  have hl := lv_entry ([.ref b]) (n := 17) (Nat.le_of_ble_eq_true rfl)
  rw [lg_entry_eq]
  generalize (lg_sl ([.ref b]) ++ List.replicate (17 - (lg_sl ([.ref b])).length) Slot.unset).toArray = ls at hl ⊢
  have hl : lv_has ls 17 [(0, .ref b)] := hl
  have htw : ∀ w ∈ wz_L, w.before #[Value.ref b] s = true := fun w hw => by
    rcases List.mem_cons.mp hw with rfl | h
    · exact (hts _ (zG_tbl _ zw_8))
    · exact hts _ (zG_tbl _ h)
  refine va_new (Ts := lw_tbl) (ci := 8) (fs := [.null, .null, .null, .null, .null, .null, .null, .null, .int 0, .int 0]) (C := RX8) (T := TX8) (N := 10) hx hb hts (fun w h => zG_tbl w (inG_X8 w h)) tyX8 tyX8_ok hown (hts _ (zG_tbl _ zw_20)) (hts _ (zG_tbl _ zw_21)) (hts _ (zG_tbl _ zw_8)) hK hP hD hS hA rfl (fun j hj => by rcases (show j = 0 ∨ j = 1 ∨ j = 2 ∨ j = 3 ∨ j = 4 ∨ j = 5 ∨ j = 6 ∨ j = 7 ∨ j = 8 ∨ j = 9 by omega) with rfl | rfl | rfl | rfl | rfl | rfl | rfl | rfl | rfl | rfl <;> rfl) (Nat.le_of_ble_eq_true rfl) (Nat.le_of_ble_eq_true rfl) dL_law_0 (fun a0 H hP hD hS => ?_)
  refine W.widen (k := 1) (n := 10) (Nat.le_of_ble_eq_true rfl) (Nat.le_of_ble_eq_true rfl) ?_
  have hP : va_P (dC, dI) vwCl [(a0, .inr (8, [.null, .null, .null, .null, .null, .null, .null, .null, .int 0, .int 0]))] H := hP
  have hD : va_D (fun q : Nat => s.heap.size ≤ q) [(a0, .inr (8, [.null, .null, .null, .null, .null, .null, .null, .null, .int 0, .int 0]))] := hD
  refine lv_dup hx hb dL_law_3 rfl ?_
  have hPc := hP.sub (ws' := [(a0, .inr (8, [.null, .null, .null, .null, .null, .null, .null, .null, .int 0, .int 0]))]) [0] rfl
  have hDc := hD.sub (ws' := [(a0, .inr (8, [.null, .null, .null, .null, .null, .null, .null, .null, .int 0, .int 0]))]) [0] (by decide) rfl
  have hFc := va_free (wc := [(a0, .inr (8, [.null, .null, .null, .null, .null, .null, .null, .null, .int 0, .int 0]))]) hD hS hA [0] rfl
  refine va_callv (va_runI (Ts := wz_L) (As := []) (rest := [.ref a0]) ⟨hx, hb, hml, hown, htw⟩ (ci_X8 l dC dI cs a0 H.size) (cwI 0 htw (zGI zw_24) rfl rfl rfl (htw _ (List.mem_cons_of_mem _ zw_8)) (htw _ (List.mem_cons_of_mem _ zw_22)) (htw _ (List.mem_cons_of_mem _ zw_23)) rfl (by decide +kernel) ⟨Nat.le_of_ble_eq_true rfl, Nat.le_of_ble_eq_true rfl⟩) ⟨z_blind8, fun U hU hW => ⟨rfl, by rw [hU], by rw [hU]; exact hPc, va_K.moved hW.alike hK, hDc.weaken (fun _ _ _ _ => trivial), va_AO.moved hW.alike hover⟩⟩ rfl rfl hl.1 rfl (lv_room (Nat.le_of_ble_eq_true rfl)) dL_law_4 ⟨Nat.le_of_ble_eq_true rfl, Nat.le_of_ble_eq_true rfl⟩) hS (fun q _ h => hFc q h) hFc (fun u t H1 locs ht hvm hw hB hz1 hk1 hS => ?_)
  obtain ⟨a1, a2, a3, a4, a5, a6, a7, a8, a9, a10, a11, a12, a13, a14, a15, a16, a17, a18, a19, a20, a21, a22, a23, a24, a25, a26, a27, a28, a29, a30, a31, a32, a33, a34, a35, a36, hP1, hD1⟩ := hB
  rw [ht] at hP1
  obtain ⟨hP, hD⟩ := va_join (wr := []) (w1 := [(a0, .inr (8, [.ref a1, .ref a6, .ref a10, .ref a14, .ref a19, .ref a22, .ref a25, .ref a28, .int 0, .int 0])), (a1, .inr (3, [.int 0, .int 0, .int 0, .int 0, .ref a2, .ref a3, .ref a4, .ref a5])), (a2, zIa cs 30), (a3, zIa cs 30), (a4, zIa cs 30), (a5, zIa cs 10), (a6, .inr (1, [.int 0, .ref a7, .ref a8, .ref a9])), (a7, zIa cs 6), (a8, zIa cs 6), (a9, zIa cs 6), (a10, .inr (0, [.ref a1, .ref a6, .int 0, .ref a11, .ref a12, .long 0, .ref a13])), (a11, zLa cs 180), (a12, zLa cs 180), (a13, zLa cs 30), (a14, .inr (4, [.ref a6, .ref a10, .int 0, .ref a15, .ref a16, .ref a17, .ref a18])), (a15, zIa cs 10), (a16, zIa cs 10), (a17, zIa cs 10), (a18, zIa cs 10), (a19, .inr (7, [.ref a1, .ref a6, .ref a10, .ref a20, .ref a21, .int 0, .int 0])), (a20, zLa cs 6), (a21, zIa cs 6), (a22, .inr (5, [.ref a6, .ref a10, .ref a23, .ref a24])), (a23, zIa cs 6), (a24, zIa cs 6), (a25, .inr (2, [.ref a6, .ref a10, .ref a26, .ref a27, .int 0, .int 0])), (a26, zIa cs 6), (a27, zLa cs 201), (a28, .inl (cs.2.2, 4, .inr (.inr (.inr (.inr (va_up (va_up (va_up (va_up (fun _ => none) (Int32.toNatClampNeg 0) (some a29)) (Int32.toNatClampNeg 1) (some a31)) (Int32.toNatClampNeg 2) (some a33)) (Int32.toNatClampNeg 3) (some a35))))))), (a29, .inr (6, [.ref a30, .int 0, .int 0, .int 0])), (a30, zIa cs 60), (a31, .inr (6, [.ref a32, .int 0, .int 0, .int 0])), (a32, zIa cs 60), (a33, .inr (6, [.ref a34, .int 0, .int 0, .int 0])), (a34, zIa cs 60), (a35, .inr (6, [.ref a36, .int 0, .int 0, .int 0])), (a36, zIa cs 60)]) hP hD [0] [] rfl rfl (by decide) (by decide) hk1 hFc hP1 hD1
  generalize H1 = H at hP hS ⊢
  refine W.widen (k := 37) (n := 1092) (Nat.le_of_ble_eq_true rfl) (Nat.le_of_ble_eq_true rfl) ?_
  have hP : va_P (dC, dI) vwCl [(a0, .inr (8, [.ref a1, .ref a6, .ref a10, .ref a14, .ref a19, .ref a22, .ref a25, .ref a28, .int 0, .int 0])), (a1, .inr (3, [.int 0, .int 0, .int 0, .int 0, .ref a2, .ref a3, .ref a4, .ref a5])), (a2, zIa cs 30), (a3, zIa cs 30), (a4, zIa cs 30), (a5, zIa cs 10), (a6, .inr (1, [.int 0, .ref a7, .ref a8, .ref a9])), (a7, zIa cs 6), (a8, zIa cs 6), (a9, zIa cs 6), (a10, .inr (0, [.ref a1, .ref a6, .int 0, .ref a11, .ref a12, .long 0, .ref a13])), (a11, zLa cs 180), (a12, zLa cs 180), (a13, zLa cs 30), (a14, .inr (4, [.ref a6, .ref a10, .int 0, .ref a15, .ref a16, .ref a17, .ref a18])), (a15, zIa cs 10), (a16, zIa cs 10), (a17, zIa cs 10), (a18, zIa cs 10), (a19, .inr (7, [.ref a1, .ref a6, .ref a10, .ref a20, .ref a21, .int 0, .int 0])), (a20, zLa cs 6), (a21, zIa cs 6), (a22, .inr (5, [.ref a6, .ref a10, .ref a23, .ref a24])), (a23, zIa cs 6), (a24, zIa cs 6), (a25, .inr (2, [.ref a6, .ref a10, .ref a26, .ref a27, .int 0, .int 0])), (a26, zIa cs 6), (a27, zLa cs 201), (a28, .inl (cs.2.2, 4, .inr (.inr (.inr (.inr (va_up (va_up (va_up (va_up (fun _ => none) (Int32.toNatClampNeg 0) (some a29)) (Int32.toNatClampNeg 1) (some a31)) (Int32.toNatClampNeg 2) (some a33)) (Int32.toNatClampNeg 3) (some a35))))))), (a29, .inr (6, [.ref a30, .int 0, .int 0, .int 0])), (a30, zIa cs 60), (a31, .inr (6, [.ref a32, .int 0, .int 0, .int 0])), (a32, zIa cs 60), (a33, .inr (6, [.ref a34, .int 0, .int 0, .int 0])), (a34, zIa cs 60), (a35, .inr (6, [.ref a36, .int 0, .int 0, .int 0])), (a36, zIa cs 60)] H := hP
  have hD : va_D (fun q : Nat => s.heap.size ≤ q) [(a0, .inr (8, [.ref a1, .ref a6, .ref a10, .ref a14, .ref a19, .ref a22, .ref a25, .ref a28, .int 0, .int 0])), (a1, .inr (3, [.int 0, .int 0, .int 0, .int 0, .ref a2, .ref a3, .ref a4, .ref a5])), (a2, zIa cs 30), (a3, zIa cs 30), (a4, zIa cs 30), (a5, zIa cs 10), (a6, .inr (1, [.int 0, .ref a7, .ref a8, .ref a9])), (a7, zIa cs 6), (a8, zIa cs 6), (a9, zIa cs 6), (a10, .inr (0, [.ref a1, .ref a6, .int 0, .ref a11, .ref a12, .long 0, .ref a13])), (a11, zLa cs 180), (a12, zLa cs 180), (a13, zLa cs 30), (a14, .inr (4, [.ref a6, .ref a10, .int 0, .ref a15, .ref a16, .ref a17, .ref a18])), (a15, zIa cs 10), (a16, zIa cs 10), (a17, zIa cs 10), (a18, zIa cs 10), (a19, .inr (7, [.ref a1, .ref a6, .ref a10, .ref a20, .ref a21, .int 0, .int 0])), (a20, zLa cs 6), (a21, zIa cs 6), (a22, .inr (5, [.ref a6, .ref a10, .ref a23, .ref a24])), (a23, zIa cs 6), (a24, zIa cs 6), (a25, .inr (2, [.ref a6, .ref a10, .ref a26, .ref a27, .int 0, .int 0])), (a26, zIa cs 6), (a27, zLa cs 201), (a28, .inl (cs.2.2, 4, .inr (.inr (.inr (.inr (va_up (va_up (va_up (va_up (fun _ => none) (Int32.toNatClampNeg 0) (some a29)) (Int32.toNatClampNeg 1) (some a31)) (Int32.toNatClampNeg 2) (some a33)) (Int32.toNatClampNeg 3) (some a35))))))), (a29, .inr (6, [.ref a30, .int 0, .int 0, .int 0])), (a30, zIa cs 60), (a31, .inr (6, [.ref a32, .int 0, .int 0, .int 0])), (a32, zIa cs 60), (a33, .inr (6, [.ref a34, .int 0, .int 0, .int 0])), (a34, zIa cs 60), (a35, .inr (6, [.ref a36, .int 0, .int 0, .int 0])), (a36, zIa cs 60)] := hD
  refine lv_astore_n (lv' := [(1, .ref a0), (0, .ref b)]) hx hb dL_law_7 rfl hl (by decide) rfl (fun ls hl => ?_)
  refine lv_bipush (v := 60) hx hb dL_law_8 (by decide) ?_
  refine zn_zIa (N := 60) hx hb (hts _ (zG_tbl _ zw_63)) hK hP hD hS hA (by decide) (by decide) (by decide) (Nat.le_of_ble_eq_true rfl) (Nat.le_of_ble_eq_true rfl) dL_law_10 (fun a37 H hP hD hS => ?_)
  refine W.widen (k := 38) (n := 1152) (Nat.le_of_ble_eq_true rfl) (Nat.le_of_ble_eq_true rfl) ?_
  have hP : va_P (dC, dI) vwCl [(a0, .inr (8, [.ref a1, .ref a6, .ref a10, .ref a14, .ref a19, .ref a22, .ref a25, .ref a28, .int 0, .int 0])), (a1, .inr (3, [.int 0, .int 0, .int 0, .int 0, .ref a2, .ref a3, .ref a4, .ref a5])), (a2, zIa cs 30), (a3, zIa cs 30), (a4, zIa cs 30), (a5, zIa cs 10), (a6, .inr (1, [.int 0, .ref a7, .ref a8, .ref a9])), (a7, zIa cs 6), (a8, zIa cs 6), (a9, zIa cs 6), (a10, .inr (0, [.ref a1, .ref a6, .int 0, .ref a11, .ref a12, .long 0, .ref a13])), (a11, zLa cs 180), (a12, zLa cs 180), (a13, zLa cs 30), (a14, .inr (4, [.ref a6, .ref a10, .int 0, .ref a15, .ref a16, .ref a17, .ref a18])), (a15, zIa cs 10), (a16, zIa cs 10), (a17, zIa cs 10), (a18, zIa cs 10), (a19, .inr (7, [.ref a1, .ref a6, .ref a10, .ref a20, .ref a21, .int 0, .int 0])), (a20, zLa cs 6), (a21, zIa cs 6), (a22, .inr (5, [.ref a6, .ref a10, .ref a23, .ref a24])), (a23, zIa cs 6), (a24, zIa cs 6), (a25, .inr (2, [.ref a6, .ref a10, .ref a26, .ref a27, .int 0, .int 0])), (a26, zIa cs 6), (a27, zLa cs 201), (a28, .inl (cs.2.2, 4, .inr (.inr (.inr (.inr (va_up (va_up (va_up (va_up (fun _ => none) (Int32.toNatClampNeg 0) (some a29)) (Int32.toNatClampNeg 1) (some a31)) (Int32.toNatClampNeg 2) (some a33)) (Int32.toNatClampNeg 3) (some a35))))))), (a29, .inr (6, [.ref a30, .int 0, .int 0, .int 0])), (a30, zIa cs 60), (a31, .inr (6, [.ref a32, .int 0, .int 0, .int 0])), (a32, zIa cs 60), (a33, .inr (6, [.ref a34, .int 0, .int 0, .int 0])), (a34, zIa cs 60), (a35, .inr (6, [.ref a36, .int 0, .int 0, .int 0])), (a36, zIa cs 60), (a37, zIa cs 60)] H := hP
  have hD : va_D (fun q : Nat => s.heap.size ≤ q) [(a0, .inr (8, [.ref a1, .ref a6, .ref a10, .ref a14, .ref a19, .ref a22, .ref a25, .ref a28, .int 0, .int 0])), (a1, .inr (3, [.int 0, .int 0, .int 0, .int 0, .ref a2, .ref a3, .ref a4, .ref a5])), (a2, zIa cs 30), (a3, zIa cs 30), (a4, zIa cs 30), (a5, zIa cs 10), (a6, .inr (1, [.int 0, .ref a7, .ref a8, .ref a9])), (a7, zIa cs 6), (a8, zIa cs 6), (a9, zIa cs 6), (a10, .inr (0, [.ref a1, .ref a6, .int 0, .ref a11, .ref a12, .long 0, .ref a13])), (a11, zLa cs 180), (a12, zLa cs 180), (a13, zLa cs 30), (a14, .inr (4, [.ref a6, .ref a10, .int 0, .ref a15, .ref a16, .ref a17, .ref a18])), (a15, zIa cs 10), (a16, zIa cs 10), (a17, zIa cs 10), (a18, zIa cs 10), (a19, .inr (7, [.ref a1, .ref a6, .ref a10, .ref a20, .ref a21, .int 0, .int 0])), (a20, zLa cs 6), (a21, zIa cs 6), (a22, .inr (5, [.ref a6, .ref a10, .ref a23, .ref a24])), (a23, zIa cs 6), (a24, zIa cs 6), (a25, .inr (2, [.ref a6, .ref a10, .ref a26, .ref a27, .int 0, .int 0])), (a26, zIa cs 6), (a27, zLa cs 201), (a28, .inl (cs.2.2, 4, .inr (.inr (.inr (.inr (va_up (va_up (va_up (va_up (fun _ => none) (Int32.toNatClampNeg 0) (some a29)) (Int32.toNatClampNeg 1) (some a31)) (Int32.toNatClampNeg 2) (some a33)) (Int32.toNatClampNeg 3) (some a35))))))), (a29, .inr (6, [.ref a30, .int 0, .int 0, .int 0])), (a30, zIa cs 60), (a31, .inr (6, [.ref a32, .int 0, .int 0, .int 0])), (a32, zIa cs 60), (a33, .inr (6, [.ref a34, .int 0, .int 0, .int 0])), (a34, zIa cs 60), (a35, .inr (6, [.ref a36, .int 0, .int 0, .int 0])), (a36, zIa cs 60), (a37, zIa cs 60)] := hD
  refine lv_astore_n (lv' := [(2, .ref a37), (1, .ref a0), (0, .ref b)]) hx hb dL_law_12 rfl hl (by decide) rfl (fun ls hl => ?_)
  have hW := z_world (cs := cs) a0 a1 a2 a3 a4 a5 a6 a7 a8 a9 a10 a11 a12 a13 a14 a15 a16 a17 a18 a19 a20 a21 a22 a23 a24 a25 a26 a27 a28 a29 a30 a31 a32 a33 a34 a35 a36 a37 hP
  obtain ⟨ad, hadE⟩ : ∃ ad : Nat → Nat, ad = (fun i => ([a0, a1, a2, a3, a4, a5, a6, a7, a8, a9, a10, a11, a12, a13, a14, a15, a16, a17, a18, a19, a20, a21, a22, a23, a24, a25, a26, a27, a28, a29, a30, a31, a32, a33, a34, a35, a36, a37] : List Nat).getD i 0) := ⟨_, rfl⟩
  have hget : ∀ i : Nat, i < 38 → ∃ x, ([(a0, .inr (8, [.ref a1, .ref a6, .ref a10, .ref a14, .ref a19, .ref a22, .ref a25, .ref a28, .int 0, .int 0])), (a1, .inr (3, [.int 0, .int 0, .int 0, .int 0, .ref a2, .ref a3, .ref a4, .ref a5])), (a2, zIa cs 30), (a3, zIa cs 30), (a4, zIa cs 30), (a5, zIa cs 10), (a6, .inr (1, [.int 0, .ref a7, .ref a8, .ref a9])), (a7, zIa cs 6), (a8, zIa cs 6), (a9, zIa cs 6), (a10, .inr (0, [.ref a1, .ref a6, .int 0, .ref a11, .ref a12, .long 0, .ref a13])), (a11, zLa cs 180), (a12, zLa cs 180), (a13, zLa cs 30), (a14, .inr (4, [.ref a6, .ref a10, .int 0, .ref a15, .ref a16, .ref a17, .ref a18])), (a15, zIa cs 10), (a16, zIa cs 10), (a17, zIa cs 10), (a18, zIa cs 10), (a19, .inr (7, [.ref a1, .ref a6, .ref a10, .ref a20, .ref a21, .int 0, .int 0])), (a20, zLa cs 6), (a21, zIa cs 6), (a22, .inr (5, [.ref a6, .ref a10, .ref a23, .ref a24])), (a23, zIa cs 6), (a24, zIa cs 6), (a25, .inr (2, [.ref a6, .ref a10, .ref a26, .ref a27, .int 0, .int 0])), (a26, zIa cs 6), (a27, zLa cs 201), (a28, .inl (cs.2.2, 4, .inr (.inr (.inr (.inr (va_up (va_up (va_up (va_up (fun _ => none) (Int32.toNatClampNeg 0) (some a29)) (Int32.toNatClampNeg 1) (some a31)) (Int32.toNatClampNeg 2) (some a33)) (Int32.toNatClampNeg 3) (some a35))))))), (a29, .inr (6, [.ref a30, .int 0, .int 0, .int 0])), (a30, zIa cs 60), (a31, .inr (6, [.ref a32, .int 0, .int 0, .int 0])), (a32, zIa cs 60), (a33, .inr (6, [.ref a34, .int 0, .int 0, .int 0])), (a34, zIa cs 60), (a35, .inr (6, [.ref a36, .int 0, .int 0, .int 0])), (a36, zIa cs 60), (a37, zIa cs 60)] : va_W)[i]? = some (ad i, x) := by
    intro i hi
    have h0 : (([(a0, .inr (8, [.ref a1, .ref a6, .ref a10, .ref a14, .ref a19, .ref a22, .ref a25, .ref a28, .int 0, .int 0])), (a1, .inr (3, [.int 0, .int 0, .int 0, .int 0, .ref a2, .ref a3, .ref a4, .ref a5])), (a2, zIa cs 30), (a3, zIa cs 30), (a4, zIa cs 30), (a5, zIa cs 10), (a6, .inr (1, [.int 0, .ref a7, .ref a8, .ref a9])), (a7, zIa cs 6), (a8, zIa cs 6), (a9, zIa cs 6), (a10, .inr (0, [.ref a1, .ref a6, .int 0, .ref a11, .ref a12, .long 0, .ref a13])), (a11, zLa cs 180), (a12, zLa cs 180), (a13, zLa cs 30), (a14, .inr (4, [.ref a6, .ref a10, .int 0, .ref a15, .ref a16, .ref a17, .ref a18])), (a15, zIa cs 10), (a16, zIa cs 10), (a17, zIa cs 10), (a18, zIa cs 10), (a19, .inr (7, [.ref a1, .ref a6, .ref a10, .ref a20, .ref a21, .int 0, .int 0])), (a20, zLa cs 6), (a21, zIa cs 6), (a22, .inr (5, [.ref a6, .ref a10, .ref a23, .ref a24])), (a23, zIa cs 6), (a24, zIa cs 6), (a25, .inr (2, [.ref a6, .ref a10, .ref a26, .ref a27, .int 0, .int 0])), (a26, zIa cs 6), (a27, zLa cs 201), (a28, .inl (cs.2.2, 4, .inr (.inr (.inr (.inr (va_up (va_up (va_up (va_up (fun _ => none) (Int32.toNatClampNeg 0) (some a29)) (Int32.toNatClampNeg 1) (some a31)) (Int32.toNatClampNeg 2) (some a33)) (Int32.toNatClampNeg 3) (some a35))))))), (a29, .inr (6, [.ref a30, .int 0, .int 0, .int 0])), (a30, zIa cs 60), (a31, .inr (6, [.ref a32, .int 0, .int 0, .int 0])), (a32, zIa cs 60), (a33, .inr (6, [.ref a34, .int 0, .int 0, .int 0])), (a34, zIa cs 60), (a35, .inr (6, [.ref a36, .int 0, .int 0, .int 0])), (a36, zIa cs 60), (a37, zIa cs 60)] : va_W).map Prod.fst) = [a0, a1, a2, a3, a4, a5, a6, a7, a8, a9, a10, a11, a12, a13, a14, a15, a16, a17, a18, a19, a20, a21, a22, a23, a24, a25, a26, a27, a28, a29, a30, a31, a32, a33, a34, a35, a36, a37] := rfl
    obtain ⟨x, hx1⟩ : ∃ x, ([(a0, .inr (8, [.ref a1, .ref a6, .ref a10, .ref a14, .ref a19, .ref a22, .ref a25, .ref a28, .int 0, .int 0])), (a1, .inr (3, [.int 0, .int 0, .int 0, .int 0, .ref a2, .ref a3, .ref a4, .ref a5])), (a2, zIa cs 30), (a3, zIa cs 30), (a4, zIa cs 30), (a5, zIa cs 10), (a6, .inr (1, [.int 0, .ref a7, .ref a8, .ref a9])), (a7, zIa cs 6), (a8, zIa cs 6), (a9, zIa cs 6), (a10, .inr (0, [.ref a1, .ref a6, .int 0, .ref a11, .ref a12, .long 0, .ref a13])), (a11, zLa cs 180), (a12, zLa cs 180), (a13, zLa cs 30), (a14, .inr (4, [.ref a6, .ref a10, .int 0, .ref a15, .ref a16, .ref a17, .ref a18])), (a15, zIa cs 10), (a16, zIa cs 10), (a17, zIa cs 10), (a18, zIa cs 10), (a19, .inr (7, [.ref a1, .ref a6, .ref a10, .ref a20, .ref a21, .int 0, .int 0])), (a20, zLa cs 6), (a21, zIa cs 6), (a22, .inr (5, [.ref a6, .ref a10, .ref a23, .ref a24])), (a23, zIa cs 6), (a24, zIa cs 6), (a25, .inr (2, [.ref a6, .ref a10, .ref a26, .ref a27, .int 0, .int 0])), (a26, zIa cs 6), (a27, zLa cs 201), (a28, .inl (cs.2.2, 4, .inr (.inr (.inr (.inr (va_up (va_up (va_up (va_up (fun _ => none) (Int32.toNatClampNeg 0) (some a29)) (Int32.toNatClampNeg 1) (some a31)) (Int32.toNatClampNeg 2) (some a33)) (Int32.toNatClampNeg 3) (some a35))))))), (a29, .inr (6, [.ref a30, .int 0, .int 0, .int 0])), (a30, zIa cs 60), (a31, .inr (6, [.ref a32, .int 0, .int 0, .int 0])), (a32, zIa cs 60), (a33, .inr (6, [.ref a34, .int 0, .int 0, .int 0])), (a34, zIa cs 60), (a35, .inr (6, [.ref a36, .int 0, .int 0, .int 0])), (a36, zIa cs 60), (a37, zIa cs 60)] : va_W)[i]? = some x := ⟨_, List.getElem?_eq_getElem (show i < 38 from hi)⟩
    have h1 : ([a0, a1, a2, a3, a4, a5, a6, a7, a8, a9, a10, a11, a12, a13, a14, a15, a16, a17, a18, a19, a20, a21, a22, a23, a24, a25, a26, a27, a28, a29, a30, a31, a32, a33, a34, a35, a36, a37] : List Nat)[i]? = some x.1 := by rw [← h0, List.getElem?_map, hx1]; rfl
    refine ⟨x.2, ?_⟩
    rw [hx1, hadE]
    simp only [List.getD_eq_getElem?_getD, h1, Option.getD_some]
  have hinj : zInj (List.range 38) ad := fun i j hi hj hij => by
    obtain ⟨x, h1⟩ := hget i (List.mem_range.mp hi)
    obtain ⟨y, h2⟩ := hget j (List.mem_range.mp hj)
    exact hD.1 i j _ _ h1 h2 hij
  have hAa : ∀ i : Nat, i ∈ List.range 38 → s.heap.size ≤ ad i := fun i hi => by
    obtain ⟨x, h1⟩ := hget i (List.mem_range.mp hi)
    exact hD.2 i _ h1
  have ha0 : ad 0 = a0 := by rw [hadE]; rfl
  have ha37 : ad 37 = a37 := by rw [hadE]; rfl
  rw [← hadE] at hW
  clear hget hadE hP hD
  obtain ⟨τ, hτ⟩ := hpure
  have hlaw := s_L_law (L := L) (xs := xs) (by omega) (List.range 38) (by decide) (by decide) (by decide) (by decide) (by decide) (by decide) (zct τ) (fun v _ => v = 1) [0, 0, 37, 0, 0, 0, 0, 0, 0, 0, 0, 0, 0, 0, 0, 0, 0] zsig0 1 [1] τ zOk_0 ⟨rfl, fun q hq => by
    rcases List.mem_cons.mp hq with rfl | hq
    · exact trivial
    rcases List.mem_cons.mp hq with rfl | hq
    · exact ⟨rfl, by decide, by decide⟩
    rcases List.mem_cons.mp hq with rfl | hq
    · exact ⟨rfl, by decide, by decide⟩
    exact absurd hq List.not_mem_nil⟩ hτ
  have hRn := (hlaw.2.2.1 rfl).2 ⟨rfl, Int.le_refl _⟩
  have hcap : zct τ ≤ 100000 := hlaw.1.2.2
  have hcap0 : 0 ≤ zct τ := hlaw.1.2.1
  have r1 : ((38 : Nat) : Int) + (zct τ - zct zsig0) ≤ ((600000 : Nat) : Int) := by rw [zct_0]; omega
  have r2 : ((1152 : Nat) : Int) + 16 * (zct τ - zct zsig0) ≤ ((7302250 : Nat) : Int) := by rw [zct_0]; omega
  refine hRn.2 p l e room_1 s m #[Value.ref b] below meth c 38 1152 _ (dC, dI) cs ad (fun q : Nat => s.heap.size ≤ q) b H _ ls ⟨hx, hb, hml, hown, htw, hK, hinj, hAa, hA, Nat.le_of_ble_eq_true rfl, Nat.le_of_ble_eq_true rfl, fun L2 xs2 h2 => ?_, ⟨List.nodup_range, fun o h => List.mem_range.mpr (by omega)⟩, fun k hk => absurd hk List.not_mem_nil⟩ ⟨r1, r2⟩ ?_ zOk_0 hW hS ?_
  · cases h2
    exact ⟨by omega, hX, hbl, Nat.not_le.mpr hbl⟩
  · intro v τ2 H2 locs2 ls2 pc cells2 slots2 hv _ _ hle hro _ hS2 hri
    have hv : v = 1 := hv
    subst hv
    obtain ⟨u1, u2⟩ := hro
    have hle : zct τ2 ≤ zct τ := hle
    have u1 : (cells2 : Int) + (zct τ - zct τ2) ≤ ((600000 : Nat) : Int) := u1
    have u2 : (slots2 : Int) + 16 * (zct τ - zct τ2) ≤ ((7302250 : Nat) : Int) := u2
    refine va_forget (fun q hq => hS2.2.2 q hq) ?_
    refine W.widen (k := 600000) (n := 7302250) (by omega) (by omega) ?_
    exact lw_ret hx hb hr hlocks hri
  · refine lv_sub hl [2, 1, 0] ?_
    show [(0, Value.ref b), (1, Value.ref a0), (2, Value.ref a37)] = [(0, Value.ref b), (1, Value.ref (ad 0)), (2, Value.ref (ad 37))]
    rw [ha0, ha37]
