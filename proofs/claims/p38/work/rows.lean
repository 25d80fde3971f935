section
-- ===== PART A: goes FIRST, ahead of the names: the tables' words, and 'selects' of the private methods out of them =====
/-- a private method of a class that the tables say can be made, by its rows of tables_1 -/
def lw_okq (q : MethodName × Nat) : Prop := (q.1.cls ≠ "java/lang/invoke/MethodHandle" ∧ q.1.cls ≠ "java/lang/invoke/VarHandle") ∧ Cond.instantiable q.1.cls q.2 ∈ tables_1 ∧ Cond.privateMethod q.1 ∈ tables_1 ∧ Cond.instanceMethod q.1 ∈ tables_1
theorem lw_p0 : lw_okq (⟨"BellLand", "isBell", "(I)Z"⟩, 10) := ⟨⟨by decide +kernel, by decide +kernel⟩, List.mem_of_getElem? (i := 14) (by decide +kernel), List.mem_of_getElem? (i := 300) (by decide +kernel), List.mem_of_getElem? (i := 301) (by decide +kernel)⟩
theorem lw_p1 : lw_okq (⟨"BellLand", "isCell", "(I)Z"⟩, 10) := ⟨⟨by decide +kernel, by decide +kernel⟩, List.mem_of_getElem? (i := 14) (by decide +kernel), List.mem_of_getElem? (i := 308) (by decide +kernel), List.mem_of_getElem? (i := 309) (by decide +kernel)⟩
theorem lw_p2 : lw_okq (⟨"BellLand$Air", "blown", "(JIII)J"⟩, 7) := ⟨⟨by decide +kernel, by decide +kernel⟩, List.mem_of_getElem? (i := 85) (by decide +kernel), List.mem_of_getElem? (i := 323) (by decide +kernel), List.mem_of_getElem? (i := 324) (by decide +kernel)⟩
theorem lw_p3 : lw_okq (⟨"BellLand", "partsOfTithe", "(I)I"⟩, 10) := ⟨⟨by decide +kernel, by decide +kernel⟩, List.mem_of_getElem? (i := 14) (by decide +kernel), List.mem_of_getElem? (i := 375) (by decide +kernel), List.mem_of_getElem? (i := 376) (by decide +kernel)⟩
theorem lw_p4 : lw_okq (⟨"BellLand$Air", "bar", "([IIII)J"⟩, 7) := ⟨⟨by decide +kernel, by decide +kernel⟩, List.mem_of_getElem? (i := 85) (by decide +kernel), List.mem_of_getElem? (i := 398) (by decide +kernel), List.mem_of_getElem? (i := 399) (by decide +kernel)⟩
theorem lw_p5 : lw_okq (⟨"BellLand", "faulty", "(I)I"⟩, 10) := ⟨⟨by decide +kernel, by decide +kernel⟩, List.mem_of_getElem? (i := 14) (by decide +kernel), List.mem_of_getElem? (i := 414) (by decide +kernel), List.mem_of_getElem? (i := 415) (by decide +kernel)⟩
theorem lw_p6 : lw_okq (⟨"BellLand$Air", "calmUnit", "(III)J"⟩, 7) := ⟨⟨by decide +kernel, by decide +kernel⟩, List.mem_of_getElem? (i := 85) (by decide +kernel), List.mem_of_getElem? (i := 471) (by decide +kernel), List.mem_of_getElem? (i := 472) (by decide +kernel)⟩
def lw_privs_1 : List (MethodName × Nat) := [(⟨"BellLand", "isBell", "(I)Z"⟩, 10), (⟨"BellLand", "isCell", "(I)Z"⟩, 10), (⟨"BellLand$Air", "blown", "(JIII)J"⟩, 7), (⟨"BellLand", "partsOfTithe", "(I)I"⟩, 10), (⟨"BellLand$Air", "bar", "([IIII)J"⟩, 7), (⟨"BellLand", "faulty", "(I)I"⟩, 10), (⟨"BellLand$Air", "calmUnit", "(III)J"⟩, 7)]
theorem lw_r1 : ∀ q ∈ lw_privs_1, lw_okq q := List.forall_mem_cons.mpr ⟨lw_p0, List.forall_mem_cons.mpr ⟨lw_p1, List.forall_mem_cons.mpr ⟨lw_p2, List.forall_mem_cons.mpr ⟨lw_p3, List.forall_mem_cons.mpr ⟨lw_p4, List.forall_mem_cons.mpr ⟨lw_p5, List.forall_mem_cons.mpr ⟨lw_p6, fun _ h => absurd h List.not_mem_nil⟩⟩⟩⟩⟩⟩⟩
def lw_privs : List (MethodName × Nat) := lw_privs_1
def lw_tbl : List Cond := k2_sels lw_privs ++ tables_1
theorem lw_privs_ok : ∀ q ∈ lw_privs, lw_okq q := lw_r1
-- ===== end of PART A; then your names; then what follows =====
/-! ===== BEGIN words of one list among another's, by their places ===== -/
theorem goodIn_r {big : List Cond} (ws : List Cond) (ps : List Nat) (hp : ws = ps.filterMap (fun i => big[i]?)) (h : ws.all goodWord = true) : GoodIn big ws := by
  intro w hw
  have h1 := List.all_eq_true.mp h w hw
  rw [hp] at hw
  obtain ⟨i, -, hi⟩ := List.mem_filterMap.mp hw
  have hm : w ∈ big := by first | exact List.mem_of_getElem? hi | exact List.getElem?_mem hi
  exact ⟨hm, good_of_word h1⟩
theorem goodIn_app {big a b : List Cond} (ha : GoodIn big a) (hb : GoodIn big b) : GoodIn big (a ++ b) := fun w h => (List.mem_append.mp h).elim (ha w) (hb w)
theorem goodIn_ca {big a b : List Cond} {c : Cond} (ha : GoodIn big (c :: a)) (hb : GoodIn big b) : GoodIn big (c :: (a ++ b)) := fun w h => (List.mem_cons.mp h).elim (fun e => ha w (List.mem_cons.mpr (Or.inl e))) (fun h => (List.mem_append.mp h).elim (fun h => ha w (List.mem_cons.mpr (Or.inr h))) (hb w))
theorem goodIn_sub {big ws : List Cond} (hm : ∀ w ∈ ws, w ∈ big) (h : ws.all goodWord = true) : GoodIn big ws := fun w hw => ⟨hm w hw, good_of_word (List.all_eq_true.mp h w hw)⟩
/-! ===== END ===== -/

/-! ===== BEGIN printed: names, fields, word lists, decode rows ===== -/
def RX0 : String := "BellLand$Air"
def TX0 : u_T := fun k => match k with
  | 0 => ("BellLand$Air", "ground", "LBellLand$Ground;", true)
  | 1 => ("BellLand$Air", "bells", "LBellLand$Bells;", true)
  | 2 => ("BellLand$Air", "ear", "I", false)
  | 3 => ("BellLand$Air", "calm", "[J", true)
  | 4 => ("BellLand$Air", "unit", "[J", true)
  | 5 => ("BellLand$Air", "faint", "J", false)
  | _ => ("BellLand$Air", "bars", "[J", true)
def tyX0 : Nat → FieldType := fun k => match k with
  | 0 => .object "BellLand$Ground"
  | 1 => .object "BellLand$Bells"
  | 2 => .int
  | 3 => .array .long
  | 4 => .array .long
  | 5 => .long
  | _ => .array .long
abbrev wsX00 : List Cond := u_ws RX0 TX0 7
theorem nmX0 : ∀ a, a < 7 → ∀ b, b < 7 → a ≠ b → (TX0 a).2.1 ≠ (TX0 b).2.1 := by decide +kernel
theorem tyX0_ok : ∀ k, k < 7 → parseFieldDescriptor (TX0 k).2.2.1 = some (tyX0 k) := by decide +kernel
abbrev cX0_init : ByteArray := prog_2_method_1_code
def yX0_init : MethodName := ⟨RX0, "<init>", "(LBellLand$Ground;LBellLand$Bells;)V"⟩
abbrev cX0_grainsOfOne : ByteArray := prog_2_method_2_code
def yX0_grainsOfOne : MethodName := ⟨RX0, "grainsOfOne", "(I)J"⟩
abbrev cX0_strength : ByteArray := prog_2_method_3_code
def yX0_strength : MethodName := ⟨RX0, "strength", "(I)I"⟩
abbrev cX0_carry : ByteArray := prog_2_method_4_code
def yX0_carry : MethodName := ⟨RX0, "carry", "(I)V"⟩
abbrev cX0_carryAll : ByteArray := prog_2_method_5_code
def yX0_carryAll : MethodName := ⟨RX0, "carryAll", "()V"⟩
abbrev cX0_calmUnit : ByteArray := prog_2_method_6_code
def yX0_calmUnit : MethodName := ⟨RX0, "calmUnit", "(III)J"⟩
abbrev cX0_blown : ByteArray := prog_2_method_7_code
def yX0_blown : MethodName := ⟨RX0, "blown", "(JIII)J"⟩
abbrev cX0_unitBy : ByteArray := prog_2_method_8_code
def yX0_unitBy : MethodName := ⟨RX0, "unitBy", "(III)J"⟩
abbrev cX0_blow : ByteArray := prog_2_method_9_code
def yX0_blow : MethodName := ⟨RX0, "blow", "(I)V"⟩
abbrev cX0_loudness : ByteArray := prog_2_method_10_code
def yX0_loudness : MethodName := ⟨RX0, "loudness", "(II)J"⟩
abbrev cX0_loudestIn : ByteArray := prog_2_method_11_code
def yX0_loudestIn : MethodName := ⟨RX0, "loudestIn", "(I)I"⟩
abbrev cX0_bar : ByteArray := prog_2_method_12_code
def yX0_bar : MethodName := ⟨RX0, "bar", "([IIII)J"⟩
abbrev cX0_leastToOwn : ByteArray := prog_2_method_18_code
def yX0_leastToOwn : MethodName := ⟨RX0, "leastToOwn", "(II)I"⟩
def RX1 : String := "BellLand$Bells"
def TX1 : u_T := fun k => match k with
  | 0 => ("BellLand$Bells", "count", "I", false)
  | 1 => ("BellLand$Bells", "kind", "[I", true)
  | 2 => ("BellLand$Bells", "cell", "[I", true)
  | _ => ("BellLand$Bells", "weight", "[I", true)
def tyX1 : Nat → FieldType := fun k => match k with
  | 0 => .int
  | 1 => .array .int
  | 2 => .array .int
  | _ => .array .int
abbrev wsX10 : List Cond := u_ws RX1 TX1 4
theorem nmX1 : ∀ a, a < 4 → ∀ b, b < 4 → a ≠ b → (TX1 a).2.1 ≠ (TX1 b).2.1 := by decide +kernel
theorem tyX1_ok : ∀ k, k < 4 → parseFieldDescriptor (TX1 k).2.2.1 = some (tyX1 k) := by decide +kernel
abbrev cX1_init : ByteArray := prog_3_method_1_code
def yX1_init : MethodName := ⟨RX1, "<init>", "()V"⟩
abbrev cX1_add : ByteArray := prog_3_method_2_code
def yX1_add : MethodName := ⟨RX1, "add", "(III)I"⟩
def RX2 : String := "BellLand$Foundry"
def TX2 : u_T := fun k => match k with
  | 0 => ("BellLand$Foundry", "bells", "LBellLand$Bells;", true)
  | 1 => ("BellLand$Foundry", "air", "LBellLand$Air;", true)
  | 2 => ("BellLand$Foundry", "weight", "[I", true)
  | 3 => ("BellLand$Foundry", "story", "[J", true)
  | 4 => ("BellLand$Foundry", "rounds", "I", false)
  | _ => ("BellLand$Foundry", "ring", "I", false)
def tyX2 : Nat → FieldType := fun k => match k with
  | 0 => .object "BellLand$Bells"
  | 1 => .object "BellLand$Air"
  | 2 => .array .int
  | 3 => .array .long
  | 4 => .int
  | _ => .int
abbrev wsX20 : List Cond := u_ws RX2 TX2 6
theorem nmX2 : ∀ a, a < 6 → ∀ b, b < 6 → a ≠ b → (TX2 a).2.1 ≠ (TX2 b).2.1 := by decide +kernel
theorem tyX2_ok : ∀ k, k < 6 → parseFieldDescriptor (TX2 k).2.2.1 = some (tyX2 k) := by decide +kernel
abbrev cX2_init : ByteArray := prog_4_method_1_code
def yX2_init : MethodName := ⟨RX2, "<init>", "(LBellLand$Bells;LBellLand$Air;)V"⟩
def RX3 : String := "BellLand$Ground"
def TX3 : u_T := fun k => match k with
  | 0 => ("BellLand$Ground", "high", "I", false)
  | 1 => ("BellLand$Ground", "wide", "I", false)
  | 2 => ("BellLand$Ground", "cells", "I", false)
  | 3 => ("BellLand$Ground", "planted", "I", false)
  | 4 => ("BellLand$Ground", "height", "[I", true)
  | 5 => ("BellLand$Ground", "row", "[I", true)
  | 6 => ("BellLand$Ground", "column", "[I", true)
  | _ => ("BellLand$Ground", "higher", "[I", true)
def tyX3 : Nat → FieldType := fun k => match k with
  | 0 => .int
  | 1 => .int
  | 2 => .int
  | 3 => .int
  | 4 => .array .int
  | 5 => .array .int
  | 6 => .array .int
  | _ => .array .int
abbrev wsX30 : List Cond := u_ws RX3 TX3 8
theorem nmX3 : ∀ a, a < 8 → ∀ b, b < 8 → a ≠ b → (TX3 a).2.1 ≠ (TX3 b).2.1 := by decide +kernel
theorem tyX3_ok : ∀ k, k < 8 → parseFieldDescriptor (TX3 k).2.2.1 = some (tyX3 k) := by decide +kernel
abbrev cX3_init : ByteArray := prog_5_method_1_code
def yX3_init : MethodName := ⟨RX3, "<init>", "()V"⟩
abbrev cX3_firstFault : ByteArray := prog_5_method_2_code
def yX3_firstFault : MethodName := ⟨RX3, "firstFault", "([III)I"⟩
abbrev cX3_take : ByteArray := prog_5_method_3_code
def yX3_take : MethodName := ⟨RX3, "take", "([II)V"⟩
abbrev cX3_isPlanted : ByteArray := prog_5_method_4_code
def yX3_isPlanted : MethodName := ⟨RX3, "isPlanted", "(I)Z"⟩
abbrev cX3_titheOf : ByteArray := prog_5_method_5_code
def yX3_titheOf : MethodName := ⟨RX3, "titheOf", "(I)I"⟩
abbrev cX3_apart : ByteArray := prog_5_method_7_code
def yX3_apart : MethodName := ⟨RX3, "apart", "(II)I"⟩
abbrev cX3_between : ByteArray := prog_5_method_8_code
def yX3_between : MethodName := ⟨RX3, "between", "(II)I"⟩
abbrev cX3_stepsOn : ByteArray := prog_5_method_9_code
def yX3_stepsOn : MethodName := ⟨RX3, "stepsOn", "(III)I"⟩
abbrev cX3_hillsOn : ByteArray := prog_5_method_10_code
def yX3_hillsOn : MethodName := ⟨RX3, "hillsOn", "(III)I"⟩
abbrev cX3_downwind : ByteArray := prog_5_method_11_code
def yX3_downwind : MethodName := ⟨RX3, "downwind", "(III)I"⟩
def RX4 : String := "BellLand$Reports"
def TX4 : u_T := fun k => match k with
  | 0 => ("BellLand$Reports", "bells", "LBellLand$Bells;", true)
  | 1 => ("BellLand$Reports", "air", "LBellLand$Air;", true)
  | 2 => ("BellLand$Reports", "count", "I", false)
  | 3 => ("BellLand$Reports", "cell", "[I", true)
  | 4 => ("BellLand$Reports", "wind", "[I", true)
  | 5 => ("BellLand$Reports", "louder", "[I", true)
  | _ => ("BellLand$Reports", "than", "[I", true)
def tyX4 : Nat → FieldType := fun k => match k with
  | 0 => .object "BellLand$Bells"
  | 1 => .object "BellLand$Air"
  | 2 => .int
  | 3 => .array .int
  | 4 => .array .int
  | 5 => .array .int
  | _ => .array .int
abbrev wsX40 : List Cond := u_ws RX4 TX4 7
theorem nmX4 : ∀ a, a < 7 → ∀ b, b < 7 → a ≠ b → (TX4 a).2.1 ≠ (TX4 b).2.1 := by decide +kernel
theorem tyX4_ok : ∀ k, k < 7 → parseFieldDescriptor (TX4 k).2.2.1 = some (tyX4 k) := by decide +kernel
abbrev cX4_init : ByteArray := prog_6_method_1_code
def yX4_init : MethodName := ⟨RX4, "<init>", "(LBellLand$Bells;LBellLand$Air;)V"⟩
def RX5 : String := "BellLand$Ringing"
def TX5 : u_T := fun k => match k with
  | 0 => ("BellLand$Ringing", "bells", "LBellLand$Bells;", true)
  | 1 => ("BellLand$Ringing", "air", "LBellLand$Air;", true)
  | 2 => ("BellLand$Ringing", "heard", "[I", true)
  | _ => ("BellLand$Ringing", "turn", "[I", true)
def tyX5 : Nat → FieldType := fun k => match k with
  | 0 => .object "BellLand$Bells"
  | 1 => .object "BellLand$Air"
  | 2 => .array .int
  | _ => .array .int
abbrev wsX50 : List Cond := u_ws RX5 TX5 4
theorem nmX5 : ∀ a, a < 4 → ∀ b, b < 4 → a ≠ b → (TX5 a).2.1 ≠ (TX5 b).2.1 := by decide +kernel
theorem tyX5_ok : ∀ k, k < 4 → parseFieldDescriptor (TX5 k).2.2.1 = some (tyX5 k) := by decide +kernel
abbrev cX5_init : ByteArray := prog_7_method_1_code
def yX5_init : MethodName := ⟨RX5, "<init>", "(LBellLand$Bells;LBellLand$Air;)V"⟩
def RX6 : String := "BellLand$Sheet"
def TX6 : u_T := fun k => match k with
  | 0 => ("BellLand$Sheet", "numbers", "[I", true)
  | 1 => ("BellLand$Sheet", "isThere", "Z", false)
  | 2 => ("BellLand$Sheet", "sort", "I", false)
  | _ => ("BellLand$Sheet", "size", "I", false)
def tyX6 : Nat → FieldType := fun k => match k with
  | 0 => .array .int
  | 1 => .boolean
  | 2 => .int
  | _ => .int
abbrev wsX60 : List Cond := u_ws RX6 TX6 4
theorem nmX6 : ∀ a, a < 4 → ∀ b, b < 4 → a ≠ b → (TX6 a).2.1 ≠ (TX6 b).2.1 := by decide +kernel
theorem tyX6_ok : ∀ k, k < 4 → parseFieldDescriptor (TX6 k).2.2.1 = some (tyX6 k) := by decide +kernel
abbrev cX6_init : ByteArray := prog_8_method_1_code
def yX6_init : MethodName := ⟨RX6, "<init>", "()V"⟩
abbrev cX6_renew : ByteArray := prog_8_method_2_code
def yX6_renew : MethodName := ⟨RX6, "renew", "(II)V"⟩
abbrev cX6_cut : ByteArray := prog_8_method_3_code
def yX6_cut : MethodName := ⟨RX6, "cut", "(I)I"⟩
abbrev cX6_hasNumber : ByteArray := prog_8_method_4_code
def yX6_hasNumber : MethodName := ⟨RX6, "hasNumber", "(I)Z"⟩
abbrev cX6_hasNumbers : ByteArray := prog_8_method_5_code
def yX6_hasNumbers : MethodName := ⟨RX6, "hasNumbers", "(II)Z"⟩
abbrev cX6_faultOfSort : ByteArray := prog_8_method_6_code
def yX6_faultOfSort : MethodName := ⟨RX6, "faultOfSort", "(I)I"⟩
abbrev cX6_faultOfRow : ByteArray := prog_8_method_7_code
def yX6_faultOfRow : MethodName := ⟨RX6, "faultOfRow", "(III)I"⟩
def RX7 : String := "BellLand$Woods"
def TX7 : u_T := fun k => match k with
  | 0 => ("BellLand$Woods", "ground", "LBellLand$Ground;", true)
  | 1 => ("BellLand$Woods", "bells", "LBellLand$Bells;", true)
  | 2 => ("BellLand$Woods", "air", "LBellLand$Air;", true)
  | 3 => ("BellLand$Woods", "grains", "[J", true)
  | 4 => ("BellLand$Woods", "way", "[I", true)
  | 5 => ("BellLand$Woods", "owner", "I", false)
  | _ => ("BellLand$Woods", "plantable", "I", false)
def tyX7 : Nat → FieldType := fun k => match k with
  | 0 => .object "BellLand$Ground"
  | 1 => .object "BellLand$Bells"
  | 2 => .object "BellLand$Air"
  | 3 => .array .long
  | 4 => .array .int
  | 5 => .int
  | _ => .int
abbrev wsX70 : List Cond := u_ws RX7 TX7 7
theorem nmX7 : ∀ a, a < 7 → ∀ b, b < 7 → a ≠ b → (TX7 a).2.1 ≠ (TX7 b).2.1 := by decide +kernel
theorem tyX7_ok : ∀ k, k < 7 → parseFieldDescriptor (TX7 k).2.2.1 = some (tyX7 k) := by decide +kernel
abbrev cX7_init : ByteArray := prog_9_method_1_code
def yX7_init : MethodName := ⟨RX7, "<init>", "(LBellLand$Ground;LBellLand$Bells;LBellLand$Air;)V"⟩
def RX8 : String := "BellLand"
def TX8 : u_T := fun k => match k with
  | 0 => ("BellLand", "ground", "LBellLand$Ground;", true)
  | 1 => ("BellLand", "bells", "LBellLand$Bells;", true)
  | 2 => ("BellLand", "air", "LBellLand$Air;", true)
  | 3 => ("BellLand", "reports", "LBellLand$Reports;", true)
  | 4 => ("BellLand", "woods", "LBellLand$Woods;", true)
  | 5 => ("BellLand", "ringing", "LBellLand$Ringing;", true)
  | 6 => ("BellLand", "foundry", "LBellLand$Foundry;", true)
  | 7 => ("BellLand", "sheets", "[LBellLand$Sheet;", true)
  | 8 => ("BellLand", "fault", "I", false)
  | _ => ("BellLand", "trace", "I", false)
def tyX8 : Nat → FieldType := fun k => match k with
  | 0 => .object "BellLand$Ground"
  | 1 => .object "BellLand$Bells"
  | 2 => .object "BellLand$Air"
  | 3 => .object "BellLand$Reports"
  | 4 => .object "BellLand$Woods"
  | 5 => .object "BellLand$Ringing"
  | 6 => .object "BellLand$Foundry"
  | 7 => .array (.object "BellLand$Sheet")
  | 8 => .int
  | _ => .int
abbrev wsX80 : List Cond := u_ws RX8 TX8 10
theorem nmX8 : ∀ a, a < 10 → ∀ b, b < 10 → a ≠ b → (TX8 a).2.1 ≠ (TX8 b).2.1 := by decide +kernel
theorem tyX8_ok : ∀ k, k < 10 → parseFieldDescriptor (TX8 k).2.2.1 = some (tyX8 k) := by decide +kernel
abbrev cX8_init : ByteArray := prog_1_method_1_code
def yX8_init : MethodName := ⟨RX8, "<init>", "()V"⟩
abbrev cX8_land : ByteArray := prog_1_method_2_code
def yX8_land : MethodName := ⟨RX8, "land", "(IIII)I"⟩
abbrev cX8_plant : ByteArray := prog_1_method_4_code
def yX8_plant : MethodName := ⟨RX8, "plant", "(IZ)I"⟩
abbrev cX8_ear : ByteArray := prog_1_method_5_code
def yX8_ear : MethodName := ⟨RX8, "ear", "(I)I"⟩
abbrev cX8_bell : ByteArray := prog_1_method_6_code
def yX8_bell : MethodName := ⟨RX8, "bell", "(III)I"⟩
abbrev cX8_ofBell : ByteArray := prog_1_method_7_code
def yX8_ofBell : MethodName := ⟨RX8, "ofBell", "(II)I"⟩
abbrev cX8_loud : ByteArray := prog_1_method_9_code
def yX8_loud : MethodName := ⟨RX8, "loud", "(IIII)J"⟩
abbrev cX8_whose : ByteArray := prog_1_method_10_code
def yX8_whose : MethodName := ⟨RX8, "whose", "(II)I"⟩
abbrev cX8_reach : ByteArray := prog_1_method_11_code
def yX8_reach : MethodName := ⟨RX8, "reach", "(II)I"⟩
abbrev cX8_tithes : ByteArray := prog_1_method_12_code
def yX8_tithes : MethodName := ⟨RX8, "tithes", "(IIIIII)J"⟩
abbrev cX8_wins : ByteArray := prog_1_method_13_code
def yX8_wins : MethodName := ⟨RX8, "wins", "(III)I"⟩
abbrev cX8_cheapest : ByteArray := prog_1_method_14_code
def yX8_cheapest : MethodName := ⟨RX8, "cheapest", "(III)I"⟩
abbrev cX8_sheet : ByteArray := prog_1_method_26_code
def yX8_sheet : MethodName := ⟨RX8, "sheet", "(III)I"⟩
abbrev cX8_put : ByteArray := prog_1_method_28_code
def yX8_put : MethodName := ⟨RX8, "put", "(III)I"⟩
abbrev cX8_fault : ByteArray := prog_1_method_35_code
def yX8_fault : MethodName := ⟨RX8, "fault", "()I"⟩
abbrev cX8_isCell : ByteArray := prog_1_method_37_code
def yX8_isCell : MethodName := ⟨RX8, "isCell", "(I)Z"⟩
abbrev cX8_isBell : ByteArray := prog_1_method_38_code
def yX8_isBell : MethodName := ⟨RX8, "isBell", "(I)Z"⟩
abbrev cX8_isSheet : ByteArray := prog_1_method_39_code
def yX8_isSheet : MethodName := ⟨RX8, "isSheet", "(I)Z"⟩
abbrev cX8_isSort : ByteArray := prog_1_method_40_code
def yX8_isSort : MethodName := ⟨RX8, "isSort", "(I)Z"⟩
abbrev cX8_isKind : ByteArray := prog_1_method_41_code
def yX8_isKind : MethodName := ⟨RX8, "isKind", "(I)Z"⟩
abbrev cX8_isWeight : ByteArray := prog_1_method_42_code
def yX8_isWeight : MethodName := ⟨RX8, "isWeight", "(I)Z"⟩
abbrev cX8_isWind : ByteArray := prog_1_method_43_code
def yX8_isWind : MethodName := ⟨RX8, "isWind", "(I)Z"⟩
abbrev cX8_isOneOfTwo : ByteArray := prog_1_method_44_code
def yX8_isOneOfTwo : MethodName := ⟨RX8, "isOneOfTwo", "(I)Z"⟩
abbrev cX8_faulty : ByteArray := prog_1_method_45_code
def yX8_faulty : MethodName := ⟨RX8, "faulty", "(I)I"⟩
abbrev cX8_share : ByteArray := prog_1_method_46_code
def yX8_share : MethodName := ⟨RX8, "share", "(JJI)J"⟩
abbrev cX8_greatestCommon : ByteArray := prog_1_method_47_code
def yX8_greatestCommon : MethodName := ⟨RX8, "greatestCommon", "(JJ)J"⟩
abbrev cX8_partsOfTithe : ByteArray := prog_1_method_49_code
def yX8_partsOfTithe : MethodName := ⟨RX8, "partsOfTithe", "(I)I"⟩
def RX9 : String := "BellLandModel"
def TX9 : u_T := fun k => match k with
  | _ => ("", "", "", false)
def tyX9 : Nat → FieldType := fun k => match k with
  | _ => .int
abbrev wsX90 : List Cond := u_ws RX9 TX9 0
theorem nmX9 : ∀ a, a < 0 → ∀ b, b < 0 → a ≠ b → (TX9 a).2.1 ≠ (TX9 b).2.1 := by decide +kernel
theorem tyX9_ok : ∀ k, k < 0 → parseFieldDescriptor (TX9 k).2.2.1 = some (tyX9 k) := by decide +kernel
def RJ6 : String := "java/lang/Integer"
def TJ6 : u_T := fun k => match k with
  | _ => ("", "", "", false)
def tyJ6 : Nat → FieldType := fun k => match k with
  | _ => .int
abbrev wsJ60 : List Cond := u_ws RJ6 TJ6 0
theorem nmJ6 : ∀ a, a < 0 → ∀ b, b < 0 → a ≠ b → (TJ6 a).2.1 ≠ (TJ6 b).2.1 := by decide +kernel
theorem tyJ6_ok : ∀ k, k < 0 → parseFieldDescriptor (TJ6 k).2.2.1 = some (tyJ6 k) := by decide +kernel
abbrev cJ6_bitCount_0f7a4 : ByteArray := prog_12_method_49_code
def yJ6_bitCount_0f7a4 : MethodName := ⟨RJ6, "bitCount", "(I)I"⟩
def RJ9 : String := "java/lang/Math"
def TJ9 : u_T := fun k => match k with
  | _ => ("", "", "", false)
def tyJ9 : Nat → FieldType := fun k => match k with
  | _ => .int
abbrev wsJ90 : List Cond := u_ws RJ9 TJ9 0
theorem nmJ9 : ∀ a, a < 0 → ∀ b, b < 0 → a ≠ b → (TJ9 a).2.1 ≠ (TJ9 b).2.1 := by decide +kernel
theorem tyJ9_ok : ∀ k, k < 0 → parseFieldDescriptor (TJ9 k).2.2.1 = some (tyJ9 k) := by decide +kernel
abbrev cJ9_abs_0f7a4 : ByteArray := prog_13_method_59_code
def yJ9_abs_0f7a4 : MethodName := ⟨RJ9, "abs", "(I)I"⟩
abbrev cJ9_max_7cf53 : ByteArray := prog_13_method_65_code
def yJ9_max_7cf53 : MethodName := ⟨RJ9, "max", "(II)I"⟩
abbrev cJ9_max_f86c9 : ByteArray := prog_13_method_66_code
def yJ9_max_f86c9 : MethodName := ⟨RJ9, "max", "(JJ)J"⟩
def RJ7 : String := "java/util/Arrays"
def TJ7 : u_T := fun k => match k with
  | _ => ("", "", "", false)
def tyJ7 : Nat → FieldType := fun k => match k with
  | _ => .int
abbrev wsJ70 : List Cond := u_ws RJ7 TJ7 0
theorem nmJ7 : ∀ a, a < 0 → ∀ b, b < 0 → a ≠ b → (TJ7 a).2.1 ≠ (TJ7 b).2.1 := by decide +kernel
theorem tyJ7_ok : ∀ k, k < 0 → parseFieldDescriptor (TJ7 k).2.2.1 = some (tyJ7 k) := by decide +kernel
abbrev cJ7_fill_53178 : ByteArray := prog_14_method_103_code
def yJ7_fill_53178 : MethodName := ⟨RJ7, "fill", "([II)V"⟩
def RL : String := "BellLandLaw"
abbrev cL_cell : ByteArray := method_2_code
def yL_cell : MethodName := ⟨RL, "cell", "([II)I"⟩
abbrev cL_some : ByteArray := method_3_code
def yL_some : MethodName := ⟨RL, "some", "(II)I"⟩
abbrev cL_put : ByteArray := method_4_code
def yL_put : MethodName := ⟨RL, "put", "(LBellLand;[II[I)I"⟩
abbrev cL_come : ByteArray := method_5_code
def yL_come : MethodName := ⟨RL, "come", "(LBellLand;[III[I)Z"⟩
abbrev cL_loud : ByteArray := method_6_code
def yL_loud : MethodName := ⟨RL, "loud", "([IIIIII[J)V"⟩
abbrev cL_hear : ByteArray := method_7_code
def yL_hear : MethodName := ⟨RL, "hear", "([III[J)V"⟩
abbrev cL_best : ByteArray := method_8_code
def yL_best : MethodName := ⟨RL, "best", "([I[J)I"⟩
abbrev cL_whose : ByteArray := method_9_code
def yL_whose : MethodName := ⟨RL, "whose", "([III)I"⟩
abbrev cL_isAlike : ByteArray := method_11_code
def yL_isAlike : MethodName := ⟨RL, "isAlike", "(JJJJ)Z"⟩
abbrev cL_law : ByteArray := code
def yL_law : MethodName := ⟨RL, "law", "([I)Z"⟩
abbrev vwCl : List vw_C := [(RX0, TX0, 7), (RX1, TX1, 4), (RX2, TX2, 6), (RX3, TX3, 8), (RX4, TX4, 7), (RX5, TX5, 4), (RX6, TX6, 4), (RX7, TX7, 7), (RX8, TX8, 10)]
end
section
def zG : List Cond := lw_tbl.filter goodWord
theorem zG_of {w : Cond} (h : w ∈ lw_tbl) (hg : goodWord w = true) : w ∈ zG := List.mem_filter.mpr ⟨h, hg⟩
theorem zG_tbl : ∀ w ∈ zG, w ∈ lw_tbl := fun _ h => (List.mem_filter.mp h).1
theorem zG_good {w : Cond} (h : w ∈ zG) : (w.onTables && w.keeps) = true ∨ ∃ ty, w = .arrayClass ty := good_of_word (List.mem_filter.mp h).2
theorem zt_0 {w : Cond} (h : w ∈ k2_sels lw_privs) : w ∈ lw_tbl := List.mem_append_left _ h
theorem zt_1 {w : Cond} (h : w ∈ tables_1_1) : w ∈ lw_tbl := List.mem_append_right _ (List.mem_append_left _ h)
theorem zt_2 {w : Cond} (h : w ∈ tables_1_2) : w ∈ lw_tbl := List.mem_append_right _ (List.mem_append_right _ (List.mem_append_left _ h))
theorem zt_3 {w : Cond} (h : w ∈ tables_1_3) : w ∈ lw_tbl := List.mem_append_right _ (List.mem_append_right _ (List.mem_append_right _ (h)))
theorem zw_over : ((Jvm.Cond.arrayOver (Jvm.ClassFile.FieldType.object "BellLand$Sheet"))) ∈ lw_tbl := zt_1 (List.mem_of_getElem? (i := 211) (by decide +kernel))
theorem zw_0 : (Cond.selects "BellLand" ⟨"BellLand", "isBell", "(I)Z"⟩ ⟨"BellLand", "isBell", "(I)Z"⟩) ∈ zG := zG_of (zt_0 (List.mem_of_getElem? (i := 0) (by decide +kernel))) (by decide +kernel)
theorem zw_1 : (Cond.selects "BellLand" ⟨"BellLand", "isCell", "(I)Z"⟩ ⟨"BellLand", "isCell", "(I)Z"⟩) ∈ zG := zG_of (zt_0 (List.mem_of_getElem? (i := 1) (by decide +kernel))) (by decide +kernel)
theorem zw_2 : (Cond.selects "BellLand$Air" ⟨"BellLand$Air", "blown", "(JIII)J"⟩ ⟨"BellLand$Air", "blown", "(JIII)J"⟩) ∈ zG := zG_of (zt_0 (List.mem_of_getElem? (i := 2) (by decide +kernel))) (by decide +kernel)
theorem zw_3 : (Cond.selects "BellLand" ⟨"BellLand", "partsOfTithe", "(I)I"⟩ ⟨"BellLand", "partsOfTithe", "(I)I"⟩) ∈ zG := zG_of (zt_0 (List.mem_of_getElem? (i := 3) (by decide +kernel))) (by decide +kernel)
theorem zw_4 : (Cond.selects "BellLand$Air" ⟨"BellLand$Air", "bar", "([IIII)J"⟩ ⟨"BellLand$Air", "bar", "([IIII)J"⟩) ∈ zG := zG_of (zt_0 (List.mem_of_getElem? (i := 4) (by decide +kernel))) (by decide +kernel)
theorem zw_5 : (Cond.selects "BellLand" ⟨"BellLand", "faulty", "(I)I"⟩ ⟨"BellLand", "faulty", "(I)I"⟩) ∈ zG := zG_of (zt_0 (List.mem_of_getElem? (i := 5) (by decide +kernel))) (by decide +kernel)
theorem zw_6 : (Cond.selects "BellLand$Air" ⟨"BellLand$Air", "calmUnit", "(III)J"⟩ ⟨"BellLand$Air", "calmUnit", "(III)J"⟩) ∈ zG := zG_of (zt_0 (List.mem_of_getElem? (i := 6) (by decide +kernel))) (by decide +kernel)
theorem zw_7 : ((Jvm.Cond.initialized "BellLandLaw")) ∈ zG := zG_of (zt_1 (List.mem_of_getElem? (i := 0) (by decide +kernel))) (by decide +kernel)
theorem zw_8 : ((Jvm.Cond.initialized "BellLand")) ∈ zG := zG_of (zt_1 (List.mem_of_getElem? (i := 1) (by decide +kernel))) (by decide +kernel)
theorem zw_9 : ((Jvm.Cond.initialized "BellLand$Ground")) ∈ zG := zG_of (zt_1 (List.mem_of_getElem? (i := 2) (by decide +kernel))) (by decide +kernel)
theorem zw_10 : ((Jvm.Cond.initialized "BellLand$Bells")) ∈ zG := zG_of (zt_1 (List.mem_of_getElem? (i := 3) (by decide +kernel))) (by decide +kernel)
theorem zw_11 : ((Jvm.Cond.initialized "BellLand$Air")) ∈ zG := zG_of (zt_1 (List.mem_of_getElem? (i := 4) (by decide +kernel))) (by decide +kernel)
theorem zw_12 : ((Jvm.Cond.initialized "BellLand$Reports")) ∈ zG := zG_of (zt_1 (List.mem_of_getElem? (i := 5) (by decide +kernel))) (by decide +kernel)
theorem zw_13 : ((Jvm.Cond.initialized "BellLand$Woods")) ∈ zG := zG_of (zt_1 (List.mem_of_getElem? (i := 6) (by decide +kernel))) (by decide +kernel)
theorem zw_14 : ((Jvm.Cond.initialized "BellLand$Ringing")) ∈ zG := zG_of (zt_1 (List.mem_of_getElem? (i := 7) (by decide +kernel))) (by decide +kernel)
theorem zw_15 : ((Jvm.Cond.initialized "BellLand$Foundry")) ∈ zG := zG_of (zt_1 (List.mem_of_getElem? (i := 8) (by decide +kernel))) (by decide +kernel)
theorem zw_16 : ((Jvm.Cond.initialized "BellLand$Sheet")) ∈ zG := zG_of (zt_1 (List.mem_of_getElem? (i := 9) (by decide +kernel))) (by decide +kernel)
theorem zw_17 : ((Jvm.Cond.initialized "java/util/Arrays")) ∈ zG := zG_of (zt_1 (List.mem_of_getElem? (i := 10) (by decide +kernel))) (by decide +kernel)
theorem zw_18 : ((Jvm.Cond.initialized "java/lang/Math")) ∈ zG := zG_of (zt_1 (List.mem_of_getElem? (i := 11) (by decide +kernel))) (by decide +kernel)
theorem zw_19 : ((Jvm.Cond.initialized "java/lang/Integer")) ∈ zG := zG_of (zt_1 (List.mem_of_getElem? (i := 12) (by decide +kernel))) (by decide +kernel)
theorem zw_20 : ((Jvm.Cond.classLink "BellLandLaw" (20 : Nat) "BellLand")) ∈ zG := zG_of (zt_1 (List.mem_of_getElem? (i := 13) (by decide +kernel))) (by decide +kernel)
theorem zw_21 : ((Jvm.Cond.instantiable "BellLand" (10 : Nat))) ∈ zG := zG_of (zt_1 (List.mem_of_getElem? (i := 14) (by decide +kernel))) (by decide +kernel)
theorem zw_22 : ((Jvm.Cond.methodLink "BellLandLaw" (59 : Nat) ({ cls := "BellLand", name := "<init>", desc := "()V" } : Jvm.MethodName))) ∈ zG := zG_of (zt_1 (List.mem_of_getElem? (i := 15) (by decide +kernel))) (by decide +kernel)
theorem zw_23 : ((Jvm.Cond.instanceMethod ({ cls := "BellLand", name := "<init>", desc := "()V" } : Jvm.MethodName))) ∈ zG := zG_of (zt_1 (List.mem_of_getElem? (i := 16) (by decide +kernel))) (by decide +kernel)
theorem zw_24 : ((Jvm.Cond.code ({ cls := "BellLand", name := "<init>", desc := "()V" } : Jvm.MethodName) prog_1_method_1_code (2 : Nat) (Option.none : Option Jvm.ClassFile.FieldType))) ∈ zG := zG_of (zt_1 (List.mem_of_getElem? (i := 17) (by decide +kernel))) (by decide +kernel)
theorem zw_25 : ((Jvm.Cond.methodLink "BellLand" (5 : Nat) ({ cls := "java/lang/Object", name := "<init>", desc := "()V" } : Jvm.MethodName))) ∈ zG := zG_of (zt_1 (List.mem_of_getElem? (i := 18) (by decide +kernel))) (by decide +kernel)
theorem zw_26 : ((Jvm.Cond.instanceMethod ({ cls := "java/lang/Object", name := "<init>", desc := "()V" } : Jvm.MethodName))) ∈ zG := zG_of (zt_1 (List.mem_of_getElem? (i := 19) (by decide +kernel))) (by decide +kernel)
theorem zw_27 : ((Jvm.Cond.code ({ cls := "java/lang/Object", name := "<init>", desc := "()V" } : Jvm.MethodName) object_method_1_code (1 : Nat) (Option.none : Option Jvm.ClassFile.FieldType))) ∈ zG := zG_of (zt_1 (List.mem_of_getElem? (i := 20) (by decide +kernel))) (by decide +kernel)
theorem zw_28 : ((Jvm.Cond.classLink "BellLand" (11 : Nat) "BellLand$Ground")) ∈ zG := zG_of (zt_1 (List.mem_of_getElem? (i := 21) (by decide +kernel))) (by decide +kernel)
theorem zw_29 : ((Jvm.Cond.instantiable "BellLand$Ground" (8 : Nat))) ∈ zG := zG_of (zt_1 (List.mem_of_getElem? (i := 22) (by decide +kernel))) (by decide +kernel)
theorem zw_30 : ((Jvm.Cond.methodLink "BellLand" (13 : Nat) ({ cls := "BellLand$Ground", name := "<init>", desc := "()V" } : Jvm.MethodName))) ∈ zG := zG_of (zt_1 (List.mem_of_getElem? (i := 23) (by decide +kernel))) (by decide +kernel)
theorem zw_31 : ((Jvm.Cond.instanceMethod ({ cls := "BellLand$Ground", name := "<init>", desc := "()V" } : Jvm.MethodName))) ∈ zG := zG_of (zt_1 (List.mem_of_getElem? (i := 24) (by decide +kernel))) (by decide +kernel)
theorem zw_32 : ((Jvm.Cond.code ({ cls := "BellLand$Ground", name := "<init>", desc := "()V" } : Jvm.MethodName) prog_5_method_1_code (1 : Nat) (Option.none : Option Jvm.ClassFile.FieldType))) ∈ zG := zG_of (zt_1 (List.mem_of_getElem? (i := 25) (by decide +kernel))) (by decide +kernel)
theorem zw_33 : ((Jvm.Cond.methodLink "BellLand$Ground" (3 : Nat) ({ cls := "java/lang/Object", name := "<init>", desc := "()V" } : Jvm.MethodName))) ∈ zG := zG_of (zt_1 (List.mem_of_getElem? (i := 26) (by decide +kernel))) (by decide +kernel)
theorem zw_34 : ((Jvm.Cond.fieldLink "BellLand$Ground" (24 : Nat) "BellLand$Ground" "high" "I")) ∈ zG := zG_of (zt_1 (List.mem_of_getElem? (i := 27) (by decide +kernel))) (by decide +kernel)
theorem zw_35 : ((Jvm.Cond.fieldLink "BellLand$Ground" (28 : Nat) "BellLand$Ground" "wide" "I")) ∈ zG := zG_of (zt_1 (List.mem_of_getElem? (i := 28) (by decide +kernel))) (by decide +kernel)
theorem zw_36 : ((Jvm.Cond.fieldLink "BellLand" (107 : Nat) "BellLand$Ground" "cells" "I")) ∈ zG := zG_of (zt_1 (List.mem_of_getElem? (i := 29) (by decide +kernel))) (by decide +kernel)
theorem zw_37 : ((Jvm.Cond.fieldLink "BellLand$Ground" (31 : Nat) "BellLand$Ground" "cells" "I")) ∈ zG := zG_of (zt_1 (List.mem_of_getElem? (i := 30) (by decide +kernel))) (by decide +kernel)
theorem zw_38 : ((Jvm.Cond.fieldLink "BellLand$Air" (35 : Nat) "BellLand$Ground" "cells" "I")) ∈ zG := zG_of (zt_1 (List.mem_of_getElem? (i := 31) (by decide +kernel))) (by decide +kernel)
theorem zw_39 : ((Jvm.Cond.fieldLink "BellLand$Ground" (34 : Nat) "BellLand$Ground" "planted" "I")) ∈ zG := zG_of (zt_1 (List.mem_of_getElem? (i := 32) (by decide +kernel))) (by decide +kernel)
theorem zw_40 : ((Jvm.Cond.fieldLink "BellLand" (126 : Nat) "BellLand$Ground" "planted" "I")) ∈ zG := zG_of (zt_1 (List.mem_of_getElem? (i := 33) (by decide +kernel))) (by decide +kernel)
theorem zw_41 : ((Jvm.Cond.fieldLink "BellLand$Air" (65 : Nat) "BellLand$Ground" "planted" "I")) ∈ zG := zG_of (zt_1 (List.mem_of_getElem? (i := 34) (by decide +kernel))) (by decide +kernel)
theorem zw_42 : ((Jvm.Cond.fieldLink "BellLand$Ground" (9 : Nat) "BellLand$Ground" "height" "[I")) ∈ zG := zG_of (zt_1 (List.mem_of_getElem? (i := 35) (by decide +kernel))) (by decide +kernel)
theorem zw_43 : ((Jvm.Cond.fieldLink "BellLand$Ground" (15 : Nat) "BellLand$Ground" "row" "[I")) ∈ zG := zG_of (zt_1 (List.mem_of_getElem? (i := 36) (by decide +kernel))) (by decide +kernel)
theorem zw_44 : ((Jvm.Cond.fieldLink "BellLand$Ground" (18 : Nat) "BellLand$Ground" "column" "[I")) ∈ zG := zG_of (zt_1 (List.mem_of_getElem? (i := 37) (by decide +kernel))) (by decide +kernel)
theorem zw_45 : ((Jvm.Cond.fieldLink "BellLand$Ground" (21 : Nat) "BellLand$Ground" "higher" "[I")) ∈ zG := zG_of (zt_1 (List.mem_of_getElem? (i := 38) (by decide +kernel))) (by decide +kernel)
theorem zw_62 : ((Jvm.Cond.superclass "BellLand$Ground" "java/lang/Object")) ∈ zG := zG_of (zt_1 (List.mem_of_getElem? (i := 55) (by decide +kernel))) (by decide +kernel)
theorem zw_63 : ((Jvm.Cond.arrayClass Jvm.ClassFile.FieldType.int)) ∈ zG := zG_of (zt_1 (List.mem_of_getElem? (i := 56) (by decide +kernel))) (by decide +kernel)
theorem zw_64 : ((Jvm.Cond.classLink "BellLand" (18 : Nat) "BellLand$Bells")) ∈ zG := zG_of (zt_1 (List.mem_of_getElem? (i := 57) (by decide +kernel))) (by decide +kernel)
theorem zw_65 : ((Jvm.Cond.instantiable "BellLand$Bells" (4 : Nat))) ∈ zG := zG_of (zt_1 (List.mem_of_getElem? (i := 58) (by decide +kernel))) (by decide +kernel)
theorem zw_66 : ((Jvm.Cond.methodLink "BellLand" (20 : Nat) ({ cls := "BellLand$Bells", name := "<init>", desc := "()V" } : Jvm.MethodName))) ∈ zG := zG_of (zt_1 (List.mem_of_getElem? (i := 59) (by decide +kernel))) (by decide +kernel)
theorem zw_67 : ((Jvm.Cond.instanceMethod ({ cls := "BellLand$Bells", name := "<init>", desc := "()V" } : Jvm.MethodName))) ∈ zG := zG_of (zt_1 (List.mem_of_getElem? (i := 60) (by decide +kernel))) (by decide +kernel)
theorem zw_68 : ((Jvm.Cond.code ({ cls := "BellLand$Bells", name := "<init>", desc := "()V" } : Jvm.MethodName) prog_3_method_1_code (1 : Nat) (Option.none : Option Jvm.ClassFile.FieldType))) ∈ zG := zG_of (zt_1 (List.mem_of_getElem? (i := 61) (by decide +kernel))) (by decide +kernel)
theorem zw_69 : ((Jvm.Cond.methodLink "BellLand$Bells" (3 : Nat) ({ cls := "java/lang/Object", name := "<init>", desc := "()V" } : Jvm.MethodName))) ∈ zG := zG_of (zt_1 (List.mem_of_getElem? (i := 62) (by decide +kernel))) (by decide +kernel)
theorem zw_70 : ((Jvm.Cond.fieldLink "BellLand$Bells" (21 : Nat) "BellLand$Bells" "count" "I")) ∈ zG := zG_of (zt_1 (List.mem_of_getElem? (i := 63) (by decide +kernel))) (by decide +kernel)
theorem zw_71 : ((Jvm.Cond.fieldLink "BellLand" (100 : Nat) "BellLand$Bells" "count" "I")) ∈ zG := zG_of (zt_1 (List.mem_of_getElem? (i := 64) (by decide +kernel))) (by decide +kernel)
theorem zw_72 : ((Jvm.Cond.fieldLink "BellLand$Air" (54 : Nat) "BellLand$Bells" "count" "I")) ∈ zG := zG_of (zt_1 (List.mem_of_getElem? (i := 65) (by decide +kernel))) (by decide +kernel)
theorem zw_73 : ((Jvm.Cond.fieldLink "BellLand$Bells" (9 : Nat) "BellLand$Bells" "kind" "[I")) ∈ zG := zG_of (zt_1 (List.mem_of_getElem? (i := 66) (by decide +kernel))) (by decide +kernel)
theorem zw_74 : ((Jvm.Cond.fieldLink "BellLand$Air" (41 : Nat) "BellLand$Bells" "kind" "[I")) ∈ zG := zG_of (zt_1 (List.mem_of_getElem? (i := 67) (by decide +kernel))) (by decide +kernel)
theorem zw_75 : ((Jvm.Cond.fieldLink "BellLand" (148 : Nat) "BellLand$Bells" "kind" "[I")) ∈ zG := zG_of (zt_1 (List.mem_of_getElem? (i := 68) (by decide +kernel))) (by decide +kernel)
theorem zw_76 : ((Jvm.Cond.fieldLink "BellLand$Bells" (15 : Nat) "BellLand$Bells" "cell" "[I")) ∈ zG := zG_of (zt_1 (List.mem_of_getElem? (i := 69) (by decide +kernel))) (by decide +kernel)
theorem zw_77 : ((Jvm.Cond.fieldLink "BellLand$Air" (47 : Nat) "BellLand$Bells" "cell" "[I")) ∈ zG := zG_of (zt_1 (List.mem_of_getElem? (i := 70) (by decide +kernel))) (by decide +kernel)
theorem zw_78 : ((Jvm.Cond.fieldLink "BellLand" (151 : Nat) "BellLand$Bells" "cell" "[I")) ∈ zG := zG_of (zt_1 (List.mem_of_getElem? (i := 71) (by decide +kernel))) (by decide +kernel)
theorem zw_79 : ((Jvm.Cond.fieldLink "BellLand$Bells" (18 : Nat) "BellLand$Bells" "weight" "[I")) ∈ zG := zG_of (zt_1 (List.mem_of_getElem? (i := 72) (by decide +kernel))) (by decide +kernel)
theorem zw_80 : ((Jvm.Cond.fieldLink "BellLand" (154 : Nat) "BellLand$Bells" "weight" "[I")) ∈ zG := zG_of (zt_1 (List.mem_of_getElem? (i := 73) (by decide +kernel))) (by decide +kernel)
theorem zw_81 : ((Jvm.Cond.fieldLink "BellLand$Air" (105 : Nat) "BellLand$Bells" "weight" "[I")) ∈ zG := zG_of (zt_1 (List.mem_of_getElem? (i := 74) (by decide +kernel))) (by decide +kernel)
theorem zw_90 : ((Jvm.Cond.superclass "BellLand$Bells" "java/lang/Object")) ∈ zG := zG_of (zt_1 (List.mem_of_getElem? (i := 83) (by decide +kernel))) (by decide +kernel)
theorem zw_91 : ((Jvm.Cond.classLink "BellLand" (25 : Nat) "BellLand$Air")) ∈ zG := zG_of (zt_1 (List.mem_of_getElem? (i := 84) (by decide +kernel))) (by decide +kernel)
theorem zw_92 : ((Jvm.Cond.instantiable "BellLand$Air" (7 : Nat))) ∈ zG := zG_of (zt_1 (List.mem_of_getElem? (i := 85) (by decide +kernel))) (by decide +kernel)
theorem zw_93 : ((Jvm.Cond.methodLink "BellLand" (27 : Nat) ({ cls := "BellLand$Air", name := "<init>", desc := "(LBellLand$Ground;LBellLand$Bells;)V" } : Jvm.MethodName))) ∈ zG := zG_of (zt_1 (List.mem_of_getElem? (i := 86) (by decide +kernel))) (by decide +kernel)
theorem zw_94 : ((Jvm.Cond.instanceMethod ({ cls := "BellLand$Air", name := "<init>", desc := "(LBellLand$Ground;LBellLand$Bells;)V" } : Jvm.MethodName))) ∈ zG := zG_of (zt_1 (List.mem_of_getElem? (i := 87) (by decide +kernel))) (by decide +kernel)
theorem zw_95 : ((Jvm.Cond.code ({ cls := "BellLand$Air", name := "<init>", desc := "(LBellLand$Ground;LBellLand$Bells;)V" } : Jvm.MethodName) prog_2_method_1_code (3 : Nat) (Option.none : Option Jvm.ClassFile.FieldType))) ∈ zG := zG_of (zt_1 (List.mem_of_getElem? (i := 88) (by decide +kernel))) (by decide +kernel)
theorem zw_96 : ((Jvm.Cond.methodLink "BellLand$Air" (3 : Nat) ({ cls := "java/lang/Object", name := "<init>", desc := "()V" } : Jvm.MethodName))) ∈ zG := zG_of (zt_1 (List.mem_of_getElem? (i := 89) (by decide +kernel))) (by decide +kernel)
theorem zw_97 : ((Jvm.Cond.fieldLink "BellLand$Air" (9 : Nat) "BellLand$Air" "ground" "LBellLand$Ground;")) ∈ zG := zG_of (zt_1 (List.mem_of_getElem? (i := 90) (by decide +kernel))) (by decide +kernel)
theorem zw_98 : ((Jvm.Cond.fieldLink "BellLand$Air" (15 : Nat) "BellLand$Air" "bells" "LBellLand$Bells;")) ∈ zG := zG_of (zt_1 (List.mem_of_getElem? (i := 91) (by decide +kernel))) (by decide +kernel)
theorem zw_99 : ((Jvm.Cond.fieldLink "BellLand" (104 : Nat) "BellLand$Air" "ear" "I")) ∈ zG := zG_of (zt_1 (List.mem_of_getElem? (i := 92) (by decide +kernel))) (by decide +kernel)
theorem zw_100 : ((Jvm.Cond.fieldLink "BellLand$Air" (98 : Nat) "BellLand$Air" "ear" "I")) ∈ zG := zG_of (zt_1 (List.mem_of_getElem? (i := 93) (by decide +kernel))) (by decide +kernel)
theorem zw_101 : ((Jvm.Cond.fieldLink "BellLand$Air" (19 : Nat) "BellLand$Air" "calm" "[J")) ∈ zG := zG_of (zt_1 (List.mem_of_getElem? (i := 94) (by decide +kernel))) (by decide +kernel)
theorem zw_102 : ((Jvm.Cond.fieldLink "BellLand$Air" (23 : Nat) "BellLand$Air" "unit" "[J")) ∈ zG := zG_of (zt_1 (List.mem_of_getElem? (i := 95) (by decide +kernel))) (by decide +kernel)
theorem zw_103 : ((Jvm.Cond.fieldLink "BellLand$Air" (101 : Nat) "BellLand$Air" "faint" "J")) ∈ zG := zG_of (zt_1 (List.mem_of_getElem? (i := 96) (by decide +kernel))) (by decide +kernel)
theorem zw_119 : ((Jvm.Cond.superclass "BellLand$Air" "java/lang/Object")) ∈ zG := zG_of (zt_1 (List.mem_of_getElem? (i := 112) (by decide +kernel))) (by decide +kernel)
theorem zw_120 : ((Jvm.Cond.arrayClass Jvm.ClassFile.FieldType.long)) ∈ zG := zG_of (zt_1 (List.mem_of_getElem? (i := 113) (by decide +kernel))) (by decide +kernel)
theorem zw_121 : ((Jvm.Cond.classLink "BellLand" (34 : Nat) "BellLand$Reports")) ∈ zG := zG_of (zt_1 (List.mem_of_getElem? (i := 114) (by decide +kernel))) (by decide +kernel)
theorem zw_122 : ((Jvm.Cond.instantiable "BellLand$Reports" (7 : Nat))) ∈ zG := zG_of (zt_1 (List.mem_of_getElem? (i := 115) (by decide +kernel))) (by decide +kernel)
theorem zw_123 : ((Jvm.Cond.methodLink "BellLand" (36 : Nat) ({ cls := "BellLand$Reports", name := "<init>", desc := "(LBellLand$Bells;LBellLand$Air;)V" } : Jvm.MethodName))) ∈ zG := zG_of (zt_1 (List.mem_of_getElem? (i := 116) (by decide +kernel))) (by decide +kernel)
theorem zw_124 : ((Jvm.Cond.instanceMethod ({ cls := "BellLand$Reports", name := "<init>", desc := "(LBellLand$Bells;LBellLand$Air;)V" } : Jvm.MethodName))) ∈ zG := zG_of (zt_1 (List.mem_of_getElem? (i := 117) (by decide +kernel))) (by decide +kernel)
theorem zw_125 : ((Jvm.Cond.code ({ cls := "BellLand$Reports", name := "<init>", desc := "(LBellLand$Bells;LBellLand$Air;)V" } : Jvm.MethodName) prog_6_method_1_code (3 : Nat) (Option.none : Option Jvm.ClassFile.FieldType))) ∈ zG := zG_of (zt_1 (List.mem_of_getElem? (i := 118) (by decide +kernel))) (by decide +kernel)
theorem zw_126 : ((Jvm.Cond.methodLink "BellLand$Reports" (3 : Nat) ({ cls := "java/lang/Object", name := "<init>", desc := "()V" } : Jvm.MethodName))) ∈ zG := zG_of (zt_1 (List.mem_of_getElem? (i := 119) (by decide +kernel))) (by decide +kernel)
theorem zw_129 : ((Jvm.Cond.fieldLink "BellLand" (103 : Nat) "BellLand$Reports" "count" "I")) ∈ zG := zG_of (zt_1 (List.mem_of_getElem? (i := 122) (by decide +kernel))) (by decide +kernel)
theorem zw_148 : ((Jvm.Cond.superclass "BellLand$Reports" "java/lang/Object")) ∈ zG := zG_of (zt_1 (List.mem_of_getElem? (i := 141) (by decide +kernel))) (by decide +kernel)
theorem zw_149 : ((Jvm.Cond.classLink "BellLand" (43 : Nat) "BellLand$Woods")) ∈ zG := zG_of (zt_1 (List.mem_of_getElem? (i := 142) (by decide +kernel))) (by decide +kernel)
theorem zw_150 : ((Jvm.Cond.instantiable "BellLand$Woods" (7 : Nat))) ∈ zG := zG_of (zt_1 (List.mem_of_getElem? (i := 143) (by decide +kernel))) (by decide +kernel)
theorem zw_151 : ((Jvm.Cond.methodLink "BellLand" (45 : Nat) ({ cls := "BellLand$Woods", name := "<init>", desc := "(LBellLand$Ground;LBellLand$Bells;LBellLand$Air;)V" } : Jvm.MethodName))) ∈ zG := zG_of (zt_1 (List.mem_of_getElem? (i := 144) (by decide +kernel))) (by decide +kernel)
theorem zw_152 : ((Jvm.Cond.instanceMethod ({ cls := "BellLand$Woods", name := "<init>", desc := "(LBellLand$Ground;LBellLand$Bells;LBellLand$Air;)V" } : Jvm.MethodName))) ∈ zG := zG_of (zt_1 (List.mem_of_getElem? (i := 145) (by decide +kernel))) (by decide +kernel)
theorem zw_153 : ((Jvm.Cond.code ({ cls := "BellLand$Woods", name := "<init>", desc := "(LBellLand$Ground;LBellLand$Bells;LBellLand$Air;)V" } : Jvm.MethodName) prog_9_method_1_code (4 : Nat) (Option.none : Option Jvm.ClassFile.FieldType))) ∈ zG := zG_of (zt_1 (List.mem_of_getElem? (i := 146) (by decide +kernel))) (by decide +kernel)
theorem zw_154 : ((Jvm.Cond.methodLink "BellLand$Woods" (3 : Nat) ({ cls := "java/lang/Object", name := "<init>", desc := "()V" } : Jvm.MethodName))) ∈ zG := zG_of (zt_1 (List.mem_of_getElem? (i := 147) (by decide +kernel))) (by decide +kernel)
theorem zw_174 : ((Jvm.Cond.superclass "BellLand$Woods" "java/lang/Object")) ∈ zG := zG_of (zt_1 (List.mem_of_getElem? (i := 167) (by decide +kernel))) (by decide +kernel)
theorem zw_175 : ((Jvm.Cond.classLink "BellLand" (52 : Nat) "BellLand$Ringing")) ∈ zG := zG_of (zt_1 (List.mem_of_getElem? (i := 168) (by decide +kernel))) (by decide +kernel)
theorem zw_176 : ((Jvm.Cond.instantiable "BellLand$Ringing" (4 : Nat))) ∈ zG := zG_of (zt_1 (List.mem_of_getElem? (i := 169) (by decide +kernel))) (by decide +kernel)
theorem zw_177 : ((Jvm.Cond.methodLink "BellLand" (54 : Nat) ({ cls := "BellLand$Ringing", name := "<init>", desc := "(LBellLand$Bells;LBellLand$Air;)V" } : Jvm.MethodName))) ∈ zG := zG_of (zt_1 (List.mem_of_getElem? (i := 170) (by decide +kernel))) (by decide +kernel)
theorem zw_178 : ((Jvm.Cond.instanceMethod ({ cls := "BellLand$Ringing", name := "<init>", desc := "(LBellLand$Bells;LBellLand$Air;)V" } : Jvm.MethodName))) ∈ zG := zG_of (zt_1 (List.mem_of_getElem? (i := 171) (by decide +kernel))) (by decide +kernel)
theorem zw_179 : ((Jvm.Cond.code ({ cls := "BellLand$Ringing", name := "<init>", desc := "(LBellLand$Bells;LBellLand$Air;)V" } : Jvm.MethodName) prog_7_method_1_code (3 : Nat) (Option.none : Option Jvm.ClassFile.FieldType))) ∈ zG := zG_of (zt_1 (List.mem_of_getElem? (i := 172) (by decide +kernel))) (by decide +kernel)
theorem zw_180 : ((Jvm.Cond.methodLink "BellLand$Ringing" (3 : Nat) ({ cls := "java/lang/Object", name := "<init>", desc := "()V" } : Jvm.MethodName))) ∈ zG := zG_of (zt_1 (List.mem_of_getElem? (i := 173) (by decide +kernel))) (by decide +kernel)
theorem zw_193 : ((Jvm.Cond.superclass "BellLand$Ringing" "java/lang/Object")) ∈ zG := zG_of (zt_1 (List.mem_of_getElem? (i := 186) (by decide +kernel))) (by decide +kernel)
theorem zw_194 : ((Jvm.Cond.classLink "BellLand" (59 : Nat) "BellLand$Foundry")) ∈ zG := zG_of (zt_1 (List.mem_of_getElem? (i := 187) (by decide +kernel))) (by decide +kernel)
theorem zw_195 : ((Jvm.Cond.instantiable "BellLand$Foundry" (6 : Nat))) ∈ zG := zG_of (zt_1 (List.mem_of_getElem? (i := 188) (by decide +kernel))) (by decide +kernel)
theorem zw_196 : ((Jvm.Cond.methodLink "BellLand" (61 : Nat) ({ cls := "BellLand$Foundry", name := "<init>", desc := "(LBellLand$Bells;LBellLand$Air;)V" } : Jvm.MethodName))) ∈ zG := zG_of (zt_1 (List.mem_of_getElem? (i := 189) (by decide +kernel))) (by decide +kernel)
theorem zw_197 : ((Jvm.Cond.instanceMethod ({ cls := "BellLand$Foundry", name := "<init>", desc := "(LBellLand$Bells;LBellLand$Air;)V" } : Jvm.MethodName))) ∈ zG := zG_of (zt_1 (List.mem_of_getElem? (i := 190) (by decide +kernel))) (by decide +kernel)
theorem zw_198 : ((Jvm.Cond.code ({ cls := "BellLand$Foundry", name := "<init>", desc := "(LBellLand$Bells;LBellLand$Air;)V" } : Jvm.MethodName) prog_4_method_1_code (3 : Nat) (Option.none : Option Jvm.ClassFile.FieldType))) ∈ zG := zG_of (zt_1 (List.mem_of_getElem? (i := 191) (by decide +kernel))) (by decide +kernel)
theorem zw_199 : ((Jvm.Cond.methodLink "BellLand$Foundry" (3 : Nat) ({ cls := "java/lang/Object", name := "<init>", desc := "()V" } : Jvm.MethodName))) ∈ zG := zG_of (zt_1 (List.mem_of_getElem? (i := 192) (by decide +kernel))) (by decide +kernel)
theorem zw_216 : ((Jvm.Cond.superclass "BellLand$Foundry" "java/lang/Object")) ∈ zG := zG_of (zt_1 (List.mem_of_getElem? (i := 209) (by decide +kernel))) (by decide +kernel)
theorem zw_217 : ((Jvm.Cond.classLink "BellLand" (66 : Nat) "BellLand$Sheet")) ∈ zG := zG_of (zt_1 (List.mem_of_getElem? (i := 210) (by decide +kernel))) (by decide +kernel)
theorem zw_219 : ((Jvm.Cond.instantiable "BellLand$Sheet" (4 : Nat))) ∈ zG := zG_of (zt_1 (List.mem_of_getElem? (i := 212) (by decide +kernel))) (by decide +kernel)
theorem zw_220 : ((Jvm.Cond.methodLink "BellLand" (72 : Nat) ({ cls := "BellLand$Sheet", name := "<init>", desc := "()V" } : Jvm.MethodName))) ∈ zG := zG_of (zt_1 (List.mem_of_getElem? (i := 213) (by decide +kernel))) (by decide +kernel)
theorem zw_221 : ((Jvm.Cond.instanceMethod ({ cls := "BellLand$Sheet", name := "<init>", desc := "()V" } : Jvm.MethodName))) ∈ zG := zG_of (zt_1 (List.mem_of_getElem? (i := 214) (by decide +kernel))) (by decide +kernel)
theorem zw_222 : ((Jvm.Cond.code ({ cls := "BellLand$Sheet", name := "<init>", desc := "()V" } : Jvm.MethodName) prog_8_method_1_code (1 : Nat) (Option.none : Option Jvm.ClassFile.FieldType))) ∈ zG := zG_of (zt_1 (List.mem_of_getElem? (i := 215) (by decide +kernel))) (by decide +kernel)
theorem zw_223 : ((Jvm.Cond.methodLink "BellLand$Sheet" (3 : Nat) ({ cls := "java/lang/Object", name := "<init>", desc := "()V" } : Jvm.MethodName))) ∈ zG := zG_of (zt_1 (List.mem_of_getElem? (i := 216) (by decide +kernel))) (by decide +kernel)
theorem zw_224 : ((Jvm.Cond.fieldLink "BellLand$Sheet" (9 : Nat) "BellLand$Sheet" "numbers" "[I")) ∈ zG := zG_of (zt_1 (List.mem_of_getElem? (i := 217) (by decide +kernel))) (by decide +kernel)
theorem zw_225 : ((Jvm.Cond.fieldLink "BellLand" (88 : Nat) "BellLand$Sheet" "numbers" "[I")) ∈ zG := zG_of (zt_1 (List.mem_of_getElem? (i := 218) (by decide +kernel))) (by decide +kernel)
theorem zw_226 : ((Jvm.Cond.fieldLink "BellLand$Sheet" (15 : Nat) "BellLand$Sheet" "isThere" "Z")) ∈ zG := zG_of (zt_1 (List.mem_of_getElem? (i := 219) (by decide +kernel))) (by decide +kernel)
theorem zw_227 : ((Jvm.Cond.fieldLink "BellLand" (257 : Nat) "BellLand$Sheet" "isThere" "Z")) ∈ zG := zG_of (zt_1 (List.mem_of_getElem? (i := 220) (by decide +kernel))) (by decide +kernel)
theorem zw_228 : ((Jvm.Cond.fieldLink "BellLand$Sheet" (19 : Nat) "BellLand$Sheet" "sort" "I")) ∈ zG := zG_of (zt_1 (List.mem_of_getElem? (i := 221) (by decide +kernel))) (by decide +kernel)
theorem zw_229 : ((Jvm.Cond.fieldLink "BellLand$Sheet" (23 : Nat) "BellLand$Sheet" "size" "I")) ∈ zG := zG_of (zt_1 (List.mem_of_getElem? (i := 222) (by decide +kernel))) (by decide +kernel)
theorem zw_238 : ((Jvm.Cond.superclass "BellLand$Sheet" "java/lang/Object")) ∈ zG := zG_of (zt_1 (List.mem_of_getElem? (i := 231) (by decide +kernel))) (by decide +kernel)
theorem zw_239 : ((Jvm.Cond.fieldLink "BellLand" (14 : Nat) "BellLand" "ground" "LBellLand$Ground;")) ∈ zG := zG_of (zt_1 (List.mem_of_getElem? (i := 232) (by decide +kernel))) (by decide +kernel)
theorem zw_240 : ((Jvm.Cond.fieldLink "BellLand" (21 : Nat) "BellLand" "bells" "LBellLand$Bells;")) ∈ zG := zG_of (zt_1 (List.mem_of_getElem? (i := 233) (by decide +kernel))) (by decide +kernel)
theorem zw_241 : ((Jvm.Cond.fieldLink "BellLand" (30 : Nat) "BellLand" "air" "LBellLand$Air;")) ∈ zG := zG_of (zt_1 (List.mem_of_getElem? (i := 234) (by decide +kernel))) (by decide +kernel)
theorem zw_242 : ((Jvm.Cond.fieldLink "BellLand" (39 : Nat) "BellLand" "reports" "LBellLand$Reports;")) ∈ zG := zG_of (zt_1 (List.mem_of_getElem? (i := 235) (by decide +kernel))) (by decide +kernel)
theorem zw_246 : ((Jvm.Cond.fieldLink "BellLand" (68 : Nat) "BellLand" "sheets" "[LBellLand$Sheet;")) ∈ zG := zG_of (zt_1 (List.mem_of_getElem? (i := 239) (by decide +kernel))) (by decide +kernel)
theorem zw_247 : ((Jvm.Cond.fieldLink "BellLand" (73 : Nat) "BellLand" "fault" "I")) ∈ zG := zG_of (zt_2 (List.mem_of_getElem? (i := 0) (by decide +kernel))) (by decide +kernel)
theorem zw_268 : ((Jvm.Cond.superclass "BellLand" "java/lang/Object")) ∈ zG := zG_of (zt_2 (List.mem_of_getElem? (i := 21) (by decide +kernel))) (by decide +kernel)
theorem zw_269 : ((Jvm.Cond.methodLink "BellLandLaw" (63 : Nat) ({ cls := "BellLand", name := "land", desc := "(IIII)I" } : Jvm.MethodName))) ∈ zG := zG_of (zt_2 (List.mem_of_getElem? (i := 22) (by decide +kernel))) (by decide +kernel)
theorem zw_270 : ((Jvm.Cond.instanceMethod ({ cls := "BellLand", name := "land", desc := "(IIII)I" } : Jvm.MethodName))) ∈ zG := zG_of (zt_2 (List.mem_of_getElem? (i := 23) (by decide +kernel))) (by decide +kernel)
theorem zw_271 : ((Jvm.Cond.selects "BellLand" ({ cls := "BellLand", name := "land", desc := "(IIII)I" } : Jvm.MethodName) ({ cls := "BellLand", name := "land", desc := "(IIII)I" } : Jvm.MethodName))) ∈ zG := zG_of (zt_2 (List.mem_of_getElem? (i := 24) (by decide +kernel))) (by decide +kernel)
theorem zw_272 : ((Jvm.Cond.code ({ cls := "BellLand", name := "land", desc := "(IIII)I" } : Jvm.MethodName) prog_1_method_2_code (7 : Nat) (Option.some Jvm.ClassFile.FieldType.int))) ∈ zG := zG_of (zt_2 (List.mem_of_getElem? (i := 25) (by decide +kernel))) (by decide +kernel)
theorem zw_273 : ((Jvm.Cond.methodLink "BellLand" (77 : Nat) ({ cls := "BellLand", name := "isSheet", desc := "(I)Z" } : Jvm.MethodName))) ∈ zG := zG_of (zt_2 (List.mem_of_getElem? (i := 26) (by decide +kernel))) (by decide +kernel)
theorem zw_274 : ((Jvm.Cond.static ({ cls := "BellLand", name := "isSheet", desc := "(I)Z" } : Jvm.MethodName))) ∈ zG := zG_of (zt_2 (List.mem_of_getElem? (i := 27) (by decide +kernel))) (by decide +kernel)
theorem zw_275 : ((Jvm.Cond.code ({ cls := "BellLand", name := "isSheet", desc := "(I)Z" } : Jvm.MethodName) prog_1_method_39_code (1 : Nat) (Option.some Jvm.ClassFile.FieldType.boolean))) ∈ zG := zG_of (zt_2 (List.mem_of_getElem? (i := 28) (by decide +kernel))) (by decide +kernel)
theorem zw_276 : ((Jvm.Cond.methodLink "BellLand" (81 : Nat) ({ cls := "BellLand", name := "isSort", desc := "(I)Z" } : Jvm.MethodName))) ∈ zG := zG_of (zt_2 (List.mem_of_getElem? (i := 29) (by decide +kernel))) (by decide +kernel)
theorem zw_277 : ((Jvm.Cond.static ({ cls := "BellLand", name := "isSort", desc := "(I)Z" } : Jvm.MethodName))) ∈ zG := zG_of (zt_2 (List.mem_of_getElem? (i := 30) (by decide +kernel))) (by decide +kernel)
theorem zw_278 : ((Jvm.Cond.code ({ cls := "BellLand", name := "isSort", desc := "(I)Z" } : Jvm.MethodName) prog_1_method_40_code (1 : Nat) (Option.some Jvm.ClassFile.FieldType.boolean))) ∈ zG := zG_of (zt_2 (List.mem_of_getElem? (i := 31) (by decide +kernel))) (by decide +kernel)
theorem zw_279 : ((Jvm.Cond.methodLink "BellLand" (84 : Nat) ({ cls := "BellLand$Sheet", name := "faultOfRow", desc := "(III)I" } : Jvm.MethodName))) ∈ zG := zG_of (zt_2 (List.mem_of_getElem? (i := 32) (by decide +kernel))) (by decide +kernel)
theorem zw_280 : ((Jvm.Cond.instanceMethod ({ cls := "BellLand$Sheet", name := "faultOfRow", desc := "(III)I" } : Jvm.MethodName))) ∈ zG := zG_of (zt_2 (List.mem_of_getElem? (i := 33) (by decide +kernel))) (by decide +kernel)
theorem zw_281 : ((Jvm.Cond.selects "BellLand$Sheet" ({ cls := "BellLand$Sheet", name := "faultOfRow", desc := "(III)I" } : Jvm.MethodName) ({ cls := "BellLand$Sheet", name := "faultOfRow", desc := "(III)I" } : Jvm.MethodName))) ∈ zG := zG_of (zt_2 (List.mem_of_getElem? (i := 34) (by decide +kernel))) (by decide +kernel)
theorem zw_282 : ((Jvm.Cond.code ({ cls := "BellLand$Sheet", name := "faultOfRow", desc := "(III)I" } : Jvm.MethodName) prog_8_method_7_code (5 : Nat) (Option.some Jvm.ClassFile.FieldType.int))) ∈ zG := zG_of (zt_2 (List.mem_of_getElem? (i := 35) (by decide +kernel))) (by decide +kernel)
theorem zw_283 : ((Jvm.Cond.methodLink "BellLand$Sheet" (32 : Nat) ({ cls := "BellLand$Sheet", name := "faultOfSort", desc := "(I)I" } : Jvm.MethodName))) ∈ zG := zG_of (zt_2 (List.mem_of_getElem? (i := 36) (by decide +kernel))) (by decide +kernel)
theorem zw_284 : ((Jvm.Cond.instanceMethod ({ cls := "BellLand$Sheet", name := "faultOfSort", desc := "(I)I" } : Jvm.MethodName))) ∈ zG := zG_of (zt_2 (List.mem_of_getElem? (i := 37) (by decide +kernel))) (by decide +kernel)
theorem zw_285 : ((Jvm.Cond.selects "BellLand$Sheet" ({ cls := "BellLand$Sheet", name := "faultOfSort", desc := "(I)I" } : Jvm.MethodName) ({ cls := "BellLand$Sheet", name := "faultOfSort", desc := "(I)I" } : Jvm.MethodName))) ∈ zG := zG_of (zt_2 (List.mem_of_getElem? (i := 38) (by decide +kernel))) (by decide +kernel)
theorem zw_286 : ((Jvm.Cond.code ({ cls := "BellLand$Sheet", name := "faultOfSort", desc := "(I)I" } : Jvm.MethodName) prog_8_method_6_code (2 : Nat) (Option.some Jvm.ClassFile.FieldType.int))) ∈ zG := zG_of (zt_2 (List.mem_of_getElem? (i := 39) (by decide +kernel))) (by decide +kernel)
theorem zw_287 : ((Jvm.Cond.methodLink "BellLand$Sheet" (36 : Nat) ({ cls := "BellLand$Sheet", name := "hasNumbers", desc := "(II)Z" } : Jvm.MethodName))) ∈ zG := zG_of (zt_2 (List.mem_of_getElem? (i := 40) (by decide +kernel))) (by decide +kernel)
theorem zw_288 : ((Jvm.Cond.instanceMethod ({ cls := "BellLand$Sheet", name := "hasNumbers", desc := "(II)Z" } : Jvm.MethodName))) ∈ zG := zG_of (zt_2 (List.mem_of_getElem? (i := 41) (by decide +kernel))) (by decide +kernel)
theorem zw_289 : ((Jvm.Cond.selects "BellLand$Sheet" ({ cls := "BellLand$Sheet", name := "hasNumbers", desc := "(II)Z" } : Jvm.MethodName) ({ cls := "BellLand$Sheet", name := "hasNumbers", desc := "(II)Z" } : Jvm.MethodName))) ∈ zG := zG_of (zt_2 (List.mem_of_getElem? (i := 42) (by decide +kernel))) (by decide +kernel)
theorem zw_290 : ((Jvm.Cond.code ({ cls := "BellLand$Sheet", name := "hasNumbers", desc := "(II)Z" } : Jvm.MethodName) prog_8_method_5_code (3 : Nat) (Option.some Jvm.ClassFile.FieldType.boolean))) ∈ zG := zG_of (zt_2 (List.mem_of_getElem? (i := 43) (by decide +kernel))) (by decide +kernel)
theorem zw_291 : ((Jvm.Cond.methodLink "BellLand" (92 : Nat) ({ cls := "BellLand$Ground", name := "firstFault", desc := "([III)I" } : Jvm.MethodName))) ∈ zG := zG_of (zt_2 (List.mem_of_getElem? (i := 44) (by decide +kernel))) (by decide +kernel)
theorem zw_292 : ((Jvm.Cond.instanceMethod ({ cls := "BellLand$Ground", name := "firstFault", desc := "([III)I" } : Jvm.MethodName))) ∈ zG := zG_of (zt_2 (List.mem_of_getElem? (i := 45) (by decide +kernel))) (by decide +kernel)
theorem zw_293 : ((Jvm.Cond.selects "BellLand$Ground" ({ cls := "BellLand$Ground", name := "firstFault", desc := "([III)I" } : Jvm.MethodName) ({ cls := "BellLand$Ground", name := "firstFault", desc := "([III)I" } : Jvm.MethodName))) ∈ zG := zG_of (zt_2 (List.mem_of_getElem? (i := 46) (by decide +kernel))) (by decide +kernel)
theorem zw_294 : ((Jvm.Cond.code ({ cls := "BellLand$Ground", name := "firstFault", desc := "([III)I" } : Jvm.MethodName) prog_5_method_2_code (10 : Nat) (Option.some Jvm.ClassFile.FieldType.int))) ∈ zG := zG_of (zt_2 (List.mem_of_getElem? (i := 47) (by decide +kernel))) (by decide +kernel)
theorem zw_295 : ((Jvm.Cond.methodLink "BellLand" (96 : Nat) ({ cls := "BellLand$Ground", name := "take", desc := "([II)V" } : Jvm.MethodName))) ∈ zG := zG_of (zt_2 (List.mem_of_getElem? (i := 48) (by decide +kernel))) (by decide +kernel)
theorem zw_296 : ((Jvm.Cond.instanceMethod ({ cls := "BellLand$Ground", name := "take", desc := "([II)V" } : Jvm.MethodName))) ∈ zG := zG_of (zt_2 (List.mem_of_getElem? (i := 49) (by decide +kernel))) (by decide +kernel)
theorem zw_297 : ((Jvm.Cond.selects "BellLand$Ground" ({ cls := "BellLand$Ground", name := "take", desc := "([II)V" } : Jvm.MethodName) ({ cls := "BellLand$Ground", name := "take", desc := "([II)V" } : Jvm.MethodName))) ∈ zG := zG_of (zt_2 (List.mem_of_getElem? (i := 50) (by decide +kernel))) (by decide +kernel)
theorem zw_298 : ((Jvm.Cond.code ({ cls := "BellLand$Ground", name := "take", desc := "([II)V" } : Jvm.MethodName) prog_5_method_3_code (7 : Nat) (Option.none : Option Jvm.ClassFile.FieldType))) ∈ zG := zG_of (zt_2 (List.mem_of_getElem? (i := 51) (by decide +kernel))) (by decide +kernel)
theorem zw_299 : ((Jvm.Cond.methodLink "BellLand$Ground" (37 : Nat) ({ cls := "java/util/Arrays", name := "fill", desc := "([II)V" } : Jvm.MethodName))) ∈ zG := zG_of (zt_2 (List.mem_of_getElem? (i := 52) (by decide +kernel))) (by decide +kernel)
theorem zw_300 : ((Jvm.Cond.static ({ cls := "java/util/Arrays", name := "fill", desc := "([II)V" } : Jvm.MethodName))) ∈ zG := zG_of (zt_2 (List.mem_of_getElem? (i := 53) (by decide +kernel))) (by decide +kernel)
theorem zw_301 : ((Jvm.Cond.code ({ cls := "java/util/Arrays", name := "fill", desc := "([II)V" } : Jvm.MethodName) prog_14_method_103_code (4 : Nat) (Option.none : Option Jvm.ClassFile.FieldType))) ∈ zG := zG_of (zt_2 (List.mem_of_getElem? (i := 54) (by decide +kernel))) (by decide +kernel)
theorem zw_302 : ((Jvm.Cond.methodLink "BellLandLaw" (86 : Nat) ({ cls := "BellLand", name := "ofBell", desc := "(II)I" } : Jvm.MethodName))) ∈ zG := zG_of (zt_2 (List.mem_of_getElem? (i := 55) (by decide +kernel))) (by decide +kernel)
theorem zw_303 : ((Jvm.Cond.instanceMethod ({ cls := "BellLand", name := "ofBell", desc := "(II)I" } : Jvm.MethodName))) ∈ zG := zG_of (zt_2 (List.mem_of_getElem? (i := 56) (by decide +kernel))) (by decide +kernel)
theorem zw_304 : ((Jvm.Cond.selects "BellLand" ({ cls := "BellLand", name := "ofBell", desc := "(II)I" } : Jvm.MethodName) ({ cls := "BellLand", name := "ofBell", desc := "(II)I" } : Jvm.MethodName))) ∈ zG := zG_of (zt_2 (List.mem_of_getElem? (i := 57) (by decide +kernel))) (by decide +kernel)
theorem zw_305 : ((Jvm.Cond.code ({ cls := "BellLand", name := "ofBell", desc := "(II)I" } : Jvm.MethodName) prog_1_method_7_code (3 : Nat) (Option.some Jvm.ClassFile.FieldType.int))) ∈ zG := zG_of (zt_2 (List.mem_of_getElem? (i := 58) (by decide +kernel))) (by decide +kernel)
theorem zw_306 : ((Jvm.Cond.methodLink "BellLand" (145 : Nat) ({ cls := "BellLand", name := "isBell", desc := "(I)Z" } : Jvm.MethodName))) ∈ zG := zG_of (zt_2 (List.mem_of_getElem? (i := 59) (by decide +kernel))) (by decide +kernel)
theorem zw_308 : ((Jvm.Cond.instanceMethod ({ cls := "BellLand", name := "isBell", desc := "(I)Z" } : Jvm.MethodName))) ∈ zG := zG_of (zt_2 (List.mem_of_getElem? (i := 61) (by decide +kernel))) (by decide +kernel)
theorem zw_309 : ((Jvm.Cond.code ({ cls := "BellLand", name := "isBell", desc := "(I)Z" } : Jvm.MethodName) prog_1_method_38_code (2 : Nat) (Option.some Jvm.ClassFile.FieldType.boolean))) ∈ zG := zG_of (zt_2 (List.mem_of_getElem? (i := 62) (by decide +kernel))) (by decide +kernel)
theorem zw_310 : ((Jvm.Cond.methodLink "BellLandLaw" (71 : Nat) ({ cls := "BellLand", name := "loud", desc := "(IIII)J" } : Jvm.MethodName))) ∈ zG := zG_of (zt_2 (List.mem_of_getElem? (i := 63) (by decide +kernel))) (by decide +kernel)
theorem zw_311 : ((Jvm.Cond.instanceMethod ({ cls := "BellLand", name := "loud", desc := "(IIII)J" } : Jvm.MethodName))) ∈ zG := zG_of (zt_2 (List.mem_of_getElem? (i := 64) (by decide +kernel))) (by decide +kernel)
theorem zw_312 : ((Jvm.Cond.selects "BellLand" ({ cls := "BellLand", name := "loud", desc := "(IIII)J" } : Jvm.MethodName) ({ cls := "BellLand", name := "loud", desc := "(IIII)J" } : Jvm.MethodName))) ∈ zG := zG_of (zt_2 (List.mem_of_getElem? (i := 65) (by decide +kernel))) (by decide +kernel)
theorem zw_313 : ((Jvm.Cond.code ({ cls := "BellLand", name := "loud", desc := "(IIII)J" } : Jvm.MethodName) prog_1_method_9_code (5 : Nat) (Option.some Jvm.ClassFile.FieldType.long))) ∈ zG := zG_of (zt_2 (List.mem_of_getElem? (i := 66) (by decide +kernel))) (by decide +kernel)
theorem zw_314 : ((Jvm.Cond.methodLink "BellLand" (110 : Nat) ({ cls := "BellLand", name := "isCell", desc := "(I)Z" } : Jvm.MethodName))) ∈ zG := zG_of (zt_2 (List.mem_of_getElem? (i := 67) (by decide +kernel))) (by decide +kernel)
theorem zw_316 : ((Jvm.Cond.instanceMethod ({ cls := "BellLand", name := "isCell", desc := "(I)Z" } : Jvm.MethodName))) ∈ zG := zG_of (zt_2 (List.mem_of_getElem? (i := 69) (by decide +kernel))) (by decide +kernel)
theorem zw_317 : ((Jvm.Cond.code ({ cls := "BellLand", name := "isCell", desc := "(I)Z" } : Jvm.MethodName) prog_1_method_37_code (2 : Nat) (Option.some Jvm.ClassFile.FieldType.boolean))) ∈ zG := zG_of (zt_2 (List.mem_of_getElem? (i := 70) (by decide +kernel))) (by decide +kernel)
theorem zw_318 : ((Jvm.Cond.methodLink "BellLand" (157 : Nat) ({ cls := "BellLand", name := "isWind", desc := "(I)Z" } : Jvm.MethodName))) ∈ zG := zG_of (zt_2 (List.mem_of_getElem? (i := 71) (by decide +kernel))) (by decide +kernel)
theorem zw_319 : ((Jvm.Cond.static ({ cls := "BellLand", name := "isWind", desc := "(I)Z" } : Jvm.MethodName))) ∈ zG := zG_of (zt_2 (List.mem_of_getElem? (i := 72) (by decide +kernel))) (by decide +kernel)
theorem zw_320 : ((Jvm.Cond.code ({ cls := "BellLand", name := "isWind", desc := "(I)Z" } : Jvm.MethodName) prog_1_method_43_code (1 : Nat) (Option.some Jvm.ClassFile.FieldType.boolean))) ∈ zG := zG_of (zt_2 (List.mem_of_getElem? (i := 73) (by decide +kernel))) (by decide +kernel)
theorem zw_321 : ((Jvm.Cond.methodLink "BellLand" (160 : Nat) ({ cls := "BellLand", name := "isOneOfTwo", desc := "(I)Z" } : Jvm.MethodName))) ∈ zG := zG_of (zt_2 (List.mem_of_getElem? (i := 74) (by decide +kernel))) (by decide +kernel)
theorem zw_322 : ((Jvm.Cond.static ({ cls := "BellLand", name := "isOneOfTwo", desc := "(I)Z" } : Jvm.MethodName))) ∈ zG := zG_of (zt_2 (List.mem_of_getElem? (i := 75) (by decide +kernel))) (by decide +kernel)
theorem zw_323 : ((Jvm.Cond.code ({ cls := "BellLand", name := "isOneOfTwo", desc := "(I)Z" } : Jvm.MethodName) prog_1_method_44_code (1 : Nat) (Option.some Jvm.ClassFile.FieldType.boolean))) ∈ zG := zG_of (zt_2 (List.mem_of_getElem? (i := 76) (by decide +kernel))) (by decide +kernel)
theorem zw_324 : ((Jvm.Cond.constantLong "BellLand" (163 : Nat) (-9223372036854775808 : Int64))) ∈ zG := zG_of (zt_2 (List.mem_of_getElem? (i := 77) (by decide +kernel))) (by decide +kernel)
theorem zw_325 : ((Jvm.Cond.methodLink "BellLand" (165 : Nat) ({ cls := "BellLand$Air", name := "unitBy", desc := "(III)J" } : Jvm.MethodName))) ∈ zG := zG_of (zt_2 (List.mem_of_getElem? (i := 78) (by decide +kernel))) (by decide +kernel)
theorem zw_326 : ((Jvm.Cond.instanceMethod ({ cls := "BellLand$Air", name := "unitBy", desc := "(III)J" } : Jvm.MethodName))) ∈ zG := zG_of (zt_2 (List.mem_of_getElem? (i := 79) (by decide +kernel))) (by decide +kernel)
theorem zw_327 : ((Jvm.Cond.selects "BellLand$Air" ({ cls := "BellLand$Air", name := "unitBy", desc := "(III)J" } : Jvm.MethodName) ({ cls := "BellLand$Air", name := "unitBy", desc := "(III)J" } : Jvm.MethodName))) ∈ zG := zG_of (zt_2 (List.mem_of_getElem? (i := 80) (by decide +kernel))) (by decide +kernel)
theorem zw_328 : ((Jvm.Cond.code ({ cls := "BellLand$Air", name := "unitBy", desc := "(III)J" } : Jvm.MethodName) prog_2_method_8_code (4 : Nat) (Option.some Jvm.ClassFile.FieldType.long))) ∈ zG := zG_of (zt_2 (List.mem_of_getElem? (i := 81) (by decide +kernel))) (by decide +kernel)
theorem zw_329 : ((Jvm.Cond.methodLink "BellLand$Air" (91 : Nat) ({ cls := "BellLand$Air", name := "blown", desc := "(JIII)J" } : Jvm.MethodName))) ∈ zG := zG_of (zt_2 (List.mem_of_getElem? (i := 82) (by decide +kernel))) (by decide +kernel)
theorem zw_331 : ((Jvm.Cond.instanceMethod ({ cls := "BellLand$Air", name := "blown", desc := "(JIII)J" } : Jvm.MethodName))) ∈ zG := zG_of (zt_2 (List.mem_of_getElem? (i := 84) (by decide +kernel))) (by decide +kernel)
theorem zw_332 : ((Jvm.Cond.code ({ cls := "BellLand$Air", name := "blown", desc := "(JIII)J" } : Jvm.MethodName) prog_2_method_7_code (8 : Nat) (Option.some Jvm.ClassFile.FieldType.long))) ∈ zG := zG_of (zt_2 (List.mem_of_getElem? (i := 85) (by decide +kernel))) (by decide +kernel)
theorem zw_333 : ((Jvm.Cond.methodLink "BellLand$Air" (84 : Nat) ({ cls := "BellLand$Ground", name := "downwind", desc := "(III)I" } : Jvm.MethodName))) ∈ zG := zG_of (zt_2 (List.mem_of_getElem? (i := 86) (by decide +kernel))) (by decide +kernel)
theorem zw_334 : ((Jvm.Cond.instanceMethod ({ cls := "BellLand$Ground", name := "downwind", desc := "(III)I" } : Jvm.MethodName))) ∈ zG := zG_of (zt_2 (List.mem_of_getElem? (i := 87) (by decide +kernel))) (by decide +kernel)
theorem zw_335 : ((Jvm.Cond.selects "BellLand$Ground" ({ cls := "BellLand$Ground", name := "downwind", desc := "(III)I" } : Jvm.MethodName) ({ cls := "BellLand$Ground", name := "downwind", desc := "(III)I" } : Jvm.MethodName))) ∈ zG := zG_of (zt_2 (List.mem_of_getElem? (i := 88) (by decide +kernel))) (by decide +kernel)
theorem zw_336 : ((Jvm.Cond.code ({ cls := "BellLand$Ground", name := "downwind", desc := "(III)I" } : Jvm.MethodName) prog_5_method_11_code (4 : Nat) (Option.some Jvm.ClassFile.FieldType.int))) ∈ zG := zG_of (zt_2 (List.mem_of_getElem? (i := 89) (by decide +kernel))) (by decide +kernel)
theorem zw_337 : ((Jvm.Cond.methodLink "BellLand$Air" (31 : Nat) ({ cls := "BellLand$Air", name := "strength", desc := "(I)I" } : Jvm.MethodName))) ∈ zG := zG_of (zt_2 (List.mem_of_getElem? (i := 90) (by decide +kernel))) (by decide +kernel)
theorem zw_338 : ((Jvm.Cond.static ({ cls := "BellLand$Air", name := "strength", desc := "(I)I" } : Jvm.MethodName))) ∈ zG := zG_of (zt_2 (List.mem_of_getElem? (i := 91) (by decide +kernel))) (by decide +kernel)
theorem zw_339 : ((Jvm.Cond.code ({ cls := "BellLand$Air", name := "strength", desc := "(I)I" } : Jvm.MethodName) prog_2_method_3_code (1 : Nat) (Option.some Jvm.ClassFile.FieldType.int))) ∈ zG := zG_of (zt_2 (List.mem_of_getElem? (i := 92) (by decide +kernel))) (by decide +kernel)
theorem zw_340 : ((Jvm.Cond.constantLong "BellLand$Air" (87 : Nat) (100 : Int64))) ∈ zG := zG_of (zt_2 (List.mem_of_getElem? (i := 93) (by decide +kernel))) (by decide +kernel)
theorem zw_341 : ((Jvm.Cond.constantLong "BellLand$Air" (89 : Nat) (10 : Int64))) ∈ zG := zG_of (zt_2 (List.mem_of_getElem? (i := 94) (by decide +kernel))) (by decide +kernel)
theorem zw_342 : ((Jvm.Cond.methodLink "BellLand" (169 : Nat) ({ cls := "BellLand$Air", name := "grainsOfOne", desc := "(I)J" } : Jvm.MethodName))) ∈ zG := zG_of (zt_2 (List.mem_of_getElem? (i := 95) (by decide +kernel))) (by decide +kernel)
theorem zw_343 : ((Jvm.Cond.static ({ cls := "BellLand$Air", name := "grainsOfOne", desc := "(I)J" } : Jvm.MethodName))) ∈ zG := zG_of (zt_2 (List.mem_of_getElem? (i := 96) (by decide +kernel))) (by decide +kernel)
theorem zw_344 : ((Jvm.Cond.code ({ cls := "BellLand$Air", name := "grainsOfOne", desc := "(I)J" } : Jvm.MethodName) prog_2_method_2_code (1 : Nat) (Option.some Jvm.ClassFile.FieldType.long))) ∈ zG := zG_of (zt_2 (List.mem_of_getElem? (i := 97) (by decide +kernel))) (by decide +kernel)
theorem zw_345 : ((Jvm.Cond.constantLong "BellLand$Air" (29 : Nat) (595799966361600 : Int64))) ∈ zG := zG_of (zt_2 (List.mem_of_getElem? (i := 98) (by decide +kernel))) (by decide +kernel)
theorem zw_346 : ((Jvm.Cond.methodLink "BellLand" (173 : Nat) ({ cls := "BellLand", name := "share", desc := "(JJI)J" } : Jvm.MethodName))) ∈ zG := zG_of (zt_2 (List.mem_of_getElem? (i := 99) (by decide +kernel))) (by decide +kernel)
theorem zw_347 : ((Jvm.Cond.static ({ cls := "BellLand", name := "share", desc := "(JJI)J" } : Jvm.MethodName))) ∈ zG := zG_of (zt_2 (List.mem_of_getElem? (i := 100) (by decide +kernel))) (by decide +kernel)
theorem zw_348 : ((Jvm.Cond.code ({ cls := "BellLand", name := "share", desc := "(JJI)J" } : Jvm.MethodName) prog_1_method_46_code (7 : Nat) (Option.some Jvm.ClassFile.FieldType.long))) ∈ zG := zG_of (zt_2 (List.mem_of_getElem? (i := 101) (by decide +kernel))) (by decide +kernel)
theorem zw_349 : ((Jvm.Cond.methodLink "BellLand" (306 : Nat) ({ cls := "BellLand", name := "greatestCommon", desc := "(JJ)J" } : Jvm.MethodName))) ∈ zG := zG_of (zt_2 (List.mem_of_getElem? (i := 102) (by decide +kernel))) (by decide +kernel)
theorem zw_350 : ((Jvm.Cond.static ({ cls := "BellLand", name := "greatestCommon", desc := "(JJ)J" } : Jvm.MethodName))) ∈ zG := zG_of (zt_2 (List.mem_of_getElem? (i := 103) (by decide +kernel))) (by decide +kernel)
theorem zw_351 : ((Jvm.Cond.code ({ cls := "BellLand", name := "greatestCommon", desc := "(JJ)J" } : Jvm.MethodName) prog_1_method_47_code (11 : Nat) (Option.some Jvm.ClassFile.FieldType.long))) ∈ zG := zG_of (zt_2 (List.mem_of_getElem? (i := 104) (by decide +kernel))) (by decide +kernel)
theorem zw_352 : ((Jvm.Cond.methodLink "BellLand" (310 : Nat) ({ cls := "java/lang/Math", name := "max", desc := "(JJ)J" } : Jvm.MethodName))) ∈ zG := zG_of (zt_2 (List.mem_of_getElem? (i := 105) (by decide +kernel))) (by decide +kernel)
theorem zw_353 : ((Jvm.Cond.static ({ cls := "java/lang/Math", name := "max", desc := "(JJ)J" } : Jvm.MethodName))) ∈ zG := zG_of (zt_2 (List.mem_of_getElem? (i := 106) (by decide +kernel))) (by decide +kernel)
theorem zw_354 : ((Jvm.Cond.code ({ cls := "java/lang/Math", name := "max", desc := "(JJ)J" } : Jvm.MethodName) prog_13_method_66_code (4 : Nat) (Option.some Jvm.ClassFile.FieldType.long))) ∈ zG := zG_of (zt_2 (List.mem_of_getElem? (i := 107) (by decide +kernel))) (by decide +kernel)
theorem zw_355 : ((Jvm.Cond.methodLink "BellLandLaw" (78 : Nat) ({ cls := "BellLand", name := "whose", desc := "(II)I" } : Jvm.MethodName))) ∈ zG := zG_of (zt_2 (List.mem_of_getElem? (i := 108) (by decide +kernel))) (by decide +kernel)
theorem zw_356 : ((Jvm.Cond.instanceMethod ({ cls := "BellLand", name := "whose", desc := "(II)I" } : Jvm.MethodName))) ∈ zG := zG_of (zt_2 (List.mem_of_getElem? (i := 109) (by decide +kernel))) (by decide +kernel)
theorem zw_357 : ((Jvm.Cond.selects "BellLand" ({ cls := "BellLand", name := "whose", desc := "(II)I" } : Jvm.MethodName) ({ cls := "BellLand", name := "whose", desc := "(II)I" } : Jvm.MethodName))) ∈ zG := zG_of (zt_2 (List.mem_of_getElem? (i := 110) (by decide +kernel))) (by decide +kernel)
theorem zw_358 : ((Jvm.Cond.code ({ cls := "BellLand", name := "whose", desc := "(II)I" } : Jvm.MethodName) prog_1_method_10_code (5 : Nat) (Option.some Jvm.ClassFile.FieldType.int))) ∈ zG := zG_of (zt_2 (List.mem_of_getElem? (i := 111) (by decide +kernel))) (by decide +kernel)
theorem zw_359 : ((Jvm.Cond.methodLink "BellLand" (177 : Nat) ({ cls := "BellLand$Air", name := "blow", desc := "(I)V" } : Jvm.MethodName))) ∈ zG := zG_of (zt_2 (List.mem_of_getElem? (i := 112) (by decide +kernel))) (by decide +kernel)
theorem zw_360 : ((Jvm.Cond.instanceMethod ({ cls := "BellLand$Air", name := "blow", desc := "(I)V" } : Jvm.MethodName))) ∈ zG := zG_of (zt_2 (List.mem_of_getElem? (i := 113) (by decide +kernel))) (by decide +kernel)
theorem zw_361 : ((Jvm.Cond.selects "BellLand$Air" ({ cls := "BellLand$Air", name := "blow", desc := "(I)V" } : Jvm.MethodName) ({ cls := "BellLand$Air", name := "blow", desc := "(I)V" } : Jvm.MethodName))) ∈ zG := zG_of (zt_2 (List.mem_of_getElem? (i := 114) (by decide +kernel))) (by decide +kernel)
theorem zw_362 : ((Jvm.Cond.code ({ cls := "BellLand$Air", name := "blow", desc := "(I)V" } : Jvm.MethodName) prog_2_method_9_code (4 : Nat) (Option.none : Option Jvm.ClassFile.FieldType))) ∈ zG := zG_of (zt_2 (List.mem_of_getElem? (i := 115) (by decide +kernel))) (by decide +kernel)
theorem zw_363 : ((Jvm.Cond.methodLink "BellLand$Air" (95 : Nat) ({ cls := "BellLand$Air", name := "unitBy", desc := "(III)J" } : Jvm.MethodName))) ∈ zG := zG_of (zt_2 (List.mem_of_getElem? (i := 116) (by decide +kernel))) (by decide +kernel)
theorem zw_364 : ((Jvm.Cond.constantLong "BellLand$Air" (80 : Nat) (59579996636160 : Int64))) ∈ zG := zG_of (zt_2 (List.mem_of_getElem? (i := 117) (by decide +kernel))) (by decide +kernel)
theorem zw_365 : ((Jvm.Cond.methodLink "BellLand" (180 : Nat) ({ cls := "BellLand$Air", name := "loudestIn", desc := "(I)I" } : Jvm.MethodName))) ∈ zG := zG_of (zt_2 (List.mem_of_getElem? (i := 118) (by decide +kernel))) (by decide +kernel)
theorem zw_366 : ((Jvm.Cond.instanceMethod ({ cls := "BellLand$Air", name := "loudestIn", desc := "(I)I" } : Jvm.MethodName))) ∈ zG := zG_of (zt_2 (List.mem_of_getElem? (i := 119) (by decide +kernel))) (by decide +kernel)
theorem zw_367 : ((Jvm.Cond.selects "BellLand$Air" ({ cls := "BellLand$Air", name := "loudestIn", desc := "(I)I" } : Jvm.MethodName) ({ cls := "BellLand$Air", name := "loudestIn", desc := "(I)I" } : Jvm.MethodName))) ∈ zG := zG_of (zt_2 (List.mem_of_getElem? (i := 120) (by decide +kernel))) (by decide +kernel)
theorem zw_368 : ((Jvm.Cond.code ({ cls := "BellLand$Air", name := "loudestIn", desc := "(I)I" } : Jvm.MethodName) prog_2_method_11_code (8 : Nat) (Option.some Jvm.ClassFile.FieldType.int))) ∈ zG := zG_of (zt_2 (List.mem_of_getElem? (i := 121) (by decide +kernel))) (by decide +kernel)
theorem zw_369 : ((Jvm.Cond.methodLink "BellLand$Air" (108 : Nat) ({ cls := "BellLand$Air", name := "loudness", desc := "(II)J" } : Jvm.MethodName))) ∈ zG := zG_of (zt_2 (List.mem_of_getElem? (i := 122) (by decide +kernel))) (by decide +kernel)
theorem zw_370 : ((Jvm.Cond.instanceMethod ({ cls := "BellLand$Air", name := "loudness", desc := "(II)J" } : Jvm.MethodName))) ∈ zG := zG_of (zt_2 (List.mem_of_getElem? (i := 123) (by decide +kernel))) (by decide +kernel)
theorem zw_371 : ((Jvm.Cond.selects "BellLand$Air" ({ cls := "BellLand$Air", name := "loudness", desc := "(II)J" } : Jvm.MethodName) ({ cls := "BellLand$Air", name := "loudness", desc := "(II)J" } : Jvm.MethodName))) ∈ zG := zG_of (zt_2 (List.mem_of_getElem? (i := 124) (by decide +kernel))) (by decide +kernel)
theorem zw_372 : ((Jvm.Cond.code ({ cls := "BellLand$Air", name := "loudness", desc := "(II)J" } : Jvm.MethodName) prog_2_method_10_code (3 : Nat) (Option.some Jvm.ClassFile.FieldType.long))) ∈ zG := zG_of (zt_2 (List.mem_of_getElem? (i := 125) (by decide +kernel))) (by decide +kernel)
theorem zw_373 : ((Jvm.Cond.methodLink "BellLandLaw" (80 : Nat) ({ cls := "BellLand", name := "reach", desc := "(II)I" } : Jvm.MethodName))) ∈ zG := zG_of (zt_2 (List.mem_of_getElem? (i := 126) (by decide +kernel))) (by decide +kernel)
theorem zw_374 : ((Jvm.Cond.instanceMethod ({ cls := "BellLand", name := "reach", desc := "(II)I" } : Jvm.MethodName))) ∈ zG := zG_of (zt_2 (List.mem_of_getElem? (i := 127) (by decide +kernel))) (by decide +kernel)
theorem zw_375 : ((Jvm.Cond.selects "BellLand" ({ cls := "BellLand", name := "reach", desc := "(II)I" } : Jvm.MethodName) ({ cls := "BellLand", name := "reach", desc := "(II)I" } : Jvm.MethodName))) ∈ zG := zG_of (zt_2 (List.mem_of_getElem? (i := 128) (by decide +kernel))) (by decide +kernel)
theorem zw_376 : ((Jvm.Cond.code ({ cls := "BellLand", name := "reach", desc := "(II)I" } : Jvm.MethodName) prog_1_method_11_code (5 : Nat) (Option.some Jvm.ClassFile.FieldType.int))) ∈ zG := zG_of (zt_2 (List.mem_of_getElem? (i := 129) (by decide +kernel))) (by decide +kernel)
theorem zw_377 : ((Jvm.Cond.methodLink "BellLandLaw" (94 : Nat) ({ cls := "BellLand", name := "tithes", desc := "(IIIIII)J" } : Jvm.MethodName))) ∈ zG := zG_of (zt_2 (List.mem_of_getElem? (i := 130) (by decide +kernel))) (by decide +kernel)
theorem zw_378 : ((Jvm.Cond.instanceMethod ({ cls := "BellLand", name := "tithes", desc := "(IIIIII)J" } : Jvm.MethodName))) ∈ zG := zG_of (zt_2 (List.mem_of_getElem? (i := 131) (by decide +kernel))) (by decide +kernel)
theorem zw_379 : ((Jvm.Cond.selects "BellLand" ({ cls := "BellLand", name := "tithes", desc := "(IIIIII)J" } : Jvm.MethodName) ({ cls := "BellLand", name := "tithes", desc := "(IIIIII)J" } : Jvm.MethodName))) ∈ zG := zG_of (zt_2 (List.mem_of_getElem? (i := 132) (by decide +kernel))) (by decide +kernel)
theorem zw_380 : ((Jvm.Cond.code ({ cls := "BellLand", name := "tithes", desc := "(IIIIII)J" } : Jvm.MethodName) prog_1_method_12_code (11 : Nat) (Option.some Jvm.ClassFile.FieldType.long))) ∈ zG := zG_of (zt_2 (List.mem_of_getElem? (i := 133) (by decide +kernel))) (by decide +kernel)
theorem zw_381 : ((Jvm.Cond.methodLink "BellLand" (183 : Nat) ({ cls := "BellLand", name := "partsOfTithe", desc := "(I)I" } : Jvm.MethodName))) ∈ zG := zG_of (zt_2 (List.mem_of_getElem? (i := 134) (by decide +kernel))) (by decide +kernel)
theorem zw_383 : ((Jvm.Cond.instanceMethod ({ cls := "BellLand", name := "partsOfTithe", desc := "(I)I" } : Jvm.MethodName))) ∈ zG := zG_of (zt_2 (List.mem_of_getElem? (i := 136) (by decide +kernel))) (by decide +kernel)
theorem zw_384 : ((Jvm.Cond.code ({ cls := "BellLand", name := "partsOfTithe", desc := "(I)I" } : Jvm.MethodName) prog_1_method_49_code (5 : Nat) (Option.some Jvm.ClassFile.FieldType.int))) ∈ zG := zG_of (zt_2 (List.mem_of_getElem? (i := 137) (by decide +kernel))) (by decide +kernel)
theorem zw_385 : ((Jvm.Cond.methodLink "BellLand" (116 : Nat) ({ cls := "BellLand$Ground", name := "titheOf", desc := "(I)I" } : Jvm.MethodName))) ∈ zG := zG_of (zt_2 (List.mem_of_getElem? (i := 138) (by decide +kernel))) (by decide +kernel)
theorem zw_386 : ((Jvm.Cond.instanceMethod ({ cls := "BellLand$Ground", name := "titheOf", desc := "(I)I" } : Jvm.MethodName))) ∈ zG := zG_of (zt_2 (List.mem_of_getElem? (i := 139) (by decide +kernel))) (by decide +kernel)
theorem zw_387 : ((Jvm.Cond.selects "BellLand$Ground" ({ cls := "BellLand$Ground", name := "titheOf", desc := "(I)I" } : Jvm.MethodName) ({ cls := "BellLand$Ground", name := "titheOf", desc := "(I)I" } : Jvm.MethodName))) ∈ zG := zG_of (zt_2 (List.mem_of_getElem? (i := 140) (by decide +kernel))) (by decide +kernel)
theorem zw_388 : ((Jvm.Cond.code ({ cls := "BellLand$Ground", name := "titheOf", desc := "(I)I" } : Jvm.MethodName) prog_5_method_5_code (2 : Nat) (Option.some Jvm.ClassFile.FieldType.int))) ∈ zG := zG_of (zt_2 (List.mem_of_getElem? (i := 141) (by decide +kernel))) (by decide +kernel)
theorem zw_389 : ((Jvm.Cond.methodLink "BellLand" (222 : Nat) ({ cls := "java/lang/Integer", name := "bitCount", desc := "(I)I" } : Jvm.MethodName))) ∈ zG := zG_of (zt_2 (List.mem_of_getElem? (i := 142) (by decide +kernel))) (by decide +kernel)
theorem zw_390 : ((Jvm.Cond.static ({ cls := "java/lang/Integer", name := "bitCount", desc := "(I)I" } : Jvm.MethodName))) ∈ zG := zG_of (zt_2 (List.mem_of_getElem? (i := 143) (by decide +kernel))) (by decide +kernel)
theorem zw_391 : ((Jvm.Cond.code ({ cls := "java/lang/Integer", name := "bitCount", desc := "(I)I" } : Jvm.MethodName) prog_12_method_49_code (1 : Nat) (Option.some Jvm.ClassFile.FieldType.int))) ∈ zG := zG_of (zt_2 (List.mem_of_getElem? (i := 144) (by decide +kernel))) (by decide +kernel)
theorem zw_392 : ((Jvm.Cond.constant "java/lang/Integer" (265 : Nat) (1431655765 : Int32))) ∈ zG := zG_of (zt_2 (List.mem_of_getElem? (i := 145) (by decide +kernel))) (by decide +kernel)
theorem zw_393 : ((Jvm.Cond.constant "java/lang/Integer" (266 : Nat) (858993459 : Int32))) ∈ zG := zG_of (zt_2 (List.mem_of_getElem? (i := 146) (by decide +kernel))) (by decide +kernel)
theorem zw_394 : ((Jvm.Cond.constant "java/lang/Integer" (267 : Nat) (252645135 : Int32))) ∈ zG := zG_of (zt_2 (List.mem_of_getElem? (i := 147) (by decide +kernel))) (by decide +kernel)
theorem zw_395 : ((Jvm.Cond.constantLong "BellLand" (186 : Nat) (60 : Int64))) ∈ zG := zG_of (zt_2 (List.mem_of_getElem? (i := 148) (by decide +kernel))) (by decide +kernel)
theorem zw_396 : ((Jvm.Cond.methodLink "BellLandLaw" (83 : Nat) ({ cls := "BellLand", name := "wins", desc := "(III)I" } : Jvm.MethodName))) ∈ zG := zG_of (zt_2 (List.mem_of_getElem? (i := 149) (by decide +kernel))) (by decide +kernel)
theorem zw_397 : ((Jvm.Cond.instanceMethod ({ cls := "BellLand", name := "wins", desc := "(III)I" } : Jvm.MethodName))) ∈ zG := zG_of (zt_2 (List.mem_of_getElem? (i := 150) (by decide +kernel))) (by decide +kernel)
theorem zw_398 : ((Jvm.Cond.selects "BellLand" ({ cls := "BellLand", name := "wins", desc := "(III)I" } : Jvm.MethodName) ({ cls := "BellLand", name := "wins", desc := "(III)I" } : Jvm.MethodName))) ∈ zG := zG_of (zt_2 (List.mem_of_getElem? (i := 151) (by decide +kernel))) (by decide +kernel)
theorem zw_399 : ((Jvm.Cond.code ({ cls := "BellLand", name := "wins", desc := "(III)I" } : Jvm.MethodName) prog_1_method_13_code (4 : Nat) (Option.some Jvm.ClassFile.FieldType.int))) ∈ zG := zG_of (zt_2 (List.mem_of_getElem? (i := 152) (by decide +kernel))) (by decide +kernel)
theorem zw_400 : ((Jvm.Cond.methodLink "BellLand" (188 : Nat) ({ cls := "BellLand$Air", name := "leastToOwn", desc := "(II)I" } : Jvm.MethodName))) ∈ zG := zG_of (zt_2 (List.mem_of_getElem? (i := 153) (by decide +kernel))) (by decide +kernel)
theorem zw_401 : ((Jvm.Cond.instanceMethod ({ cls := "BellLand$Air", name := "leastToOwn", desc := "(II)I" } : Jvm.MethodName))) ∈ zG := zG_of (zt_2 (List.mem_of_getElem? (i := 154) (by decide +kernel))) (by decide +kernel)
theorem zw_402 : ((Jvm.Cond.selects "BellLand$Air" ({ cls := "BellLand$Air", name := "leastToOwn", desc := "(II)I" } : Jvm.MethodName) ({ cls := "BellLand$Air", name := "leastToOwn", desc := "(II)I" } : Jvm.MethodName))) ∈ zG := zG_of (zt_2 (List.mem_of_getElem? (i := 155) (by decide +kernel))) (by decide +kernel)
theorem zw_403 : ((Jvm.Cond.code ({ cls := "BellLand$Air", name := "leastToOwn", desc := "(II)I" } : Jvm.MethodName) prog_2_method_18_code (8 : Nat) (Option.some Jvm.ClassFile.FieldType.int))) ∈ zG := zG_of (zt_2 (List.mem_of_getElem? (i := 156) (by decide +kernel))) (by decide +kernel)
theorem zw_404 : ((Jvm.Cond.methodLink "BellLand$Air" (118 : Nat) ({ cls := "BellLand$Air", name := "bar", desc := "([IIII)J" } : Jvm.MethodName))) ∈ zG := zG_of (zt_2 (List.mem_of_getElem? (i := 157) (by decide +kernel))) (by decide +kernel)
theorem zw_406 : ((Jvm.Cond.instanceMethod ({ cls := "BellLand$Air", name := "bar", desc := "([IIII)J" } : Jvm.MethodName))) ∈ zG := zG_of (zt_2 (List.mem_of_getElem? (i := 159) (by decide +kernel))) (by decide +kernel)
theorem zw_407 : ((Jvm.Cond.code ({ cls := "BellLand$Air", name := "bar", desc := "([IIII)J" } : Jvm.MethodName) prog_2_method_12_code (8 : Nat) (Option.some Jvm.ClassFile.FieldType.long))) ∈ zG := zG_of (zt_2 (List.mem_of_getElem? (i := 160) (by decide +kernel))) (by decide +kernel)
theorem zw_408 : ((Jvm.Cond.methodLink "BellLand$Air" (112 : Nat) ({ cls := "java/lang/Math", name := "max", desc := "(JJ)J" } : Jvm.MethodName))) ∈ zG := zG_of (zt_2 (List.mem_of_getElem? (i := 161) (by decide +kernel))) (by decide +kernel)
theorem zw_409 : ((Jvm.Cond.methodLink "BellLandLaw" (89 : Nat) ({ cls := "BellLand", name := "cheapest", desc := "(III)I" } : Jvm.MethodName))) ∈ zG := zG_of (zt_2 (List.mem_of_getElem? (i := 162) (by decide +kernel))) (by decide +kernel)
theorem zw_410 : ((Jvm.Cond.instanceMethod ({ cls := "BellLand", name := "cheapest", desc := "(III)I" } : Jvm.MethodName))) ∈ zG := zG_of (zt_2 (List.mem_of_getElem? (i := 163) (by decide +kernel))) (by decide +kernel)
theorem zw_411 : ((Jvm.Cond.selects "BellLand" ({ cls := "BellLand", name := "cheapest", desc := "(III)I" } : Jvm.MethodName) ({ cls := "BellLand", name := "cheapest", desc := "(III)I" } : Jvm.MethodName))) ∈ zG := zG_of (zt_2 (List.mem_of_getElem? (i := 164) (by decide +kernel))) (by decide +kernel)
theorem zw_412 : ((Jvm.Cond.code ({ cls := "BellLand", name := "cheapest", desc := "(III)I" } : Jvm.MethodName) prog_1_method_14_code (9 : Nat) (Option.some Jvm.ClassFile.FieldType.int))) ∈ zG := zG_of (zt_2 (List.mem_of_getElem? (i := 165) (by decide +kernel))) (by decide +kernel)
theorem zw_413 : ((Jvm.Cond.methodLink "BellLand" (192 : Nat) ({ cls := "java/lang/Math", name := "max", desc := "(II)I" } : Jvm.MethodName))) ∈ zG := zG_of (zt_2 (List.mem_of_getElem? (i := 166) (by decide +kernel))) (by decide +kernel)
theorem zw_414 : ((Jvm.Cond.static ({ cls := "java/lang/Math", name := "max", desc := "(II)I" } : Jvm.MethodName))) ∈ zG := zG_of (zt_2 (List.mem_of_getElem? (i := 167) (by decide +kernel))) (by decide +kernel)
theorem zw_415 : ((Jvm.Cond.code ({ cls := "java/lang/Math", name := "max", desc := "(II)I" } : Jvm.MethodName) prog_13_method_65_code (2 : Nat) (Option.some Jvm.ClassFile.FieldType.int))) ∈ zG := zG_of (zt_2 (List.mem_of_getElem? (i := 168) (by decide +kernel))) (by decide +kernel)
theorem zw_416 : ((Jvm.Cond.methodLink "BellLandLaw" (19 : Nat) ({ cls := "BellLand", name := "sheet", desc := "(III)I" } : Jvm.MethodName))) ∈ zG := zG_of (zt_2 (List.mem_of_getElem? (i := 169) (by decide +kernel))) (by decide +kernel)
theorem zw_417 : ((Jvm.Cond.instanceMethod ({ cls := "BellLand", name := "sheet", desc := "(III)I" } : Jvm.MethodName))) ∈ zG := zG_of (zt_2 (List.mem_of_getElem? (i := 170) (by decide +kernel))) (by decide +kernel)
theorem zw_418 : ((Jvm.Cond.selects "BellLand" ({ cls := "BellLand", name := "sheet", desc := "(III)I" } : Jvm.MethodName) ({ cls := "BellLand", name := "sheet", desc := "(III)I" } : Jvm.MethodName))) ∈ zG := zG_of (zt_2 (List.mem_of_getElem? (i := 171) (by decide +kernel))) (by decide +kernel)
theorem zw_419 : ((Jvm.Cond.code ({ cls := "BellLand", name := "sheet", desc := "(III)I" } : Jvm.MethodName) prog_1_method_26_code (4 : Nat) (Option.some Jvm.ClassFile.FieldType.int))) ∈ zG := zG_of (zt_2 (List.mem_of_getElem? (i := 172) (by decide +kernel))) (by decide +kernel)
theorem zw_420 : ((Jvm.Cond.methodLink "BellLand" (250 : Nat) ({ cls := "BellLand", name := "faulty", desc := "(I)I" } : Jvm.MethodName))) ∈ zG := zG_of (zt_2 (List.mem_of_getElem? (i := 173) (by decide +kernel))) (by decide +kernel)
theorem zw_422 : ((Jvm.Cond.instanceMethod ({ cls := "BellLand", name := "faulty", desc := "(I)I" } : Jvm.MethodName))) ∈ zG := zG_of (zt_2 (List.mem_of_getElem? (i := 175) (by decide +kernel))) (by decide +kernel)
theorem zw_423 : ((Jvm.Cond.code ({ cls := "BellLand", name := "faulty", desc := "(I)I" } : Jvm.MethodName) prog_1_method_45_code (2 : Nat) (Option.some Jvm.ClassFile.FieldType.int))) ∈ zG := zG_of (zt_2 (List.mem_of_getElem? (i := 176) (by decide +kernel))) (by decide +kernel)
theorem zw_424 : ((Jvm.Cond.methodLink "BellLand" (253 : Nat) ({ cls := "BellLand$Sheet", name := "renew", desc := "(II)V" } : Jvm.MethodName))) ∈ zG := zG_of (zt_2 (List.mem_of_getElem? (i := 177) (by decide +kernel))) (by decide +kernel)
theorem zw_425 : ((Jvm.Cond.instanceMethod ({ cls := "BellLand$Sheet", name := "renew", desc := "(II)V" } : Jvm.MethodName))) ∈ zG := zG_of (zt_2 (List.mem_of_getElem? (i := 178) (by decide +kernel))) (by decide +kernel)
theorem zw_426 : ((Jvm.Cond.selects "BellLand$Sheet" ({ cls := "BellLand$Sheet", name := "renew", desc := "(II)V" } : Jvm.MethodName) ({ cls := "BellLand$Sheet", name := "renew", desc := "(II)V" } : Jvm.MethodName))) ∈ zG := zG_of (zt_2 (List.mem_of_getElem? (i := 179) (by decide +kernel))) (by decide +kernel)
theorem zw_427 : ((Jvm.Cond.code ({ cls := "BellLand$Sheet", name := "renew", desc := "(II)V" } : Jvm.MethodName) prog_8_method_2_code (3 : Nat) (Option.none : Option Jvm.ClassFile.FieldType))) ∈ zG := zG_of (zt_2 (List.mem_of_getElem? (i := 180) (by decide +kernel))) (by decide +kernel)
theorem zw_428 : ((Jvm.Cond.methodLink "BellLand$Sheet" (26 : Nat) ({ cls := "java/util/Arrays", name := "fill", desc := "([II)V" } : Jvm.MethodName))) ∈ zG := zG_of (zt_2 (List.mem_of_getElem? (i := 181) (by decide +kernel))) (by decide +kernel)
theorem zw_429 : ((Jvm.Cond.methodLink "BellLandLaw" (25 : Nat) ({ cls := "BellLand", name := "put", desc := "(III)I" } : Jvm.MethodName))) ∈ zG := zG_of (zt_2 (List.mem_of_getElem? (i := 182) (by decide +kernel))) (by decide +kernel)
theorem zw_430 : ((Jvm.Cond.instanceMethod ({ cls := "BellLand", name := "put", desc := "(III)I" } : Jvm.MethodName))) ∈ zG := zG_of (zt_2 (List.mem_of_getElem? (i := 183) (by decide +kernel))) (by decide +kernel)
theorem zw_431 : ((Jvm.Cond.selects "BellLand" ({ cls := "BellLand", name := "put", desc := "(III)I" } : Jvm.MethodName) ({ cls := "BellLand", name := "put", desc := "(III)I" } : Jvm.MethodName))) ∈ zG := zG_of (zt_2 (List.mem_of_getElem? (i := 184) (by decide +kernel))) (by decide +kernel)
theorem zw_432 : ((Jvm.Cond.code ({ cls := "BellLand", name := "put", desc := "(III)I" } : Jvm.MethodName) prog_1_method_28_code (5 : Nat) (Option.some Jvm.ClassFile.FieldType.int))) ∈ zG := zG_of (zt_2 (List.mem_of_getElem? (i := 185) (by decide +kernel))) (by decide +kernel)
theorem zw_433 : ((Jvm.Cond.methodLink "BellLand" (261 : Nat) ({ cls := "BellLand$Sheet", name := "hasNumber", desc := "(I)Z" } : Jvm.MethodName))) ∈ zG := zG_of (zt_2 (List.mem_of_getElem? (i := 186) (by decide +kernel))) (by decide +kernel)
theorem zw_434 : ((Jvm.Cond.instanceMethod ({ cls := "BellLand$Sheet", name := "hasNumber", desc := "(I)Z" } : Jvm.MethodName))) ∈ zG := zG_of (zt_2 (List.mem_of_getElem? (i := 187) (by decide +kernel))) (by decide +kernel)
theorem zw_435 : ((Jvm.Cond.selects "BellLand$Sheet" ({ cls := "BellLand$Sheet", name := "hasNumber", desc := "(I)Z" } : Jvm.MethodName) ({ cls := "BellLand$Sheet", name := "hasNumber", desc := "(I)Z" } : Jvm.MethodName))) ∈ zG := zG_of (zt_2 (List.mem_of_getElem? (i := 188) (by decide +kernel))) (by decide +kernel)
theorem zw_436 : ((Jvm.Cond.code ({ cls := "BellLand$Sheet", name := "hasNumber", desc := "(I)Z" } : Jvm.MethodName) prog_8_method_4_code (2 : Nat) (Option.some Jvm.ClassFile.FieldType.boolean))) ∈ zG := zG_of (zt_2 (List.mem_of_getElem? (i := 189) (by decide +kernel))) (by decide +kernel)
theorem zw_437 : ((Jvm.Cond.methodLink "BellLand" (264 : Nat) ({ cls := "BellLand$Sheet", name := "cut", desc := "(I)I" } : Jvm.MethodName))) ∈ zG := zG_of (zt_2 (List.mem_of_getElem? (i := 190) (by decide +kernel))) (by decide +kernel)
theorem zw_438 : ((Jvm.Cond.instanceMethod ({ cls := "BellLand$Sheet", name := "cut", desc := "(I)I" } : Jvm.MethodName))) ∈ zG := zG_of (zt_2 (List.mem_of_getElem? (i := 191) (by decide +kernel))) (by decide +kernel)
theorem zw_439 : ((Jvm.Cond.selects "BellLand$Sheet" ({ cls := "BellLand$Sheet", name := "cut", desc := "(I)I" } : Jvm.MethodName) ({ cls := "BellLand$Sheet", name := "cut", desc := "(I)I" } : Jvm.MethodName))) ∈ zG := zG_of (zt_2 (List.mem_of_getElem? (i := 192) (by decide +kernel))) (by decide +kernel)
theorem zw_440 : ((Jvm.Cond.code ({ cls := "BellLand$Sheet", name := "cut", desc := "(I)I" } : Jvm.MethodName) prog_8_method_3_code (2 : Nat) (Option.some Jvm.ClassFile.FieldType.int))) ∈ zG := zG_of (zt_2 (List.mem_of_getElem? (i := 193) (by decide +kernel))) (by decide +kernel)
theorem zw_441 : ((Jvm.Cond.methodLink "BellLandLaw" (100 : Nat) ({ cls := "BellLand", name := "fault", desc := "()I" } : Jvm.MethodName))) ∈ zG := zG_of (zt_2 (List.mem_of_getElem? (i := 194) (by decide +kernel))) (by decide +kernel)
theorem zw_442 : ((Jvm.Cond.instanceMethod ({ cls := "BellLand", name := "fault", desc := "()I" } : Jvm.MethodName))) ∈ zG := zG_of (zt_2 (List.mem_of_getElem? (i := 195) (by decide +kernel))) (by decide +kernel)
theorem zw_443 : ((Jvm.Cond.selects "BellLand" ({ cls := "BellLand", name := "fault", desc := "()I" } : Jvm.MethodName) ({ cls := "BellLand", name := "fault", desc := "()I" } : Jvm.MethodName))) ∈ zG := zG_of (zt_2 (List.mem_of_getElem? (i := 196) (by decide +kernel))) (by decide +kernel)
theorem zw_444 : ((Jvm.Cond.code ({ cls := "BellLand", name := "fault", desc := "()I" } : Jvm.MethodName) prog_1_method_35_code (1 : Nat) (Option.some Jvm.ClassFile.FieldType.int))) ∈ zG := zG_of (zt_2 (List.mem_of_getElem? (i := 197) (by decide +kernel))) (by decide +kernel)
theorem zw_445 : ((Jvm.Cond.methodLink "BellLandLaw" (9 : Nat) ({ cls := "BellLandLaw", name := "cell", desc := "([II)I" } : Jvm.MethodName))) ∈ zG := zG_of (zt_2 (List.mem_of_getElem? (i := 198) (by decide +kernel))) (by decide +kernel)
theorem zw_446 : ((Jvm.Cond.static ({ cls := "BellLandLaw", name := "cell", desc := "([II)I" } : Jvm.MethodName))) ∈ zG := zG_of (zt_2 (List.mem_of_getElem? (i := 199) (by decide +kernel))) (by decide +kernel)
theorem zw_447 : ((Jvm.Cond.code ({ cls := "BellLandLaw", name := "cell", desc := "([II)I" } : Jvm.MethodName) method_2_code (2 : Nat) (Option.some Jvm.ClassFile.FieldType.int))) ∈ zG := zG_of (zt_2 (List.mem_of_getElem? (i := 200) (by decide +kernel))) (by decide +kernel)
theorem zw_448 : ((Jvm.Cond.constant "BellLandLaw" (7 : Nat) (747796405 : Int32))) ∈ zG := zG_of (zt_2 (List.mem_of_getElem? (i := 201) (by decide +kernel))) (by decide +kernel)
theorem zw_449 : ((Jvm.Cond.methodLink "BellLandLaw" (15 : Nat) ({ cls := "BellLandLaw", name := "some", desc := "(II)I" } : Jvm.MethodName))) ∈ zG := zG_of (zt_2 (List.mem_of_getElem? (i := 202) (by decide +kernel))) (by decide +kernel)
theorem zw_450 : ((Jvm.Cond.static ({ cls := "BellLandLaw", name := "some", desc := "(II)I" } : Jvm.MethodName))) ∈ zG := zG_of (zt_2 (List.mem_of_getElem? (i := 203) (by decide +kernel))) (by decide +kernel)
theorem zw_451 : ((Jvm.Cond.code ({ cls := "BellLandLaw", name := "some", desc := "(II)I" } : Jvm.MethodName) method_3_code (2 : Nat) (Option.some Jvm.ClassFile.FieldType.int))) ∈ zG := zG_of (zt_2 (List.mem_of_getElem? (i := 204) (by decide +kernel))) (by decide +kernel)
theorem zw_452 : ((Jvm.Cond.constant "BellLandLaw" (8 : Nat) (2147483647 : Int32))) ∈ zG := zG_of (zt_2 (List.mem_of_getElem? (i := 205) (by decide +kernel))) (by decide +kernel)
theorem zw_453 : ((Jvm.Cond.methodLink "BellLandLaw" (60 : Nat) ({ cls := "BellLandLaw", name := "put", desc := "(LBellLand;[II[I)I" } : Jvm.MethodName))) ∈ zG := zG_of (zt_2 (List.mem_of_getElem? (i := 206) (by decide +kernel))) (by decide +kernel)
theorem zw_454 : ((Jvm.Cond.static ({ cls := "BellLandLaw", name := "put", desc := "(LBellLand;[II[I)I" } : Jvm.MethodName))) ∈ zG := zG_of (zt_2 (List.mem_of_getElem? (i := 207) (by decide +kernel))) (by decide +kernel)
theorem zw_455 : ((Jvm.Cond.code ({ cls := "BellLandLaw", name := "put", desc := "(LBellLand;[II[I)I" } : Jvm.MethodName) method_4_code (9 : Nat) (Option.some Jvm.ClassFile.FieldType.int))) ∈ zG := zG_of (zt_2 (List.mem_of_getElem? (i := 208) (by decide +kernel))) (by decide +kernel)
theorem zw_456 : ((Jvm.Cond.methodLink "BellLandLaw" (67 : Nat) ({ cls := "BellLandLaw", name := "come", desc := "(LBellLand;[III[I)Z" } : Jvm.MethodName))) ∈ zG := zG_of (zt_2 (List.mem_of_getElem? (i := 209) (by decide +kernel))) (by decide +kernel)
theorem zw_457 : ((Jvm.Cond.static ({ cls := "BellLandLaw", name := "come", desc := "(LBellLand;[III[I)Z" } : Jvm.MethodName))) ∈ zG := zG_of (zt_2 (List.mem_of_getElem? (i := 210) (by decide +kernel))) (by decide +kernel)
theorem zw_458 : ((Jvm.Cond.code ({ cls := "BellLandLaw", name := "come", desc := "(LBellLand;[III[I)Z" } : Jvm.MethodName) method_5_code (10 : Nat) (Option.some Jvm.ClassFile.FieldType.boolean))) ∈ zG := zG_of (zt_2 (List.mem_of_getElem? (i := 211) (by decide +kernel))) (by decide +kernel)
theorem zw_459 : ((Jvm.Cond.methodLink "BellLandLaw" (28 : Nat) ({ cls := "BellLand", name := "bell", desc := "(III)I" } : Jvm.MethodName))) ∈ zG := zG_of (zt_2 (List.mem_of_getElem? (i := 212) (by decide +kernel))) (by decide +kernel)
theorem zw_460 : ((Jvm.Cond.instanceMethod ({ cls := "BellLand", name := "bell", desc := "(III)I" } : Jvm.MethodName))) ∈ zG := zG_of (zt_2 (List.mem_of_getElem? (i := 213) (by decide +kernel))) (by decide +kernel)
theorem zw_461 : ((Jvm.Cond.selects "BellLand" ({ cls := "BellLand", name := "bell", desc := "(III)I" } : Jvm.MethodName) ({ cls := "BellLand", name := "bell", desc := "(III)I" } : Jvm.MethodName))) ∈ zG := zG_of (zt_2 (List.mem_of_getElem? (i := 214) (by decide +kernel))) (by decide +kernel)
theorem zw_462 : ((Jvm.Cond.code ({ cls := "BellLand", name := "bell", desc := "(III)I" } : Jvm.MethodName) prog_1_method_6_code (5 : Nat) (Option.some Jvm.ClassFile.FieldType.int))) ∈ zG := zG_of (zt_2 (List.mem_of_getElem? (i := 215) (by decide +kernel))) (by decide +kernel)
theorem zw_463 : ((Jvm.Cond.methodLink "BellLand" (132 : Nat) ({ cls := "BellLand", name := "isKind", desc := "(I)Z" } : Jvm.MethodName))) ∈ zG := zG_of (zt_2 (List.mem_of_getElem? (i := 216) (by decide +kernel))) (by decide +kernel)
theorem zw_464 : ((Jvm.Cond.static ({ cls := "BellLand", name := "isKind", desc := "(I)Z" } : Jvm.MethodName))) ∈ zG := zG_of (zt_2 (List.mem_of_getElem? (i := 217) (by decide +kernel))) (by decide +kernel)
theorem zw_465 : ((Jvm.Cond.code ({ cls := "BellLand", name := "isKind", desc := "(I)Z" } : Jvm.MethodName) prog_1_method_41_code (1 : Nat) (Option.some Jvm.ClassFile.FieldType.boolean))) ∈ zG := zG_of (zt_2 (List.mem_of_getElem? (i := 218) (by decide +kernel))) (by decide +kernel)
theorem zw_466 : ((Jvm.Cond.methodLink "BellLand" (135 : Nat) ({ cls := "BellLand", name := "isWeight", desc := "(I)Z" } : Jvm.MethodName))) ∈ zG := zG_of (zt_2 (List.mem_of_getElem? (i := 219) (by decide +kernel))) (by decide +kernel)
theorem zw_467 : ((Jvm.Cond.static ({ cls := "BellLand", name := "isWeight", desc := "(I)Z" } : Jvm.MethodName))) ∈ zG := zG_of (zt_2 (List.mem_of_getElem? (i := 220) (by decide +kernel))) (by decide +kernel)
theorem zw_468 : ((Jvm.Cond.code ({ cls := "BellLand", name := "isWeight", desc := "(I)Z" } : Jvm.MethodName) prog_1_method_42_code (1 : Nat) (Option.some Jvm.ClassFile.FieldType.boolean))) ∈ zG := zG_of (zt_2 (List.mem_of_getElem? (i := 221) (by decide +kernel))) (by decide +kernel)
theorem zw_469 : ((Jvm.Cond.methodLink "BellLand" (138 : Nat) ({ cls := "BellLand$Bells", name := "add", desc := "(III)I" } : Jvm.MethodName))) ∈ zG := zG_of (zt_2 (List.mem_of_getElem? (i := 222) (by decide +kernel))) (by decide +kernel)
theorem zw_470 : ((Jvm.Cond.instanceMethod ({ cls := "BellLand$Bells", name := "add", desc := "(III)I" } : Jvm.MethodName))) ∈ zG := zG_of (zt_2 (List.mem_of_getElem? (i := 223) (by decide +kernel))) (by decide +kernel)
theorem zw_471 : ((Jvm.Cond.selects "BellLand$Bells" ({ cls := "BellLand$Bells", name := "add", desc := "(III)I" } : Jvm.MethodName) ({ cls := "BellLand$Bells", name := "add", desc := "(III)I" } : Jvm.MethodName))) ∈ zG := zG_of (zt_2 (List.mem_of_getElem? (i := 224) (by decide +kernel))) (by decide +kernel)
theorem zw_472 : ((Jvm.Cond.code ({ cls := "BellLand$Bells", name := "add", desc := "(III)I" } : Jvm.MethodName) prog_3_method_2_code (5 : Nat) (Option.some Jvm.ClassFile.FieldType.int))) ∈ zG := zG_of (zt_2 (List.mem_of_getElem? (i := 225) (by decide +kernel))) (by decide +kernel)
theorem zw_473 : ((Jvm.Cond.methodLink "BellLand" (141 : Nat) ({ cls := "BellLand$Air", name := "carry", desc := "(I)V" } : Jvm.MethodName))) ∈ zG := zG_of (zt_2 (List.mem_of_getElem? (i := 226) (by decide +kernel))) (by decide +kernel)
theorem zw_474 : ((Jvm.Cond.instanceMethod ({ cls := "BellLand$Air", name := "carry", desc := "(I)V" } : Jvm.MethodName))) ∈ zG := zG_of (zt_2 (List.mem_of_getElem? (i := 227) (by decide +kernel))) (by decide +kernel)
theorem zw_475 : ((Jvm.Cond.selects "BellLand$Air" ({ cls := "BellLand$Air", name := "carry", desc := "(I)V" } : Jvm.MethodName) ({ cls := "BellLand$Air", name := "carry", desc := "(I)V" } : Jvm.MethodName))) ∈ zG := zG_of (zt_2 (List.mem_of_getElem? (i := 228) (by decide +kernel))) (by decide +kernel)
theorem zw_476 : ((Jvm.Cond.code ({ cls := "BellLand$Air", name := "carry", desc := "(I)V" } : Jvm.MethodName) prog_2_method_4_code (3 : Nat) (Option.none : Option Jvm.ClassFile.FieldType))) ∈ zG := zG_of (zt_2 (List.mem_of_getElem? (i := 229) (by decide +kernel))) (by decide +kernel)
theorem zw_477 : ((Jvm.Cond.methodLink "BellLand$Air" (50 : Nat) ({ cls := "BellLand$Air", name := "calmUnit", desc := "(III)J" } : Jvm.MethodName))) ∈ zG := zG_of (zt_2 (List.mem_of_getElem? (i := 230) (by decide +kernel))) (by decide +kernel)
theorem zw_479 : ((Jvm.Cond.instanceMethod ({ cls := "BellLand$Air", name := "calmUnit", desc := "(III)J" } : Jvm.MethodName))) ∈ zG := zG_of (zt_2 (List.mem_of_getElem? (i := 232) (by decide +kernel))) (by decide +kernel)
theorem zw_480 : ((Jvm.Cond.code ({ cls := "BellLand$Air", name := "calmUnit", desc := "(III)J" } : Jvm.MethodName) prog_2_method_6_code (9 : Nat) (Option.some Jvm.ClassFile.FieldType.long))) ∈ zG := zG_of (zt_2 (List.mem_of_getElem? (i := 233) (by decide +kernel))) (by decide +kernel)
theorem zw_481 : ((Jvm.Cond.methodLink "BellLand$Air" (61 : Nat) ({ cls := "BellLand$Ground", name := "between", desc := "(II)I" } : Jvm.MethodName))) ∈ zG := zG_of (zt_2 (List.mem_of_getElem? (i := 234) (by decide +kernel))) (by decide +kernel)
theorem zw_482 : ((Jvm.Cond.instanceMethod ({ cls := "BellLand$Ground", name := "between", desc := "(II)I" } : Jvm.MethodName))) ∈ zG := zG_of (zt_2 (List.mem_of_getElem? (i := 235) (by decide +kernel))) (by decide +kernel)
theorem zw_483 : ((Jvm.Cond.selects "BellLand$Ground" ({ cls := "BellLand$Ground", name := "between", desc := "(II)I" } : Jvm.MethodName) ({ cls := "BellLand$Ground", name := "between", desc := "(II)I" } : Jvm.MethodName))) ∈ zG := zG_of (zt_2 (List.mem_of_getElem? (i := 236) (by decide +kernel))) (by decide +kernel)
theorem zw_484 : ((Jvm.Cond.code ({ cls := "BellLand$Ground", name := "between", desc := "(II)I" } : Jvm.MethodName) prog_5_method_8_code (10 : Nat) (Option.some Jvm.ClassFile.FieldType.int))) ∈ zG := zG_of (zt_2 (List.mem_of_getElem? (i := 237) (by decide +kernel))) (by decide +kernel)
theorem zw_485 : ((Jvm.Cond.methodLink "BellLand$Ground" (47 : Nat) ({ cls := "java/lang/Math", name := "abs", desc := "(I)I" } : Jvm.MethodName))) ∈ zG := zG_of (zt_2 (List.mem_of_getElem? (i := 238) (by decide +kernel))) (by decide +kernel)
theorem zw_486 : ((Jvm.Cond.static ({ cls := "java/lang/Math", name := "abs", desc := "(I)I" } : Jvm.MethodName))) ∈ zG := zG_of (zt_2 (List.mem_of_getElem? (i := 239) (by decide +kernel))) (by decide +kernel)
theorem zw_487 : ((Jvm.Cond.code ({ cls := "java/lang/Math", name := "abs", desc := "(I)I" } : Jvm.MethodName) prog_13_method_59_code (1 : Nat) (Option.some Jvm.ClassFile.FieldType.int))) ∈ zG := zG_of (zt_3 (List.mem_of_getElem? (i := 0) (by decide +kernel))) (by decide +kernel)
theorem zw_488 : ((Jvm.Cond.methodLink "BellLand$Ground" (52 : Nat) ({ cls := "java/lang/Math", name := "max", desc := "(II)I" } : Jvm.MethodName))) ∈ zG := zG_of (zt_3 (List.mem_of_getElem? (i := 1) (by decide +kernel))) (by decide +kernel)
theorem zw_489 : ((Jvm.Cond.methodLink "BellLand$Ground" (56 : Nat) ({ cls := "BellLand$Ground", name := "stepsOn", desc := "(III)I" } : Jvm.MethodName))) ∈ zG := zG_of (zt_3 (List.mem_of_getElem? (i := 2) (by decide +kernel))) (by decide +kernel)
theorem zw_490 : ((Jvm.Cond.static ({ cls := "BellLand$Ground", name := "stepsOn", desc := "(III)I" } : Jvm.MethodName))) ∈ zG := zG_of (zt_3 (List.mem_of_getElem? (i := 3) (by decide +kernel))) (by decide +kernel)
theorem zw_491 : ((Jvm.Cond.code ({ cls := "BellLand$Ground", name := "stepsOn", desc := "(III)I" } : Jvm.MethodName) prog_5_method_9_code (4 : Nat) (Option.some Jvm.ClassFile.FieldType.int))) ∈ zG := zG_of (zt_3 (List.mem_of_getElem? (i := 4) (by decide +kernel))) (by decide +kernel)
theorem zw_492 : ((Jvm.Cond.methodLink "BellLand$Air" (68 : Nat) ({ cls := "java/lang/Integer", name := "bitCount", desc := "(I)I" } : Jvm.MethodName))) ∈ zG := zG_of (zt_3 (List.mem_of_getElem? (i := 5) (by decide +kernel))) (by decide +kernel)
theorem zw_493 : ((Jvm.Cond.methodLink "BellLand$Air" (73 : Nat) ({ cls := "BellLand$Ground", name := "hillsOn", desc := "(III)I" } : Jvm.MethodName))) ∈ zG := zG_of (zt_3 (List.mem_of_getElem? (i := 6) (by decide +kernel))) (by decide +kernel)
theorem zw_494 : ((Jvm.Cond.instanceMethod ({ cls := "BellLand$Ground", name := "hillsOn", desc := "(III)I" } : Jvm.MethodName))) ∈ zG := zG_of (zt_3 (List.mem_of_getElem? (i := 7) (by decide +kernel))) (by decide +kernel)
theorem zw_495 : ((Jvm.Cond.selects "BellLand$Ground" ({ cls := "BellLand$Ground", name := "hillsOn", desc := "(III)I" } : Jvm.MethodName) ({ cls := "BellLand$Ground", name := "hillsOn", desc := "(III)I" } : Jvm.MethodName))) ∈ zG := zG_of (zt_3 (List.mem_of_getElem? (i := 8) (by decide +kernel))) (by decide +kernel)
theorem zw_496 : ((Jvm.Cond.code ({ cls := "BellLand$Ground", name := "hillsOn", desc := "(III)I" } : Jvm.MethodName) prog_5_method_10_code (4 : Nat) (Option.some Jvm.ClassFile.FieldType.int))) ∈ zG := zG_of (zt_3 (List.mem_of_getElem? (i := 9) (by decide +kernel))) (by decide +kernel)
theorem zw_497 : ((Jvm.Cond.methodLink "BellLand$Ground" (60 : Nat) ({ cls := "java/lang/Integer", name := "bitCount", desc := "(I)I" } : Jvm.MethodName))) ∈ zG := zG_of (zt_3 (List.mem_of_getElem? (i := 10) (by decide +kernel))) (by decide +kernel)
theorem zw_498 : ((Jvm.Cond.methodLink "BellLand$Air" (77 : Nat) ({ cls := "BellLand$Ground", name := "apart", desc := "(II)I" } : Jvm.MethodName))) ∈ zG := zG_of (zt_3 (List.mem_of_getElem? (i := 11) (by decide +kernel))) (by decide +kernel)
theorem zw_499 : ((Jvm.Cond.instanceMethod ({ cls := "BellLand$Ground", name := "apart", desc := "(II)I" } : Jvm.MethodName))) ∈ zG := zG_of (zt_3 (List.mem_of_getElem? (i := 12) (by decide +kernel))) (by decide +kernel)
theorem zw_500 : ((Jvm.Cond.selects "BellLand$Ground" ({ cls := "BellLand$Ground", name := "apart", desc := "(II)I" } : Jvm.MethodName) ({ cls := "BellLand$Ground", name := "apart", desc := "(II)I" } : Jvm.MethodName))) ∈ zG := zG_of (zt_3 (List.mem_of_getElem? (i := 13) (by decide +kernel))) (by decide +kernel)
theorem zw_501 : ((Jvm.Cond.code ({ cls := "BellLand$Ground", name := "apart", desc := "(II)I" } : Jvm.MethodName) prog_5_method_7_code (5 : Nat) (Option.some Jvm.ClassFile.FieldType.int))) ∈ zG := zG_of (zt_3 (List.mem_of_getElem? (i := 14) (by decide +kernel))) (by decide +kernel)
theorem zw_502 : ((Jvm.Cond.constantLong "BellLand$Air" (82 : Nat) (2 : Int64))) ∈ zG := zG_of (zt_3 (List.mem_of_getElem? (i := 15) (by decide +kernel))) (by decide +kernel)
theorem zw_503 : ((Jvm.Cond.methodLink "BellLandLaw" (31 : Nat) ({ cls := "BellLand", name := "plant", desc := "(IZ)I" } : Jvm.MethodName))) ∈ zG := zG_of (zt_3 (List.mem_of_getElem? (i := 16) (by decide +kernel))) (by decide +kernel)
theorem zw_504 : ((Jvm.Cond.instanceMethod ({ cls := "BellLand", name := "plant", desc := "(IZ)I" } : Jvm.MethodName))) ∈ zG := zG_of (zt_3 (List.mem_of_getElem? (i := 17) (by decide +kernel))) (by decide +kernel)
theorem zw_505 : ((Jvm.Cond.selects "BellLand" ({ cls := "BellLand", name := "plant", desc := "(IZ)I" } : Jvm.MethodName) ({ cls := "BellLand", name := "plant", desc := "(IZ)I" } : Jvm.MethodName))) ∈ zG := zG_of (zt_3 (List.mem_of_getElem? (i := 18) (by decide +kernel))) (by decide +kernel)
theorem zw_506 : ((Jvm.Cond.code ({ cls := "BellLand", name := "plant", desc := "(IZ)I" } : Jvm.MethodName) prog_1_method_4_code (3 : Nat) (Option.some Jvm.ClassFile.FieldType.int))) ∈ zG := zG_of (zt_3 (List.mem_of_getElem? (i := 19) (by decide +kernel))) (by decide +kernel)
theorem zw_507 : ((Jvm.Cond.methodLink "BellLand" (120 : Nat) ({ cls := "BellLand$Ground", name := "isPlanted", desc := "(I)Z" } : Jvm.MethodName))) ∈ zG := zG_of (zt_3 (List.mem_of_getElem? (i := 20) (by decide +kernel))) (by decide +kernel)
theorem zw_508 : ((Jvm.Cond.instanceMethod ({ cls := "BellLand$Ground", name := "isPlanted", desc := "(I)Z" } : Jvm.MethodName))) ∈ zG := zG_of (zt_3 (List.mem_of_getElem? (i := 21) (by decide +kernel))) (by decide +kernel)
theorem zw_509 : ((Jvm.Cond.selects "BellLand$Ground" ({ cls := "BellLand$Ground", name := "isPlanted", desc := "(I)Z" } : Jvm.MethodName) ({ cls := "BellLand$Ground", name := "isPlanted", desc := "(I)Z" } : Jvm.MethodName))) ∈ zG := zG_of (zt_3 (List.mem_of_getElem? (i := 22) (by decide +kernel))) (by decide +kernel)
theorem zw_510 : ((Jvm.Cond.code ({ cls := "BellLand$Ground", name := "isPlanted", desc := "(I)Z" } : Jvm.MethodName) prog_5_method_4_code (2 : Nat) (Option.some Jvm.ClassFile.FieldType.boolean))) ∈ zG := zG_of (zt_3 (List.mem_of_getElem? (i := 23) (by decide +kernel))) (by decide +kernel)
theorem zw_511 : ((Jvm.Cond.methodLink "BellLand" (129 : Nat) ({ cls := "BellLand$Air", name := "carryAll", desc := "()V" } : Jvm.MethodName))) ∈ zG := zG_of (zt_3 (List.mem_of_getElem? (i := 24) (by decide +kernel))) (by decide +kernel)
theorem zw_512 : ((Jvm.Cond.instanceMethod ({ cls := "BellLand$Air", name := "carryAll", desc := "()V" } : Jvm.MethodName))) ∈ zG := zG_of (zt_3 (List.mem_of_getElem? (i := 25) (by decide +kernel))) (by decide +kernel)
theorem zw_513 : ((Jvm.Cond.selects "BellLand$Air" ({ cls := "BellLand$Air", name := "carryAll", desc := "()V" } : Jvm.MethodName) ({ cls := "BellLand$Air", name := "carryAll", desc := "()V" } : Jvm.MethodName))) ∈ zG := zG_of (zt_3 (List.mem_of_getElem? (i := 26) (by decide +kernel))) (by decide +kernel)
theorem zw_514 : ((Jvm.Cond.code ({ cls := "BellLand$Air", name := "carryAll", desc := "()V" } : Jvm.MethodName) prog_2_method_5_code (2 : Nat) (Option.none : Option Jvm.ClassFile.FieldType))) ∈ zG := zG_of (zt_3 (List.mem_of_getElem? (i := 27) (by decide +kernel))) (by decide +kernel)
theorem zw_515 : ((Jvm.Cond.methodLink "BellLand$Air" (57 : Nat) ({ cls := "BellLand$Air", name := "carry", desc := "(I)V" } : Jvm.MethodName))) ∈ zG := zG_of (zt_3 (List.mem_of_getElem? (i := 28) (by decide +kernel))) (by decide +kernel)
theorem zw_516 : ((Jvm.Cond.methodLink "BellLandLaw" (35 : Nat) ({ cls := "BellLand", name := "ear", desc := "(I)I" } : Jvm.MethodName))) ∈ zG := zG_of (zt_3 (List.mem_of_getElem? (i := 29) (by decide +kernel))) (by decide +kernel)
theorem zw_517 : ((Jvm.Cond.instanceMethod ({ cls := "BellLand", name := "ear", desc := "(I)I" } : Jvm.MethodName))) ∈ zG := zG_of (zt_3 (List.mem_of_getElem? (i := 30) (by decide +kernel))) (by decide +kernel)
theorem zw_518 : ((Jvm.Cond.selects "BellLand" ({ cls := "BellLand", name := "ear", desc := "(I)I" } : Jvm.MethodName) ({ cls := "BellLand", name := "ear", desc := "(I)I" } : Jvm.MethodName))) ∈ zG := zG_of (zt_3 (List.mem_of_getElem? (i := 31) (by decide +kernel))) (by decide +kernel)
theorem zw_519 : ((Jvm.Cond.code ({ cls := "BellLand", name := "ear", desc := "(I)I" } : Jvm.MethodName) prog_1_method_5_code (3 : Nat) (Option.some Jvm.ClassFile.FieldType.int))) ∈ zG := zG_of (zt_3 (List.mem_of_getElem? (i := 32) (by decide +kernel))) (by decide +kernel)
theorem zw_520 : ((Jvm.Cond.methodLink "BellLandLaw" (47 : Nat) ({ cls := "BellLandLaw", name := "hear", desc := "([III[J)V" } : Jvm.MethodName))) ∈ zG := zG_of (zt_3 (List.mem_of_getElem? (i := 33) (by decide +kernel))) (by decide +kernel)
theorem zw_521 : ((Jvm.Cond.static ({ cls := "BellLandLaw", name := "hear", desc := "([III[J)V" } : Jvm.MethodName))) ∈ zG := zG_of (zt_3 (List.mem_of_getElem? (i := 34) (by decide +kernel))) (by decide +kernel)
theorem zw_522 : ((Jvm.Cond.code ({ cls := "BellLandLaw", name := "hear", desc := "([III[J)V" } : Jvm.MethodName) method_7_code (6 : Nat) (Option.none : Option Jvm.ClassFile.FieldType))) ∈ zG := zG_of (zt_3 (List.mem_of_getElem? (i := 35) (by decide +kernel))) (by decide +kernel)
theorem zw_523 : ((Jvm.Cond.methodLink "BellLandLaw" (43 : Nat) ({ cls := "BellLandLaw", name := "loud", desc := "([IIIIII[J)V" } : Jvm.MethodName))) ∈ zG := zG_of (zt_3 (List.mem_of_getElem? (i := 36) (by decide +kernel))) (by decide +kernel)
theorem zw_524 : ((Jvm.Cond.static ({ cls := "BellLandLaw", name := "loud", desc := "([IIIIII[J)V" } : Jvm.MethodName))) ∈ zG := zG_of (zt_3 (List.mem_of_getElem? (i := 37) (by decide +kernel))) (by decide +kernel)
theorem zw_525 : ((Jvm.Cond.code ({ cls := "BellLandLaw", name := "loud", desc := "([IIIIII[J)V" } : Jvm.MethodName) method_6_code (15 : Nat) (Option.none : Option Jvm.ClassFile.FieldType))) ∈ zG := zG_of (zt_3 (List.mem_of_getElem? (i := 38) (by decide +kernel))) (by decide +kernel)
theorem zw_526 : ((Jvm.Cond.constantLong "BellLandLaw" (39 : Nat) (2 : Int64))) ∈ zG := zG_of (zt_3 (List.mem_of_getElem? (i := 39) (by decide +kernel))) (by decide +kernel)
theorem zw_527 : ((Jvm.Cond.constantLong "BellLandLaw" (41 : Nat) (10 : Int64))) ∈ zG := zG_of (zt_3 (List.mem_of_getElem? (i := 40) (by decide +kernel))) (by decide +kernel)
theorem zw_528 : ((Jvm.Cond.methodLink "BellLandLaw" (51 : Nat) ({ cls := "BellLandLaw", name := "best", desc := "([I[J)I" } : Jvm.MethodName))) ∈ zG := zG_of (zt_3 (List.mem_of_getElem? (i := 41) (by decide +kernel))) (by decide +kernel)
theorem zw_529 : ((Jvm.Cond.static ({ cls := "BellLandLaw", name := "best", desc := "([I[J)I" } : Jvm.MethodName))) ∈ zG := zG_of (zt_3 (List.mem_of_getElem? (i := 42) (by decide +kernel))) (by decide +kernel)
theorem zw_530 : ((Jvm.Cond.code ({ cls := "BellLandLaw", name := "best", desc := "([I[J)I" } : Jvm.MethodName) method_8_code (6 : Nat) (Option.some Jvm.ClassFile.FieldType.int))) ∈ zG := zG_of (zt_3 (List.mem_of_getElem? (i := 43) (by decide +kernel))) (by decide +kernel)
theorem zw_531 : ((Jvm.Cond.methodLink "BellLandLaw" (55 : Nat) ({ cls := "BellLandLaw", name := "whose", desc := "([III)I" } : Jvm.MethodName))) ∈ zG := zG_of (zt_3 (List.mem_of_getElem? (i := 44) (by decide +kernel))) (by decide +kernel)
theorem zw_532 : ((Jvm.Cond.static ({ cls := "BellLandLaw", name := "whose", desc := "([III)I" } : Jvm.MethodName))) ∈ zG := zG_of (zt_3 (List.mem_of_getElem? (i := 45) (by decide +kernel))) (by decide +kernel)
theorem zw_533 : ((Jvm.Cond.code ({ cls := "BellLandLaw", name := "whose", desc := "([III)I" } : Jvm.MethodName) method_9_code (6 : Nat) (Option.some Jvm.ClassFile.FieldType.int))) ∈ zG := zG_of (zt_3 (List.mem_of_getElem? (i := 46) (by decide +kernel))) (by decide +kernel)
theorem zw_534 : ((Jvm.Cond.methodLink "BellLandLaw" (74 : Nat) ({ cls := "BellLandLaw", name := "isAlike", desc := "(JJJJ)Z" } : Jvm.MethodName))) ∈ zG := zG_of (zt_3 (List.mem_of_getElem? (i := 47) (by decide +kernel))) (by decide +kernel)
theorem zw_535 : ((Jvm.Cond.static ({ cls := "BellLandLaw", name := "isAlike", desc := "(JJJJ)Z" } : Jvm.MethodName))) ∈ zG := zG_of (zt_3 (List.mem_of_getElem? (i := 48) (by decide +kernel))) (by decide +kernel)
theorem zw_536 : ((Jvm.Cond.code ({ cls := "BellLandLaw", name := "isAlike", desc := "(JJJJ)Z" } : Jvm.MethodName) method_11_code (14 : Nat) (Option.some Jvm.ClassFile.FieldType.boolean))) ∈ zG := zG_of (zt_3 (List.mem_of_getElem? (i := 49) (by decide +kernel))) (by decide +kernel)
theorem zw_537 : ((Jvm.Cond.constantLong "BellLandLaw" (92 : Nat) (60 : Int64))) ∈ zG := zG_of (zt_3 (List.mem_of_getElem? (i := 50) (by decide +kernel))) (by decide +kernel)
theorem zw_538 : ((Jvm.Cond.constantLong "BellLandLaw" (98 : Nat) (-9223372036854775808 : Int64))) ∈ zG := zG_of (zt_3 (List.mem_of_getElem? (i := 51) (by decide +kernel))) (by decide +kernel)
set_option maxRecDepth 20000 in
theorem inG_X0 : ∀ w ∈ u_ws RX0 TX0 7, w ∈ zG := fun w h => zG_of ((by decide +kernel : ∀ w ∈ u_ws RX0 TX0 7, w ∈ lw_tbl) w h) ((by decide +kernel : ∀ w ∈ u_ws RX0 TX0 7, goodWord w = true) w h)
theorem inC_X0 {c : Cond} : ∀ w ∈ u_ws RX0 TX0 7, w ∈ c :: zG := fun w h => List.mem_cons_of_mem _ (inG_X0 w h)
set_option maxRecDepth 20000 in
theorem inG_X1 : ∀ w ∈ u_ws RX1 TX1 4, w ∈ zG := fun w h => zG_of ((by decide +kernel : ∀ w ∈ u_ws RX1 TX1 4, w ∈ lw_tbl) w h) ((by decide +kernel : ∀ w ∈ u_ws RX1 TX1 4, goodWord w = true) w h)
theorem inC_X1 {c : Cond} : ∀ w ∈ u_ws RX1 TX1 4, w ∈ c :: zG := fun w h => List.mem_cons_of_mem _ (inG_X1 w h)
set_option maxRecDepth 20000 in
theorem inG_X2 : ∀ w ∈ u_ws RX2 TX2 6, w ∈ zG := fun w h => zG_of ((by decide +kernel : ∀ w ∈ u_ws RX2 TX2 6, w ∈ lw_tbl) w h) ((by decide +kernel : ∀ w ∈ u_ws RX2 TX2 6, goodWord w = true) w h)
theorem inC_X2 {c : Cond} : ∀ w ∈ u_ws RX2 TX2 6, w ∈ c :: zG := fun w h => List.mem_cons_of_mem _ (inG_X2 w h)
set_option maxRecDepth 20000 in
theorem inG_X3 : ∀ w ∈ u_ws RX3 TX3 8, w ∈ zG := fun w h => zG_of ((by decide +kernel : ∀ w ∈ u_ws RX3 TX3 8, w ∈ lw_tbl) w h) ((by decide +kernel : ∀ w ∈ u_ws RX3 TX3 8, goodWord w = true) w h)
theorem inC_X3 {c : Cond} : ∀ w ∈ u_ws RX3 TX3 8, w ∈ c :: zG := fun w h => List.mem_cons_of_mem _ (inG_X3 w h)
set_option maxRecDepth 20000 in
theorem inG_X4 : ∀ w ∈ u_ws RX4 TX4 7, w ∈ zG := fun w h => zG_of ((by decide +kernel : ∀ w ∈ u_ws RX4 TX4 7, w ∈ lw_tbl) w h) ((by decide +kernel : ∀ w ∈ u_ws RX4 TX4 7, goodWord w = true) w h)
theorem inC_X4 {c : Cond} : ∀ w ∈ u_ws RX4 TX4 7, w ∈ c :: zG := fun w h => List.mem_cons_of_mem _ (inG_X4 w h)
set_option maxRecDepth 20000 in
theorem inG_X5 : ∀ w ∈ u_ws RX5 TX5 4, w ∈ zG := fun w h => zG_of ((by decide +kernel : ∀ w ∈ u_ws RX5 TX5 4, w ∈ lw_tbl) w h) ((by decide +kernel : ∀ w ∈ u_ws RX5 TX5 4, goodWord w = true) w h)
theorem inC_X5 {c : Cond} : ∀ w ∈ u_ws RX5 TX5 4, w ∈ c :: zG := fun w h => List.mem_cons_of_mem _ (inG_X5 w h)
set_option maxRecDepth 20000 in
theorem inG_X6 : ∀ w ∈ u_ws RX6 TX6 4, w ∈ zG := fun w h => zG_of ((by decide +kernel : ∀ w ∈ u_ws RX6 TX6 4, w ∈ lw_tbl) w h) ((by decide +kernel : ∀ w ∈ u_ws RX6 TX6 4, goodWord w = true) w h)
theorem inC_X6 {c : Cond} : ∀ w ∈ u_ws RX6 TX6 4, w ∈ c :: zG := fun w h => List.mem_cons_of_mem _ (inG_X6 w h)
set_option maxRecDepth 20000 in
theorem inG_X7 : ∀ w ∈ u_ws RX7 TX7 7, w ∈ zG := fun w h => zG_of ((by decide +kernel : ∀ w ∈ u_ws RX7 TX7 7, w ∈ lw_tbl) w h) ((by decide +kernel : ∀ w ∈ u_ws RX7 TX7 7, goodWord w = true) w h)
theorem inC_X7 {c : Cond} : ∀ w ∈ u_ws RX7 TX7 7, w ∈ c :: zG := fun w h => List.mem_cons_of_mem _ (inG_X7 w h)
set_option maxRecDepth 20000 in
theorem inG_X8 : ∀ w ∈ u_ws RX8 TX8 10, w ∈ zG := fun w h => zG_of ((by decide +kernel : ∀ w ∈ u_ws RX8 TX8 10, w ∈ lw_tbl) w h) ((by decide +kernel : ∀ w ∈ u_ws RX8 TX8 10, goodWord w = true) w h)
theorem inC_X8 {c : Cond} : ∀ w ∈ u_ws RX8 TX8 10, w ∈ c :: zG := fun w h => List.mem_cons_of_mem _ (inG_X8 w h)
theorem zGV {c cy : Cond} {own C : String} {idx : Nat} {y : MethodName} (h1 : Cond.methodLink own idx y ∈ zG) (h2 : Cond.instanceMethod y ∈ zG) (h3 : Cond.selects C y y ∈ zG) (h4 : Cond.initialized C ∈ zG) (h5 : cy ∈ zG) : GoodIn (c :: zG) (wsV own idx C y (cy :: zG)) := by
  have key : ∀ w ∈ wsV own idx C y (cy :: zG), w ∈ zG := by
    intro w hw
    unfold wsV at hw
    rcases List.mem_append.mp hw with h | h
    · rcases List.mem_cons.mp h with rfl | h
      · exact h1
      rcases List.mem_cons.mp h with rfl | h
      · exact h2
      rcases List.mem_cons.mp h with rfl | h
      · exact h3
      rcases List.mem_cons.mp h with rfl | h
      · exact h4
      exact absurd h List.not_mem_nil
    · rcases List.mem_cons.mp h with rfl | h
      · exact h5
      · exact h
  exact fun w hw => ⟨List.mem_cons_of_mem _ (key w hw), zG_good (key w hw)⟩
theorem zGS {c cy : Cond} {own : String} {idx : Nat} {y : MethodName} (h1 : Cond.methodLink own idx y ∈ zG) (h2 : Cond.static y ∈ zG) (h3 : Cond.initialized y.cls ∈ zG) (h5 : cy ∈ zG) : GoodIn (c :: zG) (va_wsS own idx y (cy :: zG)) := by
  have key : ∀ w ∈ va_wsS own idx y (cy :: zG), w ∈ zG := by
    intro w hw
    unfold va_wsS at hw
    rcases List.mem_append.mp hw with h | h
    · rcases List.mem_cons.mp h with rfl | h
      · exact h1
      rcases List.mem_cons.mp h with rfl | h
      · exact h2
      rcases List.mem_cons.mp h with rfl | h
      · exact h3
      exact absurd h List.not_mem_nil
    · rcases List.mem_cons.mp h with rfl | h
      · exact h5
      · exact h
  exact fun w hw => ⟨List.mem_cons_of_mem _ (key w hw), zG_good (key w hw)⟩
theorem zGI {c cy : Cond} (h5 : cy ∈ zG) : GoodIn (c :: zG) (cy :: zG) := by
  intro w hw
  rcases List.mem_cons.mp hw with rfl | h
  · exact ⟨List.mem_cons_of_mem _ h5, zG_good h5⟩
  · exact ⟨List.mem_cons_of_mem _ h, zG_good h⟩
end
section
theorem dX0_init_0 : decode cX0_init 0 = .ok (.aload_n 0, 1) := by decide +kernel
theorem dX0_init_1 : decode cX0_init 1 = .ok (.invokespecial 3, 3) := by decide +kernel
theorem dX0_init_4 : decode cX0_init 4 = .ok (.aload_n 0, 1) := by decide +kernel
theorem dX0_init_5 : decode cX0_init 5 = .ok (.aload_n 1, 1) := by decide +kernel
theorem dX0_init_6 : decode cX0_init 6 = .ok (.putfield 9, 3) := by decide +kernel
theorem dX0_init_9 : decode cX0_init 9 = .ok (.aload_n 0, 1) := by decide +kernel
theorem dX0_init_10 : decode cX0_init 10 = .ok (.aload_n 2, 1) := by decide +kernel
theorem dX0_init_11 : decode cX0_init 11 = .ok (.putfield 15, 3) := by decide +kernel
theorem dX0_init_14 : decode cX0_init 14 = .ok (.aload_n 0, 1) := by decide +kernel
theorem dX0_init_15 : decode cX0_init 15 = .ok (.sipush 180, 3) := by decide +kernel
theorem dX0_init_18 : decode cX0_init 18 = .ok (.newarray .long, 2) := by decide +kernel
theorem dX0_init_20 : decode cX0_init 20 = .ok (.putfield 19, 3) := by decide +kernel
theorem dX0_init_23 : decode cX0_init 23 = .ok (.aload_n 0, 1) := by decide +kernel
theorem dX0_init_24 : decode cX0_init 24 = .ok (.sipush 180, 3) := by decide +kernel
theorem dX0_init_27 : decode cX0_init 27 = .ok (.newarray .long, 2) := by decide +kernel
theorem dX0_init_29 : decode cX0_init 29 = .ok (.putfield 23, 3) := by decide +kernel
theorem dX0_init_32 : decode cX0_init 32 = .ok (.aload_n 0, 1) := by decide +kernel
theorem dX0_init_33 : decode cX0_init 33 = .ok (.bipush 30, 2) := by decide +kernel
theorem dX0_init_35 : decode cX0_init 35 = .ok (.newarray .long, 2) := by decide +kernel
theorem dX0_init_37 : decode cX0_init 37 = .ok (.putfield 26, 3) := by decide +kernel
theorem dX0_init_40 : decode cX0_init 40 = .ok (.return_, 1) := by decide +kernel
theorem dX0_grainsOfOne_0 : decode cX0_grainsOfOne 0 = .ok (.ldc2_w 29, 3) := by decide +kernel
theorem dX0_grainsOfOne_3 : decode cX0_grainsOfOne 3 = .ok (.iload_n 0, 1) := by decide +kernel
theorem dX0_grainsOfOne_4 : decode cX0_grainsOfOne 4 = .ok (.invokestatic 31, 3) := by decide +kernel
theorem dX0_grainsOfOne_7 : decode cX0_grainsOfOne 7 = .ok (.i2l, 1) := by decide +kernel
theorem dX0_grainsOfOne_8 : decode cX0_grainsOfOne 8 = .ok (.lmul, 1) := by decide +kernel
theorem dX0_grainsOfOne_9 : decode cX0_grainsOfOne 9 = .ok (.lreturn, 1) := by decide +kernel
theorem dX0_strength_0 : decode cX0_strength 0 = .ok (.bipush 10, 2) := by decide +kernel
theorem dX0_strength_2 : decode cX0_strength 2 = .ok (.iload_n 0, 1) := by decide +kernel
theorem dX0_strength_3 : decode cX0_strength 3 = .ok (.bipush 10, 2) := by decide +kernel
theorem dX0_strength_5 : decode cX0_strength 5 = .ok (.irem, 1) := by decide +kernel
theorem dX0_strength_6 : decode cX0_strength 6 = .ok (.iadd, 1) := by decide +kernel
theorem dX0_strength_7 : decode cX0_strength 7 = .ok (.ireturn, 1) := by decide +kernel
theorem dX0_carry_0 : decode cX0_carry 0 = .ok (.iconst 0, 1) := by decide +kernel
theorem dX0_carry_1 : decode cX0_carry 1 = .ok (.istore_n 2, 1) := by decide +kernel
theorem dX0_carry_2 : decode cX0_carry 2 = .ok (.iload_n 2, 1) := by decide +kernel
theorem dX0_carry_3 : decode cX0_carry 3 = .ok (.aload_n 0, 1) := by decide +kernel
theorem dX0_carry_4 : decode cX0_carry 4 = .ok (.getfield 9, 3) := by decide +kernel
theorem dX0_carry_7 : decode cX0_carry 7 = .ok (.getfield 35, 3) := by decide +kernel
theorem dX0_carry_10 : decode cX0_carry 10 = .ok (.if_icmp .ge 43, 3) := by decide +kernel
theorem dX0_carry_13 : decode cX0_carry 13 = .ok (.aload_n 0, 1) := by decide +kernel
theorem dX0_carry_14 : decode cX0_carry 14 = .ok (.getfield 19, 3) := by decide +kernel
theorem dX0_carry_17 : decode cX0_carry 17 = .ok (.iload_n 1, 1) := by decide +kernel
theorem dX0_carry_18 : decode cX0_carry 18 = .ok (.bipush 30, 2) := by decide +kernel
theorem dX0_carry_20 : decode cX0_carry 20 = .ok (.imul, 1) := by decide +kernel
theorem dX0_carry_21 : decode cX0_carry 21 = .ok (.iload_n 2, 1) := by decide +kernel
theorem dX0_carry_22 : decode cX0_carry 22 = .ok (.iadd, 1) := by decide +kernel
theorem dX0_carry_23 : decode cX0_carry 23 = .ok (.aload_n 0, 1) := by decide +kernel
theorem dX0_carry_24 : decode cX0_carry 24 = .ok (.aload_n 0, 1) := by decide +kernel
theorem dX0_carry_25 : decode cX0_carry 25 = .ok (.getfield 15, 3) := by decide +kernel
theorem dX0_carry_28 : decode cX0_carry 28 = .ok (.getfield 41, 3) := by decide +kernel
theorem dX0_carry_31 : decode cX0_carry 31 = .ok (.iload_n 1, 1) := by decide +kernel
theorem dX0_carry_32 : decode cX0_carry 32 = .ok (.iaload, 1) := by decide +kernel
theorem dX0_carry_33 : decode cX0_carry 33 = .ok (.aload_n 0, 1) := by decide +kernel
theorem dX0_carry_34 : decode cX0_carry 34 = .ok (.getfield 15, 3) := by decide +kernel
theorem dX0_carry_37 : decode cX0_carry 37 = .ok (.getfield 47, 3) := by decide +kernel
theorem dX0_carry_40 : decode cX0_carry 40 = .ok (.iload_n 1, 1) := by decide +kernel
theorem dX0_carry_41 : decode cX0_carry 41 = .ok (.iaload, 1) := by decide +kernel
theorem dX0_carry_42 : decode cX0_carry 42 = .ok (.iload_n 2, 1) := by decide +kernel
theorem dX0_carry_43 : decode cX0_carry 43 = .ok (.invokevirtual 50, 3) := by decide +kernel
theorem dX0_carry_46 : decode cX0_carry 46 = .ok (.lastore, 1) := by decide +kernel
theorem dX0_carry_47 : decode cX0_carry 47 = .ok (.iinc 2 1, 3) := by decide +kernel
theorem dX0_carry_50 : decode cX0_carry 50 = .ok (.goto (-48), 3) := by decide +kernel
theorem dX0_carry_53 : decode cX0_carry 53 = .ok (.return_, 1) := by decide +kernel
theorem dX0_carryAll_0 : decode cX0_carryAll 0 = .ok (.iconst 0, 1) := by decide +kernel
theorem dX0_carryAll_1 : decode cX0_carryAll 1 = .ok (.istore_n 1, 1) := by decide +kernel
theorem dX0_carryAll_2 : decode cX0_carryAll 2 = .ok (.iload_n 1, 1) := by decide +kernel
theorem dX0_carryAll_3 : decode cX0_carryAll 3 = .ok (.aload_n 0, 1) := by decide +kernel
theorem dX0_carryAll_4 : decode cX0_carryAll 4 = .ok (.getfield 15, 3) := by decide +kernel
theorem dX0_carryAll_7 : decode cX0_carryAll 7 = .ok (.getfield 54, 3) := by decide +kernel
theorem dX0_carryAll_10 : decode cX0_carryAll 10 = .ok (.if_icmp .ge 14, 3) := by decide +kernel
theorem dX0_carryAll_13 : decode cX0_carryAll 13 = .ok (.aload_n 0, 1) := by decide +kernel
theorem dX0_carryAll_14 : decode cX0_carryAll 14 = .ok (.iload_n 1, 1) := by decide +kernel
theorem dX0_carryAll_15 : decode cX0_carryAll 15 = .ok (.invokevirtual 57, 3) := by decide +kernel
theorem dX0_carryAll_18 : decode cX0_carryAll 18 = .ok (.iinc 1 1, 3) := by decide +kernel
theorem dX0_carryAll_21 : decode cX0_carryAll 21 = .ok (.goto (-19), 3) := by decide +kernel
theorem dX0_carryAll_24 : decode cX0_carryAll 24 = .ok (.return_, 1) := by decide +kernel
theorem dX0_calmUnit_0 : decode cX0_calmUnit 0 = .ok (.aload_n 0, 1) := by decide +kernel
theorem dX0_calmUnit_1 : decode cX0_calmUnit 1 = .ok (.getfield 9, 3) := by decide +kernel
theorem dX0_calmUnit_4 : decode cX0_calmUnit 4 = .ok (.iload_n 2, 1) := by decide +kernel
theorem dX0_calmUnit_5 : decode cX0_calmUnit 5 = .ok (.iload_n 3, 1) := by decide +kernel
theorem dX0_calmUnit_6 : decode cX0_calmUnit 6 = .ok (.invokevirtual 61, 3) := by decide +kernel
theorem dX0_calmUnit_9 : decode cX0_calmUnit 9 = .ok (.istore 4, 2) := by decide +kernel
theorem dX0_calmUnit_11 : decode cX0_calmUnit 11 = .ok (.iload 4, 2) := by decide +kernel
theorem dX0_calmUnit_13 : decode cX0_calmUnit 13 = .ok (.aload_n 0, 1) := by decide +kernel
theorem dX0_calmUnit_14 : decode cX0_calmUnit 14 = .ok (.getfield 9, 3) := by decide +kernel
theorem dX0_calmUnit_17 : decode cX0_calmUnit 17 = .ok (.getfield 65, 3) := by decide +kernel
theorem dX0_calmUnit_20 : decode cX0_calmUnit 20 = .ok (.iand, 1) := by decide +kernel
theorem dX0_calmUnit_21 : decode cX0_calmUnit 21 = .ok (.invokestatic 68, 3) := by decide +kernel
theorem dX0_calmUnit_24 : decode cX0_calmUnit 24 = .ok (.istore 5, 2) := by decide +kernel
theorem dX0_calmUnit_26 : decode cX0_calmUnit 26 = .ok (.iload_n 1, 1) := by decide +kernel
theorem dX0_calmUnit_27 : decode cX0_calmUnit 27 = .ok (.iconst 2, 1) := by decide +kernel
theorem dX0_calmUnit_28 : decode cX0_calmUnit 28 = .ok (.if_icmp .eq 19, 3) := by decide +kernel
theorem dX0_calmUnit_31 : decode cX0_calmUnit 31 = .ok (.iload 5, 2) := by decide +kernel
theorem dX0_calmUnit_33 : decode cX0_calmUnit 33 = .ok (.aload_n 0, 1) := by decide +kernel
theorem dX0_calmUnit_34 : decode cX0_calmUnit 34 = .ok (.getfield 9, 3) := by decide +kernel
theorem dX0_calmUnit_37 : decode cX0_calmUnit 37 = .ok (.iload 4, 2) := by decide +kernel
theorem dX0_calmUnit_39 : decode cX0_calmUnit 39 = .ok (.iload_n 2, 1) := by decide +kernel
theorem dX0_calmUnit_40 : decode cX0_calmUnit 40 = .ok (.iload_n 3, 1) := by decide +kernel
theorem dX0_calmUnit_41 : decode cX0_calmUnit 41 = .ok (.invokevirtual 73, 3) := by decide +kernel
theorem dX0_calmUnit_44 : decode cX0_calmUnit 44 = .ok (.iadd, 1) := by decide +kernel
theorem dX0_calmUnit_45 : decode cX0_calmUnit 45 = .ok (.istore 5, 2) := by decide +kernel
theorem dX0_calmUnit_47 : decode cX0_calmUnit 47 = .ok (.aload_n 0, 1) := by decide +kernel
theorem dX0_calmUnit_48 : decode cX0_calmUnit 48 = .ok (.getfield 9, 3) := by decide +kernel
theorem dX0_calmUnit_51 : decode cX0_calmUnit 51 = .ok (.iload_n 2, 1) := by decide +kernel
theorem dX0_calmUnit_52 : decode cX0_calmUnit 52 = .ok (.iload_n 3, 1) := by decide +kernel
theorem dX0_calmUnit_53 : decode cX0_calmUnit 53 = .ok (.invokevirtual 77, 3) := by decide +kernel
theorem dX0_calmUnit_56 : decode cX0_calmUnit 56 = .ok (.istore 6, 2) := by decide +kernel
theorem dX0_calmUnit_58 : decode cX0_calmUnit 58 = .ok (.iload_n 1, 1) := by decide +kernel
theorem dX0_calmUnit_59 : decode cX0_calmUnit 59 = .ok (.iconst 1, 1) := by decide +kernel
theorem dX0_calmUnit_60 : decode cX0_calmUnit 60 = .ok (.if_icmp .ge 15, 3) := by decide +kernel
theorem dX0_calmUnit_63 : decode cX0_calmUnit 63 = .ok (.ldc2_w 80, 3) := by decide +kernel
theorem dX0_calmUnit_66 : decode cX0_calmUnit 66 = .ok (.iconst 1, 1) := by decide +kernel
theorem dX0_calmUnit_67 : decode cX0_calmUnit 67 = .ok (.iload 6, 2) := by decide +kernel
theorem dX0_calmUnit_69 : decode cX0_calmUnit 69 = .ok (.iadd, 1) := by decide +kernel
theorem dX0_calmUnit_70 : decode cX0_calmUnit 70 = .ok (.i2l, 1) := by decide +kernel
theorem dX0_calmUnit_71 : decode cX0_calmUnit 71 = .ok (.ldiv, 1) := by decide +kernel
theorem dX0_calmUnit_72 : decode cX0_calmUnit 72 = .ok (.goto 16, 3) := by decide +kernel
theorem dX0_calmUnit_75 : decode cX0_calmUnit 75 = .ok (.ldc2_w 80, 3) := by decide +kernel
theorem dX0_calmUnit_78 : decode cX0_calmUnit 78 = .ok (.iconst 2, 1) := by decide +kernel
theorem dX0_calmUnit_79 : decode cX0_calmUnit 79 = .ok (.iload 6, 2) := by decide +kernel
theorem dX0_calmUnit_81 : decode cX0_calmUnit 81 = .ok (.iadd, 1) := by decide +kernel
theorem dX0_calmUnit_82 : decode cX0_calmUnit 82 = .ok (.i2l, 1) := by decide +kernel
theorem dX0_calmUnit_83 : decode cX0_calmUnit 83 = .ok (.ldiv, 1) := by decide +kernel
theorem dX0_calmUnit_84 : decode cX0_calmUnit 84 = .ok (.ldc2_w 82, 3) := by decide +kernel
theorem dX0_calmUnit_87 : decode cX0_calmUnit 87 = .ok (.lmul, 1) := by decide +kernel
theorem dX0_calmUnit_88 : decode cX0_calmUnit 88 = .ok (.lstore 7, 2) := by decide +kernel
theorem dX0_calmUnit_90 : decode cX0_calmUnit 90 = .ok (.lload 7, 2) := by decide +kernel
theorem dX0_calmUnit_92 : decode cX0_calmUnit 92 = .ok (.iload 5, 2) := by decide +kernel
theorem dX0_calmUnit_94 : decode cX0_calmUnit 94 = .ok (.lshr, 1) := by decide +kernel
theorem dX0_calmUnit_95 : decode cX0_calmUnit 95 = .ok (.lreturn, 1) := by decide +kernel
theorem dX0_blown_0 : decode cX0_blown 0 = .ok (.aload_n 0, 1) := by decide +kernel
theorem dX0_blown_1 : decode cX0_blown 1 = .ok (.getfield 9, 3) := by decide +kernel
theorem dX0_blown_4 : decode cX0_blown 4 = .ok (.iload_n 3, 1) := by decide +kernel
theorem dX0_blown_5 : decode cX0_blown 5 = .ok (.iload 4, 2) := by decide +kernel
theorem dX0_blown_7 : decode cX0_blown 7 = .ok (.iload 5, 2) := by decide +kernel
theorem dX0_blown_9 : decode cX0_blown 9 = .ok (.invokevirtual 84, 3) := by decide +kernel
theorem dX0_blown_12 : decode cX0_blown 12 = .ok (.istore 6, 2) := by decide +kernel
theorem dX0_blown_14 : decode cX0_blown 14 = .ok (.iload 5, 2) := by decide +kernel
theorem dX0_blown_16 : decode cX0_blown 16 = .ok (.invokestatic 31, 3) := by decide +kernel
theorem dX0_blown_19 : decode cX0_blown 19 = .ok (.istore 7, 2) := by decide +kernel
theorem dX0_blown_21 : decode cX0_blown 21 = .ok (.iload 6, 2) := by decide +kernel
theorem dX0_blown_23 : decode cX0_blown 23 = .ok (.ifCond .le 13, 3) := by decide +kernel
theorem dX0_blown_26 : decode cX0_blown 26 = .ok (.lload_n 1, 1) := by decide +kernel
theorem dX0_blown_27 : decode cX0_blown 27 = .ok (.iload 7, 2) := by decide +kernel
theorem dX0_blown_29 : decode cX0_blown 29 = .ok (.i2l, 1) := by decide +kernel
theorem dX0_blown_30 : decode cX0_blown 30 = .ok (.lmul, 1) := by decide +kernel
theorem dX0_blown_31 : decode cX0_blown 31 = .ok (.iload 7, 2) := by decide +kernel
theorem dX0_blown_33 : decode cX0_blown 33 = .ok (.i2l, 1) := by decide +kernel
theorem dX0_blown_34 : decode cX0_blown 34 = .ok (.lmul, 1) := by decide +kernel
theorem dX0_blown_35 : decode cX0_blown 35 = .ok (.lreturn, 1) := by decide +kernel
theorem dX0_blown_36 : decode cX0_blown 36 = .ok (.iload 6, 2) := by decide +kernel
theorem dX0_blown_38 : decode cX0_blown 38 = .ok (.ifCond .ge 11, 3) := by decide +kernel
theorem dX0_blown_41 : decode cX0_blown 41 = .ok (.lload_n 1, 1) := by decide +kernel
theorem dX0_blown_42 : decode cX0_blown 42 = .ok (.ldc2_w 87, 3) := by decide +kernel
theorem dX0_blown_45 : decode cX0_blown 45 = .ok (.lmul, 1) := by decide +kernel
theorem dX0_blown_46 : decode cX0_blown 46 = .ok (.goto 12, 3) := by decide +kernel
theorem dX0_blown_49 : decode cX0_blown 49 = .ok (.lload_n 1, 1) := by decide +kernel
theorem dX0_blown_50 : decode cX0_blown 50 = .ok (.ldc2_w 89, 3) := by decide +kernel
theorem dX0_blown_53 : decode cX0_blown 53 = .ok (.lmul, 1) := by decide +kernel
theorem dX0_blown_54 : decode cX0_blown 54 = .ok (.iload 7, 2) := by decide +kernel
theorem dX0_blown_56 : decode cX0_blown 56 = .ok (.i2l, 1) := by decide +kernel
theorem dX0_blown_57 : decode cX0_blown 57 = .ok (.lmul, 1) := by decide +kernel
theorem dX0_blown_58 : decode cX0_blown 58 = .ok (.lreturn, 1) := by decide +kernel
theorem dX0_unitBy_0 : decode cX0_unitBy 0 = .ok (.aload_n 0, 1) := by decide +kernel
theorem dX0_unitBy_1 : decode cX0_unitBy 1 = .ok (.aload_n 0, 1) := by decide +kernel
theorem dX0_unitBy_2 : decode cX0_unitBy 2 = .ok (.getfield 19, 3) := by decide +kernel
theorem dX0_unitBy_5 : decode cX0_unitBy 5 = .ok (.iload_n 1, 1) := by decide +kernel
theorem dX0_unitBy_6 : decode cX0_unitBy 6 = .ok (.bipush 30, 2) := by decide +kernel
theorem dX0_unitBy_8 : decode cX0_unitBy 8 = .ok (.imul, 1) := by decide +kernel
theorem dX0_unitBy_9 : decode cX0_unitBy 9 = .ok (.iload_n 2, 1) := by decide +kernel
theorem dX0_unitBy_10 : decode cX0_unitBy 10 = .ok (.iadd, 1) := by decide +kernel
theorem dX0_unitBy_11 : decode cX0_unitBy 11 = .ok (.laload, 1) := by decide +kernel
theorem dX0_unitBy_12 : decode cX0_unitBy 12 = .ok (.aload_n 0, 1) := by decide +kernel
theorem dX0_unitBy_13 : decode cX0_unitBy 13 = .ok (.getfield 15, 3) := by decide +kernel
theorem dX0_unitBy_16 : decode cX0_unitBy 16 = .ok (.getfield 47, 3) := by decide +kernel
theorem dX0_unitBy_19 : decode cX0_unitBy 19 = .ok (.iload_n 1, 1) := by decide +kernel
theorem dX0_unitBy_20 : decode cX0_unitBy 20 = .ok (.iaload, 1) := by decide +kernel
theorem dX0_unitBy_21 : decode cX0_unitBy 21 = .ok (.iload_n 2, 1) := by decide +kernel
theorem dX0_unitBy_22 : decode cX0_unitBy 22 = .ok (.iload_n 3, 1) := by decide +kernel
theorem dX0_unitBy_23 : decode cX0_unitBy 23 = .ok (.invokevirtual 91, 3) := by decide +kernel
theorem dX0_unitBy_26 : decode cX0_unitBy 26 = .ok (.lreturn, 1) := by decide +kernel
theorem dX0_blow_0 : decode cX0_blow 0 = .ok (.iconst 0, 1) := by decide +kernel
theorem dX0_blow_1 : decode cX0_blow 1 = .ok (.istore_n 2, 1) := by decide +kernel
theorem dX0_blow_2 : decode cX0_blow 2 = .ok (.iload_n 2, 1) := by decide +kernel
theorem dX0_blow_3 : decode cX0_blow 3 = .ok (.aload_n 0, 1) := by decide +kernel
theorem dX0_blow_4 : decode cX0_blow 4 = .ok (.getfield 15, 3) := by decide +kernel
theorem dX0_blow_7 : decode cX0_blow 7 = .ok (.getfield 54, 3) := by decide +kernel
theorem dX0_blow_10 : decode cX0_blow 10 = .ok (.if_icmp .ge 46, 3) := by decide +kernel
theorem dX0_blow_13 : decode cX0_blow 13 = .ok (.iconst 0, 1) := by decide +kernel
theorem dX0_blow_14 : decode cX0_blow 14 = .ok (.istore_n 3, 1) := by decide +kernel
theorem dX0_blow_15 : decode cX0_blow 15 = .ok (.iload_n 3, 1) := by decide +kernel
theorem dX0_blow_16 : decode cX0_blow 16 = .ok (.aload_n 0, 1) := by decide +kernel
theorem dX0_blow_17 : decode cX0_blow 17 = .ok (.getfield 9, 3) := by decide +kernel
theorem dX0_blow_20 : decode cX0_blow 20 = .ok (.getfield 35, 3) := by decide +kernel
theorem dX0_blow_23 : decode cX0_blow 23 = .ok (.if_icmp .ge 27, 3) := by decide +kernel
theorem dX0_blow_26 : decode cX0_blow 26 = .ok (.aload_n 0, 1) := by decide +kernel
theorem dX0_blow_27 : decode cX0_blow 27 = .ok (.getfield 23, 3) := by decide +kernel
theorem dX0_blow_30 : decode cX0_blow 30 = .ok (.iload_n 2, 1) := by decide +kernel
theorem dX0_blow_31 : decode cX0_blow 31 = .ok (.bipush 30, 2) := by decide +kernel
theorem dX0_blow_33 : decode cX0_blow 33 = .ok (.imul, 1) := by decide +kernel
theorem dX0_blow_34 : decode cX0_blow 34 = .ok (.iload_n 3, 1) := by decide +kernel
theorem dX0_blow_35 : decode cX0_blow 35 = .ok (.iadd, 1) := by decide +kernel
theorem dX0_blow_36 : decode cX0_blow 36 = .ok (.aload_n 0, 1) := by decide +kernel
theorem dX0_blow_37 : decode cX0_blow 37 = .ok (.iload_n 2, 1) := by decide +kernel
theorem dX0_blow_38 : decode cX0_blow 38 = .ok (.iload_n 3, 1) := by decide +kernel
theorem dX0_blow_39 : decode cX0_blow 39 = .ok (.iload_n 1, 1) := by decide +kernel
theorem dX0_blow_40 : decode cX0_blow 40 = .ok (.invokevirtual 95, 3) := by decide +kernel
theorem dX0_blow_43 : decode cX0_blow 43 = .ok (.lastore, 1) := by decide +kernel
theorem dX0_blow_44 : decode cX0_blow 44 = .ok (.iinc 3 1, 3) := by decide +kernel
theorem dX0_blow_47 : decode cX0_blow 47 = .ok (.goto (-32), 3) := by decide +kernel
theorem dX0_blow_50 : decode cX0_blow 50 = .ok (.iinc 2 1, 3) := by decide +kernel
theorem dX0_blow_53 : decode cX0_blow 53 = .ok (.goto (-51), 3) := by decide +kernel
theorem dX0_blow_56 : decode cX0_blow 56 = .ok (.aload_n 0, 1) := by decide +kernel
theorem dX0_blow_57 : decode cX0_blow 57 = .ok (.aload_n 0, 1) := by decide +kernel
theorem dX0_blow_58 : decode cX0_blow 58 = .ok (.getfield 98, 3) := by decide +kernel
theorem dX0_blow_61 : decode cX0_blow 61 = .ok (.i2l, 1) := by decide +kernel
theorem dX0_blow_62 : decode cX0_blow 62 = .ok (.ldc2_w 80, 3) := by decide +kernel
theorem dX0_blow_65 : decode cX0_blow 65 = .ok (.lmul, 1) := by decide +kernel
theorem dX0_blow_66 : decode cX0_blow 66 = .ok (.iload_n 1, 1) := by decide +kernel
theorem dX0_blow_67 : decode cX0_blow 67 = .ok (.invokestatic 31, 3) := by decide +kernel
theorem dX0_blow_70 : decode cX0_blow 70 = .ok (.i2l, 1) := by decide +kernel
theorem dX0_blow_71 : decode cX0_blow 71 = .ok (.lmul, 1) := by decide +kernel
theorem dX0_blow_72 : decode cX0_blow 72 = .ok (.putfield 101, 3) := by decide +kernel
theorem dX0_blow_75 : decode cX0_blow 75 = .ok (.return_, 1) := by decide +kernel
theorem dX0_loudness_0 : decode cX0_loudness 0 = .ok (.aload_n 0, 1) := by decide +kernel
theorem dX0_loudness_1 : decode cX0_loudness 1 = .ok (.getfield 15, 3) := by decide +kernel
theorem dX0_loudness_4 : decode cX0_loudness 4 = .ok (.getfield 105, 3) := by decide +kernel
theorem dX0_loudness_7 : decode cX0_loudness 7 = .ok (.iload_n 1, 1) := by decide +kernel
theorem dX0_loudness_8 : decode cX0_loudness 8 = .ok (.iaload, 1) := by decide +kernel
theorem dX0_loudness_9 : decode cX0_loudness 9 = .ok (.i2l, 1) := by decide +kernel
theorem dX0_loudness_10 : decode cX0_loudness 10 = .ok (.aload_n 0, 1) := by decide +kernel
theorem dX0_loudness_11 : decode cX0_loudness 11 = .ok (.getfield 23, 3) := by decide +kernel
theorem dX0_loudness_14 : decode cX0_loudness 14 = .ok (.iload_n 1, 1) := by decide +kernel
theorem dX0_loudness_15 : decode cX0_loudness 15 = .ok (.bipush 30, 2) := by decide +kernel
theorem dX0_loudness_17 : decode cX0_loudness 17 = .ok (.imul, 1) := by decide +kernel
theorem dX0_loudness_18 : decode cX0_loudness 18 = .ok (.iload_n 2, 1) := by decide +kernel
theorem dX0_loudness_19 : decode cX0_loudness 19 = .ok (.iadd, 1) := by decide +kernel
theorem dX0_loudness_20 : decode cX0_loudness 20 = .ok (.laload, 1) := by decide +kernel
theorem dX0_loudness_21 : decode cX0_loudness 21 = .ok (.lmul, 1) := by decide +kernel
theorem dX0_loudness_22 : decode cX0_loudness 22 = .ok (.lreturn, 1) := by decide +kernel
theorem dX0_loudestIn_0 : decode cX0_loudestIn 0 = .ok (.aload_n 0, 1) := by decide +kernel
theorem dX0_loudestIn_1 : decode cX0_loudestIn 1 = .ok (.getfield 101, 3) := by decide +kernel
theorem dX0_loudestIn_4 : decode cX0_loudestIn 4 = .ok (.lstore_n 2, 1) := by decide +kernel
theorem dX0_loudestIn_5 : decode cX0_loudestIn 5 = .ok (.iconst 0, 1) := by decide +kernel
theorem dX0_loudestIn_6 : decode cX0_loudestIn 6 = .ok (.istore 4, 2) := by decide +kernel
theorem dX0_loudestIn_8 : decode cX0_loudestIn 8 = .ok (.iconst 0, 1) := by decide +kernel
theorem dX0_loudestIn_9 : decode cX0_loudestIn 9 = .ok (.istore 5, 2) := by decide +kernel
theorem dX0_loudestIn_11 : decode cX0_loudestIn 11 = .ok (.iload 5, 2) := by decide +kernel
theorem dX0_loudestIn_13 : decode cX0_loudestIn 13 = .ok (.aload_n 0, 1) := by decide +kernel
theorem dX0_loudestIn_14 : decode cX0_loudestIn 14 = .ok (.getfield 15, 3) := by decide +kernel
theorem dX0_loudestIn_17 : decode cX0_loudestIn 17 = .ok (.getfield 54, 3) := by decide +kernel
theorem dX0_loudestIn_20 : decode cX0_loudestIn 20 = .ok (.if_icmp .ge 53, 3) := by decide +kernel
theorem dX0_loudestIn_23 : decode cX0_loudestIn 23 = .ok (.aload_n 0, 1) := by decide +kernel
theorem dX0_loudestIn_24 : decode cX0_loudestIn 24 = .ok (.iload 5, 2) := by decide +kernel
theorem dX0_loudestIn_26 : decode cX0_loudestIn 26 = .ok (.iload_n 1, 1) := by decide +kernel
theorem dX0_loudestIn_27 : decode cX0_loudestIn 27 = .ok (.invokevirtual 108, 3) := by decide +kernel
theorem dX0_loudestIn_30 : decode cX0_loudestIn 30 = .ok (.lstore 6, 2) := by decide +kernel
theorem dX0_loudestIn_32 : decode cX0_loudestIn 32 = .ok (.lload 6, 2) := by decide +kernel
theorem dX0_loudestIn_34 : decode cX0_loudestIn 34 = .ok (.lload_n 2, 1) := by decide +kernel
theorem dX0_loudestIn_35 : decode cX0_loudestIn 35 = .ok (.lcmp, 1) := by decide +kernel
theorem dX0_loudestIn_36 : decode cX0_loudestIn 36 = .ok (.ifCond .le 15, 3) := by decide +kernel
theorem dX0_loudestIn_39 : decode cX0_loudestIn 39 = .ok (.lload 6, 2) := by decide +kernel
theorem dX0_loudestIn_41 : decode cX0_loudestIn 41 = .ok (.lstore_n 2, 1) := by decide +kernel
theorem dX0_loudestIn_42 : decode cX0_loudestIn 42 = .ok (.iconst 1, 1) := by decide +kernel
theorem dX0_loudestIn_43 : decode cX0_loudestIn 43 = .ok (.iload 5, 2) := by decide +kernel
theorem dX0_loudestIn_45 : decode cX0_loudestIn 45 = .ok (.ishl, 1) := by decide +kernel
theorem dX0_loudestIn_46 : decode cX0_loudestIn 46 = .ok (.istore 4, 2) := by decide +kernel
theorem dX0_loudestIn_48 : decode cX0_loudestIn 48 = .ok (.goto 19, 3) := by decide +kernel
theorem dX0_loudestIn_51 : decode cX0_loudestIn 51 = .ok (.lload 6, 2) := by decide +kernel
theorem dX0_loudestIn_53 : decode cX0_loudestIn 53 = .ok (.lload_n 2, 1) := by decide +kernel
theorem dX0_loudestIn_54 : decode cX0_loudestIn 54 = .ok (.lcmp, 1) := by decide +kernel
theorem dX0_loudestIn_55 : decode cX0_loudestIn 55 = .ok (.ifCond .ne 12, 3) := by decide +kernel
theorem dX0_loudestIn_58 : decode cX0_loudestIn 58 = .ok (.iload 4, 2) := by decide +kernel
theorem dX0_loudestIn_60 : decode cX0_loudestIn 60 = .ok (.iconst 1, 1) := by decide +kernel
theorem dX0_loudestIn_61 : decode cX0_loudestIn 61 = .ok (.iload 5, 2) := by decide +kernel
theorem dX0_loudestIn_63 : decode cX0_loudestIn 63 = .ok (.ishl, 1) := by decide +kernel
theorem dX0_loudestIn_64 : decode cX0_loudestIn 64 = .ok (.ior, 1) := by decide +kernel
theorem dX0_loudestIn_65 : decode cX0_loudestIn 65 = .ok (.istore 4, 2) := by decide +kernel
theorem dX0_loudestIn_67 : decode cX0_loudestIn 67 = .ok (.iinc 5 1, 3) := by decide +kernel
theorem dX0_loudestIn_70 : decode cX0_loudestIn 70 = .ok (.goto (-59), 3) := by decide +kernel
theorem dX0_loudestIn_73 : decode cX0_loudestIn 73 = .ok (.iload 4, 2) := by decide +kernel
theorem dX0_loudestIn_75 : decode cX0_loudestIn 75 = .ok (.ireturn, 1) := by decide +kernel
theorem dX0_bar_0 : decode cX0_bar 0 = .ok (.lconst 0, 1) := by decide +kernel
theorem dX0_bar_1 : decode cX0_bar 1 = .ok (.aload_n 0, 1) := by decide +kernel
theorem dX0_bar_2 : decode cX0_bar 2 = .ok (.getfield 101, 3) := by decide +kernel
theorem dX0_bar_5 : decode cX0_bar 5 = .ok (.lconst 1, 1) := by decide +kernel
theorem dX0_bar_6 : decode cX0_bar 6 = .ok (.lsub, 1) := by decide +kernel
theorem dX0_bar_7 : decode cX0_bar 7 = .ok (.invokestatic 112, 3) := by decide +kernel
theorem dX0_bar_10 : decode cX0_bar 10 = .ok (.lstore 5, 2) := by decide +kernel
theorem dX0_bar_12 : decode cX0_bar 12 = .ok (.iconst 0, 1) := by decide +kernel
theorem dX0_bar_13 : decode cX0_bar 13 = .ok (.istore 7, 2) := by decide +kernel
theorem dX0_bar_15 : decode cX0_bar 15 = .ok (.iload 7, 2) := by decide +kernel
theorem dX0_bar_17 : decode cX0_bar 17 = .ok (.aload_n 0, 1) := by decide +kernel
theorem dX0_bar_18 : decode cX0_bar 18 = .ok (.getfield 15, 3) := by decide +kernel
theorem dX0_bar_21 : decode cX0_bar 21 = .ok (.getfield 54, 3) := by decide +kernel
theorem dX0_bar_24 : decode cX0_bar 24 = .ok (.if_icmp .ge 47, 3) := by decide +kernel
theorem dX0_bar_27 : decode cX0_bar 27 = .ok (.iload 7, 2) := by decide +kernel
theorem dX0_bar_29 : decode cX0_bar 29 = .ok (.iload_n 3, 1) := by decide +kernel
theorem dX0_bar_30 : decode cX0_bar 30 = .ok (.if_icmp .eq 35, 3) := by decide +kernel
theorem dX0_bar_33 : decode cX0_bar 33 = .ok (.iload 7, 2) := by decide +kernel
theorem dX0_bar_35 : decode cX0_bar 35 = .ok (.iload 4, 2) := by decide +kernel
theorem dX0_bar_37 : decode cX0_bar 37 = .ok (.if_icmp .eq 28, 3) := by decide +kernel
theorem dX0_bar_40 : decode cX0_bar 40 = .ok (.lload 5, 2) := by decide +kernel
theorem dX0_bar_42 : decode cX0_bar 42 = .ok (.aload_n 1, 1) := by decide +kernel
theorem dX0_bar_43 : decode cX0_bar 43 = .ok (.iload 7, 2) := by decide +kernel
theorem dX0_bar_45 : decode cX0_bar 45 = .ok (.iaload, 1) := by decide +kernel
theorem dX0_bar_46 : decode cX0_bar 46 = .ok (.i2l, 1) := by decide +kernel
theorem dX0_bar_47 : decode cX0_bar 47 = .ok (.aload_n 0, 1) := by decide +kernel
theorem dX0_bar_48 : decode cX0_bar 48 = .ok (.getfield 23, 3) := by decide +kernel
theorem dX0_bar_51 : decode cX0_bar 51 = .ok (.iload 7, 2) := by decide +kernel
theorem dX0_bar_53 : decode cX0_bar 53 = .ok (.bipush 30, 2) := by decide +kernel
theorem dX0_bar_55 : decode cX0_bar 55 = .ok (.imul, 1) := by decide +kernel
theorem dX0_bar_56 : decode cX0_bar 56 = .ok (.iload_n 2, 1) := by decide +kernel
theorem dX0_bar_57 : decode cX0_bar 57 = .ok (.iadd, 1) := by decide +kernel
theorem dX0_bar_58 : decode cX0_bar 58 = .ok (.laload, 1) := by decide +kernel
theorem dX0_bar_59 : decode cX0_bar 59 = .ok (.lmul, 1) := by decide +kernel
theorem dX0_bar_60 : decode cX0_bar 60 = .ok (.invokestatic 112, 3) := by decide +kernel
theorem dX0_bar_63 : decode cX0_bar 63 = .ok (.lstore 5, 2) := by decide +kernel
theorem dX0_bar_65 : decode cX0_bar 65 = .ok (.iinc 7 1, 3) := by decide +kernel
theorem dX0_bar_68 : decode cX0_bar 68 = .ok (.goto (-53), 3) := by decide +kernel
theorem dX0_bar_71 : decode cX0_bar 71 = .ok (.lload 5, 2) := by decide +kernel
theorem dX0_bar_73 : decode cX0_bar 73 = .ok (.lreturn, 1) := by decide +kernel
theorem dX0_leastToOwn_0 : decode cX0_leastToOwn 0 = .ok (.aload_n 0, 1) := by decide +kernel
theorem dX0_leastToOwn_1 : decode cX0_leastToOwn 1 = .ok (.aload_n 0, 1) := by decide +kernel
theorem dX0_leastToOwn_2 : decode cX0_leastToOwn 2 = .ok (.getfield 15, 3) := by decide +kernel
theorem dX0_leastToOwn_5 : decode cX0_leastToOwn 5 = .ok (.getfield 105, 3) := by decide +kernel
theorem dX0_leastToOwn_8 : decode cX0_leastToOwn 8 = .ok (.iload_n 2, 1) := by decide +kernel
theorem dX0_leastToOwn_9 : decode cX0_leastToOwn 9 = .ok (.iload_n 1, 1) := by decide +kernel
theorem dX0_leastToOwn_10 : decode cX0_leastToOwn 10 = .ok (.iload_n 1, 1) := by decide +kernel
theorem dX0_leastToOwn_11 : decode cX0_leastToOwn 11 = .ok (.invokevirtual 118, 3) := by decide +kernel
theorem dX0_leastToOwn_14 : decode cX0_leastToOwn 14 = .ok (.lstore_n 3, 1) := by decide +kernel
theorem dX0_leastToOwn_15 : decode cX0_leastToOwn 15 = .ok (.aload_n 0, 1) := by decide +kernel
theorem dX0_leastToOwn_16 : decode cX0_leastToOwn 16 = .ok (.getfield 23, 3) := by decide +kernel
theorem dX0_leastToOwn_19 : decode cX0_leastToOwn 19 = .ok (.iload_n 1, 1) := by decide +kernel
theorem dX0_leastToOwn_20 : decode cX0_leastToOwn 20 = .ok (.bipush 30, 2) := by decide +kernel
theorem dX0_leastToOwn_22 : decode cX0_leastToOwn 22 = .ok (.imul, 1) := by decide +kernel
theorem dX0_leastToOwn_23 : decode cX0_leastToOwn 23 = .ok (.iload_n 2, 1) := by decide +kernel
theorem dX0_leastToOwn_24 : decode cX0_leastToOwn 24 = .ok (.iadd, 1) := by decide +kernel
theorem dX0_leastToOwn_25 : decode cX0_leastToOwn 25 = .ok (.laload, 1) := by decide +kernel
theorem dX0_leastToOwn_26 : decode cX0_leastToOwn 26 = .ok (.lstore 5, 2) := by decide +kernel
theorem dX0_leastToOwn_28 : decode cX0_leastToOwn 28 = .ok (.iconst 1, 1) := by decide +kernel
theorem dX0_leastToOwn_29 : decode cX0_leastToOwn 29 = .ok (.istore 7, 2) := by decide +kernel
theorem dX0_leastToOwn_31 : decode cX0_leastToOwn 31 = .ok (.iload 7, 2) := by decide +kernel
theorem dX0_leastToOwn_33 : decode cX0_leastToOwn 33 = .ok (.bipush 99, 2) := by decide +kernel
theorem dX0_leastToOwn_35 : decode cX0_leastToOwn 35 = .ok (.if_icmp .gt 23, 3) := by decide +kernel
theorem dX0_leastToOwn_38 : decode cX0_leastToOwn 38 = .ok (.iload 7, 2) := by decide +kernel
theorem dX0_leastToOwn_40 : decode cX0_leastToOwn 40 = .ok (.i2l, 1) := by decide +kernel
theorem dX0_leastToOwn_41 : decode cX0_leastToOwn 41 = .ok (.lload 5, 2) := by decide +kernel
theorem dX0_leastToOwn_43 : decode cX0_leastToOwn 43 = .ok (.lmul, 1) := by decide +kernel
theorem dX0_leastToOwn_44 : decode cX0_leastToOwn 44 = .ok (.lload_n 3, 1) := by decide +kernel
theorem dX0_leastToOwn_45 : decode cX0_leastToOwn 45 = .ok (.lcmp, 1) := by decide +kernel
theorem dX0_leastToOwn_46 : decode cX0_leastToOwn 46 = .ok (.ifCond .le 6, 3) := by decide +kernel
theorem dX0_leastToOwn_49 : decode cX0_leastToOwn 49 = .ok (.iload 7, 2) := by decide +kernel
theorem dX0_leastToOwn_51 : decode cX0_leastToOwn 51 = .ok (.ireturn, 1) := by decide +kernel
theorem dX0_leastToOwn_52 : decode cX0_leastToOwn 52 = .ok (.iinc 7 1, 3) := by decide +kernel
theorem dX0_leastToOwn_55 : decode cX0_leastToOwn 55 = .ok (.goto (-24), 3) := by decide +kernel
theorem dX0_leastToOwn_58 : decode cX0_leastToOwn 58 = .ok (.bipush (-9), 2) := by decide +kernel
theorem dX0_leastToOwn_60 : decode cX0_leastToOwn 60 = .ok (.ireturn, 1) := by decide +kernel
theorem dX1_init_0 : decode cX1_init 0 = .ok (.aload_n 0, 1) := by decide +kernel
theorem dX1_init_1 : decode cX1_init 1 = .ok (.invokespecial 3, 3) := by decide +kernel
theorem dX1_init_4 : decode cX1_init 4 = .ok (.aload_n 0, 1) := by decide +kernel
theorem dX1_init_5 : decode cX1_init 5 = .ok (.bipush 6, 2) := by decide +kernel
theorem dX1_init_7 : decode cX1_init 7 = .ok (.newarray .int, 2) := by decide +kernel
theorem dX1_init_9 : decode cX1_init 9 = .ok (.putfield 9, 3) := by decide +kernel
theorem dX1_init_12 : decode cX1_init 12 = .ok (.aload_n 0, 1) := by decide +kernel
theorem dX1_init_13 : decode cX1_init 13 = .ok (.bipush 6, 2) := by decide +kernel
theorem dX1_init_15 : decode cX1_init 15 = .ok (.newarray .int, 2) := by decide +kernel
theorem dX1_init_17 : decode cX1_init 17 = .ok (.putfield 15, 3) := by decide +kernel
theorem dX1_init_20 : decode cX1_init 20 = .ok (.aload_n 0, 1) := by decide +kernel
theorem dX1_init_21 : decode cX1_init 21 = .ok (.bipush 6, 2) := by decide +kernel
theorem dX1_init_23 : decode cX1_init 23 = .ok (.newarray .int, 2) := by decide +kernel
theorem dX1_init_25 : decode cX1_init 25 = .ok (.putfield 18, 3) := by decide +kernel
theorem dX1_init_28 : decode cX1_init 28 = .ok (.return_, 1) := by decide +kernel
theorem dX1_add_0 : decode cX1_add 0 = .ok (.aload_n 0, 1) := by decide +kernel
theorem dX1_add_1 : decode cX1_add 1 = .ok (.getfield 21, 3) := by decide +kernel
theorem dX1_add_4 : decode cX1_add 4 = .ok (.istore 4, 2) := by decide +kernel
theorem dX1_add_6 : decode cX1_add 6 = .ok (.aload_n 0, 1) := by decide +kernel
theorem dX1_add_7 : decode cX1_add 7 = .ok (.getfield 9, 3) := by decide +kernel
theorem dX1_add_10 : decode cX1_add 10 = .ok (.iload 4, 2) := by decide +kernel
theorem dX1_add_12 : decode cX1_add 12 = .ok (.iload_n 1, 1) := by decide +kernel
theorem dX1_add_13 : decode cX1_add 13 = .ok (.iastore, 1) := by decide +kernel
theorem dX1_add_14 : decode cX1_add 14 = .ok (.aload_n 0, 1) := by decide +kernel
theorem dX1_add_15 : decode cX1_add 15 = .ok (.getfield 15, 3) := by decide +kernel
theorem dX1_add_18 : decode cX1_add 18 = .ok (.iload 4, 2) := by decide +kernel
theorem dX1_add_20 : decode cX1_add 20 = .ok (.iload_n 2, 1) := by decide +kernel
theorem dX1_add_21 : decode cX1_add 21 = .ok (.iastore, 1) := by decide +kernel
theorem dX1_add_22 : decode cX1_add 22 = .ok (.aload_n 0, 1) := by decide +kernel
theorem dX1_add_23 : decode cX1_add 23 = .ok (.getfield 18, 3) := by decide +kernel
theorem dX1_add_26 : decode cX1_add 26 = .ok (.iload 4, 2) := by decide +kernel
theorem dX1_add_28 : decode cX1_add 28 = .ok (.iload_n 3, 1) := by decide +kernel
theorem dX1_add_29 : decode cX1_add 29 = .ok (.iastore, 1) := by decide +kernel
theorem dX1_add_30 : decode cX1_add 30 = .ok (.aload_n 0, 1) := by decide +kernel
theorem dX1_add_31 : decode cX1_add 31 = .ok (.iload 4, 2) := by decide +kernel
theorem dX1_add_33 : decode cX1_add 33 = .ok (.iconst 1, 1) := by decide +kernel
theorem dX1_add_34 : decode cX1_add 34 = .ok (.iadd, 1) := by decide +kernel
theorem dX1_add_35 : decode cX1_add 35 = .ok (.putfield 21, 3) := by decide +kernel
theorem dX1_add_38 : decode cX1_add 38 = .ok (.iload 4, 2) := by decide +kernel
theorem dX1_add_40 : decode cX1_add 40 = .ok (.ireturn, 1) := by decide +kernel
theorem dX2_init_0 : decode cX2_init 0 = .ok (.aload_n 0, 1) := by decide +kernel
theorem dX2_init_1 : decode cX2_init 1 = .ok (.invokespecial 3, 3) := by decide +kernel
theorem dX2_init_4 : decode cX2_init 4 = .ok (.aload_n 0, 1) := by decide +kernel
theorem dX2_init_5 : decode cX2_init 5 = .ok (.aload_n 1, 1) := by decide +kernel
theorem dX2_init_6 : decode cX2_init 6 = .ok (.putfield 9, 3) := by decide +kernel
theorem dX2_init_9 : decode cX2_init 9 = .ok (.aload_n 0, 1) := by decide +kernel
theorem dX2_init_10 : decode cX2_init 10 = .ok (.aload_n 2, 1) := by decide +kernel
theorem dX2_init_11 : decode cX2_init 11 = .ok (.putfield 15, 3) := by decide +kernel
theorem dX2_init_14 : decode cX2_init 14 = .ok (.aload_n 0, 1) := by decide +kernel
theorem dX2_init_15 : decode cX2_init 15 = .ok (.bipush 6, 2) := by decide +kernel
theorem dX2_init_17 : decode cX2_init 17 = .ok (.newarray .int, 2) := by decide +kernel
theorem dX2_init_19 : decode cX2_init 19 = .ok (.putfield 19, 3) := by decide +kernel
theorem dX2_init_22 : decode cX2_init 22 = .ok (.aload_n 0, 1) := by decide +kernel
theorem dX2_init_23 : decode cX2_init 23 = .ok (.sipush 201, 3) := by decide +kernel
theorem dX2_init_26 : decode cX2_init 26 = .ok (.newarray .long, 2) := by decide +kernel
theorem dX2_init_28 : decode cX2_init 28 = .ok (.putfield 23, 3) := by decide +kernel
theorem dX2_init_31 : decode cX2_init 31 = .ok (.return_, 1) := by decide +kernel
theorem dX3_init_0 : decode cX3_init 0 = .ok (.aload_n 0, 1) := by decide +kernel
theorem dX3_init_1 : decode cX3_init 1 = .ok (.invokespecial 3, 3) := by decide +kernel
theorem dX3_init_4 : decode cX3_init 4 = .ok (.aload_n 0, 1) := by decide +kernel
theorem dX3_init_5 : decode cX3_init 5 = .ok (.bipush 30, 2) := by decide +kernel
theorem dX3_init_7 : decode cX3_init 7 = .ok (.newarray .int, 2) := by decide +kernel
theorem dX3_init_9 : decode cX3_init 9 = .ok (.putfield 9, 3) := by decide +kernel
theorem dX3_init_12 : decode cX3_init 12 = .ok (.aload_n 0, 1) := by decide +kernel
theorem dX3_init_13 : decode cX3_init 13 = .ok (.bipush 30, 2) := by decide +kernel
theorem dX3_init_15 : decode cX3_init 15 = .ok (.newarray .int, 2) := by decide +kernel
theorem dX3_init_17 : decode cX3_init 17 = .ok (.putfield 15, 3) := by decide +kernel
theorem dX3_init_20 : decode cX3_init 20 = .ok (.aload_n 0, 1) := by decide +kernel
theorem dX3_init_21 : decode cX3_init 21 = .ok (.bipush 30, 2) := by decide +kernel
theorem dX3_init_23 : decode cX3_init 23 = .ok (.newarray .int, 2) := by decide +kernel
theorem dX3_init_25 : decode cX3_init 25 = .ok (.putfield 18, 3) := by decide +kernel
theorem dX3_init_28 : decode cX3_init 28 = .ok (.aload_n 0, 1) := by decide +kernel
theorem dX3_init_29 : decode cX3_init 29 = .ok (.bipush 10, 2) := by decide +kernel
theorem dX3_init_31 : decode cX3_init 31 = .ok (.newarray .int, 2) := by decide +kernel
theorem dX3_init_33 : decode cX3_init 33 = .ok (.putfield 21, 3) := by decide +kernel
theorem dX3_init_36 : decode cX3_init 36 = .ok (.return_, 1) := by decide +kernel
theorem dX3_firstFault_0 : decode cX3_firstFault 0 = .ok (.iconst 0, 1) := by decide +kernel
theorem dX3_firstFault_1 : decode cX3_firstFault 1 = .ok (.istore 4, 2) := by decide +kernel
theorem dX3_firstFault_3 : decode cX3_firstFault 3 = .ok (.iconst 1, 1) := by decide +kernel
theorem dX3_firstFault_4 : decode cX3_firstFault 4 = .ok (.istore 5, 2) := by decide +kernel
theorem dX3_firstFault_6 : decode cX3_firstFault 6 = .ok (.iconst 0, 1) := by decide +kernel
theorem dX3_firstFault_7 : decode cX3_firstFault 7 = .ok (.istore 6, 2) := by decide +kernel
theorem dX3_firstFault_9 : decode cX3_firstFault 9 = .ok (.iload 6, 2) := by decide +kernel
theorem dX3_firstFault_11 : decode cX3_firstFault 11 = .ok (.iload_n 3, 1) := by decide +kernel
theorem dX3_firstFault_12 : decode cX3_firstFault 12 = .ok (.if_icmp .ge 185, 3) := by decide +kernel
theorem dX3_firstFault_15 : decode cX3_firstFault 15 = .ok (.aload_n 1, 1) := by decide +kernel
theorem dX3_firstFault_16 : decode cX3_firstFault 16 = .ok (.iload_n 2, 1) := by decide +kernel
theorem dX3_firstFault_17 : decode cX3_firstFault 17 = .ok (.iload 6, 2) := by decide +kernel
theorem dX3_firstFault_19 : decode cX3_firstFault 19 = .ok (.iadd, 1) := by decide +kernel
theorem dX3_firstFault_20 : decode cX3_firstFault 20 = .ok (.iaload, 1) := by decide +kernel
theorem dX3_firstFault_21 : decode cX3_firstFault 21 = .ok (.istore 7, 2) := by decide +kernel
theorem dX3_firstFault_23 : decode cX3_firstFault 23 = .ok (.iload 7, 2) := by decide +kernel
theorem dX3_firstFault_25 : decode cX3_firstFault 25 = .ok (.bipush 48, 2) := by decide +kernel
theorem dX3_firstFault_27 : decode cX3_firstFault 27 = .ok (.isub, 1) := by decide +kernel
theorem dX3_firstFault_28 : decode cX3_firstFault 28 = .ok (.istore 8, 2) := by decide +kernel
theorem dX3_firstFault_30 : decode cX3_firstFault 30 = .ok (.iload 6, 2) := by decide +kernel
theorem dX3_firstFault_32 : decode cX3_firstFault 32 = .ok (.ifCond .ne 20, 3) := by decide +kernel
theorem dX3_firstFault_35 : decode cX3_firstFault 35 = .ok (.iload 7, 2) := by decide +kernel
theorem dX3_firstFault_37 : decode cX3_firstFault 37 = .ok (.bipush 103, 2) := by decide +kernel
theorem dX3_firstFault_39 : decode cX3_firstFault 39 = .ok (.if_icmp .ne 7, 3) := by decide +kernel
theorem dX3_firstFault_42 : decode cX3_firstFault 42 = .ok (.iconst 1, 1) := by decide +kernel
theorem dX3_firstFault_43 : decode cX3_firstFault 43 = .ok (.goto 4, 3) := by decide +kernel
theorem dX3_firstFault_46 : decode cX3_firstFault 46 = .ok (.iconst 0, 1) := by decide +kernel
theorem dX3_firstFault_47 : decode cX3_firstFault 47 = .ok (.istore 9, 2) := by decide +kernel
theorem dX3_firstFault_49 : decode cX3_firstFault 49 = .ok (.goto 134, 3) := by decide +kernel
theorem dX3_firstFault_52 : decode cX3_firstFault 52 = .ok (.iload 6, 2) := by decide +kernel
theorem dX3_firstFault_54 : decode cX3_firstFault 54 = .ok (.iconst 1, 1) := by decide +kernel
theorem dX3_firstFault_55 : decode cX3_firstFault 55 = .ok (.if_icmp .ne 29, 3) := by decide +kernel
theorem dX3_firstFault_58 : decode cX3_firstFault 58 = .ok (.iload 8, 2) := by decide +kernel
theorem dX3_firstFault_60 : decode cX3_firstFault 60 = .ok (.iconst 2, 1) := by decide +kernel
theorem dX3_firstFault_61 : decode cX3_firstFault 61 = .ok (.if_icmp .lt 13, 3) := by decide +kernel
theorem dX3_firstFault_64 : decode cX3_firstFault 64 = .ok (.iload 8, 2) := by decide +kernel
theorem dX3_firstFault_66 : decode cX3_firstFault 66 = .ok (.iconst 5, 1) := by decide +kernel
theorem dX3_firstFault_67 : decode cX3_firstFault 67 = .ok (.if_icmp .gt 7, 3) := by decide +kernel
theorem dX3_firstFault_70 : decode cX3_firstFault 70 = .ok (.iconst 1, 1) := by decide +kernel
theorem dX3_firstFault_71 : decode cX3_firstFault 71 = .ok (.goto 4, 3) := by decide +kernel
theorem dX3_firstFault_74 : decode cX3_firstFault 74 = .ok (.iconst 0, 1) := by decide +kernel
theorem dX3_firstFault_75 : decode cX3_firstFault 75 = .ok (.istore 9, 2) := by decide +kernel
theorem dX3_firstFault_77 : decode cX3_firstFault 77 = .ok (.iload 8, 2) := by decide +kernel
theorem dX3_firstFault_79 : decode cX3_firstFault 79 = .ok (.istore 4, 2) := by decide +kernel
theorem dX3_firstFault_81 : decode cX3_firstFault 81 = .ok (.goto 102, 3) := by decide +kernel
theorem dX3_firstFault_84 : decode cX3_firstFault 84 = .ok (.iload 6, 2) := by decide +kernel
theorem dX3_firstFault_86 : decode cX3_firstFault 86 = .ok (.iconst 2, 1) := by decide +kernel
theorem dX3_firstFault_87 : decode cX3_firstFault 87 = .ok (.if_icmp .ne 32, 3) := by decide +kernel
theorem dX3_firstFault_90 : decode cX3_firstFault 90 = .ok (.iload 8, 2) := by decide +kernel
theorem dX3_firstFault_92 : decode cX3_firstFault 92 = .ok (.iconst 2, 1) := by decide +kernel
theorem dX3_firstFault_93 : decode cX3_firstFault 93 = .ok (.if_icmp .lt 14, 3) := by decide +kernel
theorem dX3_firstFault_96 : decode cX3_firstFault 96 = .ok (.iload 8, 2) := by decide +kernel
theorem dX3_firstFault_98 : decode cX3_firstFault 98 = .ok (.bipush 6, 2) := by decide +kernel
theorem dX3_firstFault_100 : decode cX3_firstFault 100 = .ok (.if_icmp .gt 7, 3) := by decide +kernel
theorem dX3_firstFault_103 : decode cX3_firstFault 103 = .ok (.iconst 1, 1) := by decide +kernel
theorem dX3_firstFault_104 : decode cX3_firstFault 104 = .ok (.goto 4, 3) := by decide +kernel
theorem dX3_firstFault_107 : decode cX3_firstFault 107 = .ok (.iconst 0, 1) := by decide +kernel
theorem dX3_firstFault_108 : decode cX3_firstFault 108 = .ok (.istore 9, 2) := by decide +kernel
theorem dX3_firstFault_110 : decode cX3_firstFault 110 = .ok (.iconst 1, 1) := by decide +kernel
theorem dX3_firstFault_111 : decode cX3_firstFault 111 = .ok (.iload 8, 2) := by decide +kernel
theorem dX3_firstFault_113 : decode cX3_firstFault 113 = .ok (.iadd, 1) := by decide +kernel
theorem dX3_firstFault_114 : decode cX3_firstFault 114 = .ok (.istore 5, 2) := by decide +kernel
theorem dX3_firstFault_116 : decode cX3_firstFault 116 = .ok (.goto 67, 3) := by decide +kernel
theorem dX3_firstFault_119 : decode cX3_firstFault 119 = .ok (.iload 6, 2) := by decide +kernel
theorem dX3_firstFault_121 : decode cX3_firstFault 121 = .ok (.iconst 3, 1) := by decide +kernel
theorem dX3_firstFault_122 : decode cX3_firstFault 122 = .ok (.iload 4, 2) := by decide +kernel
theorem dX3_firstFault_124 : decode cX3_firstFault 124 = .ok (.iload 5, 2) := by decide +kernel
theorem dX3_firstFault_126 : decode cX3_firstFault 126 = .ok (.imul, 1) := by decide +kernel
theorem dX3_firstFault_127 : decode cX3_firstFault 127 = .ok (.iadd, 1) := by decide +kernel
theorem dX3_firstFault_128 : decode cX3_firstFault 128 = .ok (.if_icmp .lt 9, 3) := by decide +kernel
theorem dX3_firstFault_131 : decode cX3_firstFault 131 = .ok (.iconst 0, 1) := by decide +kernel
theorem dX3_firstFault_132 : decode cX3_firstFault 132 = .ok (.istore 9, 2) := by decide +kernel
theorem dX3_firstFault_134 : decode cX3_firstFault 134 = .ok (.goto 49, 3) := by decide +kernel
theorem dX3_firstFault_137 : decode cX3_firstFault 137 = .ok (.iload 6, 2) := by decide +kernel
theorem dX3_firstFault_139 : decode cX3_firstFault 139 = .ok (.iconst 3, 1) := by decide +kernel
theorem dX3_firstFault_140 : decode cX3_firstFault 140 = .ok (.isub, 1) := by decide +kernel
theorem dX3_firstFault_141 : decode cX3_firstFault 141 = .ok (.iload 5, 2) := by decide +kernel
theorem dX3_firstFault_143 : decode cX3_firstFault 143 = .ok (.irem, 1) := by decide +kernel
theorem dX3_firstFault_144 : decode cX3_firstFault 144 = .ok (.ifCond .ne 20, 3) := by decide +kernel
theorem dX3_firstFault_147 : decode cX3_firstFault 147 = .ok (.iload 7, 2) := by decide +kernel
theorem dX3_firstFault_149 : decode cX3_firstFault 149 = .ok (.bipush 59, 2) := by decide +kernel
theorem dX3_firstFault_151 : decode cX3_firstFault 151 = .ok (.if_icmp .ne 7, 3) := by decide +kernel
theorem dX3_firstFault_154 : decode cX3_firstFault 154 = .ok (.iconst 1, 1) := by decide +kernel
theorem dX3_firstFault_155 : decode cX3_firstFault 155 = .ok (.goto 4, 3) := by decide +kernel
theorem dX3_firstFault_158 : decode cX3_firstFault 158 = .ok (.iconst 0, 1) := by decide +kernel
theorem dX3_firstFault_159 : decode cX3_firstFault 159 = .ok (.istore 9, 2) := by decide +kernel
theorem dX3_firstFault_161 : decode cX3_firstFault 161 = .ok (.goto 22, 3) := by decide +kernel
theorem dX3_firstFault_164 : decode cX3_firstFault 164 = .ok (.iload 8, 2) := by decide +kernel
theorem dX3_firstFault_166 : decode cX3_firstFault 166 = .ok (.ifCond .lt 14, 3) := by decide +kernel
theorem dX3_firstFault_169 : decode cX3_firstFault 169 = .ok (.iload 8, 2) := by decide +kernel
theorem dX3_firstFault_171 : decode cX3_firstFault 171 = .ok (.bipush 9, 2) := by decide +kernel
theorem dX3_firstFault_173 : decode cX3_firstFault 173 = .ok (.if_icmp .gt 7, 3) := by decide +kernel
theorem dX3_firstFault_176 : decode cX3_firstFault 176 = .ok (.iconst 1, 1) := by decide +kernel
theorem dX3_firstFault_177 : decode cX3_firstFault 177 = .ok (.goto 4, 3) := by decide +kernel
theorem dX3_firstFault_180 : decode cX3_firstFault 180 = .ok (.iconst 0, 1) := by decide +kernel
theorem dX3_firstFault_181 : decode cX3_firstFault 181 = .ok (.istore 9, 2) := by decide +kernel
theorem dX3_firstFault_183 : decode cX3_firstFault 183 = .ok (.iload 9, 2) := by decide +kernel
theorem dX3_firstFault_185 : decode cX3_firstFault 185 = .ok (.ifCond .ne 6, 3) := by decide +kernel
theorem dX3_firstFault_188 : decode cX3_firstFault 188 = .ok (.iload 6, 2) := by decide +kernel
theorem dX3_firstFault_190 : decode cX3_firstFault 190 = .ok (.ireturn, 1) := by decide +kernel
theorem dX3_firstFault_191 : decode cX3_firstFault 191 = .ok (.iinc 6 1, 3) := by decide +kernel
theorem dX3_firstFault_194 : decode cX3_firstFault 194 = .ok (.goto (-185), 3) := by decide +kernel
theorem dX3_firstFault_197 : decode cX3_firstFault 197 = .ok (.iload_n 3, 1) := by decide +kernel
theorem dX3_firstFault_198 : decode cX3_firstFault 198 = .ok (.iconst 2, 1) := by decide +kernel
theorem dX3_firstFault_199 : decode cX3_firstFault 199 = .ok (.if_icmp .le 19, 3) := by decide +kernel
theorem dX3_firstFault_202 : decode cX3_firstFault 202 = .ok (.iload_n 3, 1) := by decide +kernel
theorem dX3_firstFault_203 : decode cX3_firstFault 203 = .ok (.iconst 3, 1) := by decide +kernel
theorem dX3_firstFault_204 : decode cX3_firstFault 204 = .ok (.iload 4, 2) := by decide +kernel
theorem dX3_firstFault_206 : decode cX3_firstFault 206 = .ok (.iload 5, 2) := by decide +kernel
theorem dX3_firstFault_208 : decode cX3_firstFault 208 = .ok (.imul, 1) := by decide +kernel
theorem dX3_firstFault_209 : decode cX3_firstFault 209 = .ok (.iadd, 1) := by decide +kernel
theorem dX3_firstFault_210 : decode cX3_firstFault 210 = .ok (.if_icmp .ne 8, 3) := by decide +kernel
theorem dX3_firstFault_213 : decode cX3_firstFault 213 = .ok (.bipush (-9), 2) := by decide +kernel
theorem dX3_firstFault_215 : decode cX3_firstFault 215 = .ok (.goto 4, 3) := by decide +kernel
theorem dX3_firstFault_218 : decode cX3_firstFault 218 = .ok (.iload_n 3, 1) := by decide +kernel
theorem dX3_firstFault_219 : decode cX3_firstFault 219 = .ok (.ireturn, 1) := by decide +kernel
theorem dX3_take_0 : decode cX3_take 0 = .ok (.aload_n 0, 1) := by decide +kernel
theorem dX3_take_1 : decode cX3_take 1 = .ok (.aload_n 1, 1) := by decide +kernel
theorem dX3_take_2 : decode cX3_take 2 = .ok (.iload_n 2, 1) := by decide +kernel
theorem dX3_take_3 : decode cX3_take 3 = .ok (.iconst 1, 1) := by decide +kernel
theorem dX3_take_4 : decode cX3_take 4 = .ok (.iadd, 1) := by decide +kernel
theorem dX3_take_5 : decode cX3_take 5 = .ok (.iaload, 1) := by decide +kernel
theorem dX3_take_6 : decode cX3_take 6 = .ok (.bipush 48, 2) := by decide +kernel
theorem dX3_take_8 : decode cX3_take 8 = .ok (.isub, 1) := by decide +kernel
theorem dX3_take_9 : decode cX3_take 9 = .ok (.putfield 24, 3) := by decide +kernel
theorem dX3_take_12 : decode cX3_take 12 = .ok (.aload_n 0, 1) := by decide +kernel
theorem dX3_take_13 : decode cX3_take 13 = .ok (.aload_n 1, 1) := by decide +kernel
theorem dX3_take_14 : decode cX3_take 14 = .ok (.iload_n 2, 1) := by decide +kernel
theorem dX3_take_15 : decode cX3_take 15 = .ok (.iconst 2, 1) := by decide +kernel
theorem dX3_take_16 : decode cX3_take 16 = .ok (.iadd, 1) := by decide +kernel
theorem dX3_take_17 : decode cX3_take 17 = .ok (.iaload, 1) := by decide +kernel
theorem dX3_take_18 : decode cX3_take 18 = .ok (.bipush 48, 2) := by decide +kernel
theorem dX3_take_20 : decode cX3_take 20 = .ok (.isub, 1) := by decide +kernel
theorem dX3_take_21 : decode cX3_take 21 = .ok (.putfield 28, 3) := by decide +kernel
theorem dX3_take_24 : decode cX3_take 24 = .ok (.aload_n 0, 1) := by decide +kernel
theorem dX3_take_25 : decode cX3_take 25 = .ok (.aload_n 0, 1) := by decide +kernel
theorem dX3_take_26 : decode cX3_take 26 = .ok (.getfield 24, 3) := by decide +kernel
theorem dX3_take_29 : decode cX3_take 29 = .ok (.aload_n 0, 1) := by decide +kernel
theorem dX3_take_30 : decode cX3_take 30 = .ok (.getfield 28, 3) := by decide +kernel
theorem dX3_take_33 : decode cX3_take 33 = .ok (.imul, 1) := by decide +kernel
theorem dX3_take_34 : decode cX3_take 34 = .ok (.putfield 31, 3) := by decide +kernel
theorem dX3_take_37 : decode cX3_take 37 = .ok (.aload_n 0, 1) := by decide +kernel
theorem dX3_take_38 : decode cX3_take 38 = .ok (.iconst 0, 1) := by decide +kernel
theorem dX3_take_39 : decode cX3_take 39 = .ok (.putfield 34, 3) := by decide +kernel
theorem dX3_take_42 : decode cX3_take 42 = .ok (.aload_n 0, 1) := by decide +kernel
theorem dX3_take_43 : decode cX3_take 43 = .ok (.getfield 21, 3) := by decide +kernel
theorem dX3_take_46 : decode cX3_take 46 = .ok (.iconst 0, 1) := by decide +kernel
theorem dX3_take_47 : decode cX3_take 47 = .ok (.invokestatic 37, 3) := by decide +kernel
theorem dX3_take_50 : decode cX3_take 50 = .ok (.iconst 0, 1) := by decide +kernel
theorem dX3_take_51 : decode cX3_take 51 = .ok (.istore_n 3, 1) := by decide +kernel
theorem dX3_take_52 : decode cX3_take 52 = .ok (.iload_n 3, 1) := by decide +kernel
theorem dX3_take_53 : decode cX3_take 53 = .ok (.aload_n 0, 1) := by decide +kernel
theorem dX3_take_54 : decode cX3_take 54 = .ok (.getfield 24, 3) := by decide +kernel
theorem dX3_take_57 : decode cX3_take 57 = .ok (.if_icmp .ge 117, 3) := by decide +kernel
theorem dX3_take_60 : decode cX3_take 60 = .ok (.iconst 0, 1) := by decide +kernel
theorem dX3_take_61 : decode cX3_take 61 = .ok (.istore 4, 2) := by decide +kernel
theorem dX3_take_63 : decode cX3_take 63 = .ok (.iload 4, 2) := by decide +kernel
theorem dX3_take_65 : decode cX3_take 65 = .ok (.aload_n 0, 1) := by decide +kernel
theorem dX3_take_66 : decode cX3_take 66 = .ok (.getfield 28, 3) := by decide +kernel
theorem dX3_take_69 : decode cX3_take 69 = .ok (.if_icmp .ge 99, 3) := by decide +kernel
theorem dX3_take_72 : decode cX3_take 72 = .ok (.iload_n 3, 1) := by decide +kernel
theorem dX3_take_73 : decode cX3_take 73 = .ok (.aload_n 0, 1) := by decide +kernel
theorem dX3_take_74 : decode cX3_take 74 = .ok (.getfield 28, 3) := by decide +kernel
theorem dX3_take_77 : decode cX3_take 77 = .ok (.imul, 1) := by decide +kernel
theorem dX3_take_78 : decode cX3_take 78 = .ok (.iload 4, 2) := by decide +kernel
theorem dX3_take_80 : decode cX3_take 80 = .ok (.iadd, 1) := by decide +kernel
theorem dX3_take_81 : decode cX3_take 81 = .ok (.istore 5, 2) := by decide +kernel
theorem dX3_take_83 : decode cX3_take 83 = .ok (.aload_n 0, 1) := by decide +kernel
theorem dX3_take_84 : decode cX3_take 84 = .ok (.getfield 15, 3) := by decide +kernel
theorem dX3_take_87 : decode cX3_take 87 = .ok (.iload 5, 2) := by decide +kernel
theorem dX3_take_89 : decode cX3_take 89 = .ok (.iload_n 3, 1) := by decide +kernel
theorem dX3_take_90 : decode cX3_take 90 = .ok (.iastore, 1) := by decide +kernel
theorem dX3_take_91 : decode cX3_take 91 = .ok (.aload_n 0, 1) := by decide +kernel
theorem dX3_take_92 : decode cX3_take 92 = .ok (.getfield 18, 3) := by decide +kernel
theorem dX3_take_95 : decode cX3_take 95 = .ok (.iload 5, 2) := by decide +kernel
theorem dX3_take_97 : decode cX3_take 97 = .ok (.iload 4, 2) := by decide +kernel
theorem dX3_take_99 : decode cX3_take 99 = .ok (.iastore, 1) := by decide +kernel
theorem dX3_take_100 : decode cX3_take 100 = .ok (.aload_n 0, 1) := by decide +kernel
theorem dX3_take_101 : decode cX3_take 101 = .ok (.getfield 9, 3) := by decide +kernel
theorem dX3_take_104 : decode cX3_take 104 = .ok (.iload 5, 2) := by decide +kernel
theorem dX3_take_106 : decode cX3_take 106 = .ok (.aload_n 1, 1) := by decide +kernel
theorem dX3_take_107 : decode cX3_take 107 = .ok (.iload_n 2, 1) := by decide +kernel
theorem dX3_take_108 : decode cX3_take 108 = .ok (.iconst 4, 1) := by decide +kernel
theorem dX3_take_109 : decode cX3_take 109 = .ok (.iadd, 1) := by decide +kernel
theorem dX3_take_110 : decode cX3_take 110 = .ok (.iload_n 3, 1) := by decide +kernel
theorem dX3_take_111 : decode cX3_take 111 = .ok (.aload_n 0, 1) := by decide +kernel
theorem dX3_take_112 : decode cX3_take 112 = .ok (.getfield 28, 3) := by decide +kernel
theorem dX3_take_115 : decode cX3_take 115 = .ok (.iconst 1, 1) := by decide +kernel
theorem dX3_take_116 : decode cX3_take 116 = .ok (.iadd, 1) := by decide +kernel
theorem dX3_take_117 : decode cX3_take 117 = .ok (.imul, 1) := by decide +kernel
theorem dX3_take_118 : decode cX3_take 118 = .ok (.iadd, 1) := by decide +kernel
theorem dX3_take_119 : decode cX3_take 119 = .ok (.iload 4, 2) := by decide +kernel
theorem dX3_take_121 : decode cX3_take 121 = .ok (.iadd, 1) := by decide +kernel
theorem dX3_take_122 : decode cX3_take 122 = .ok (.iaload, 1) := by decide +kernel
theorem dX3_take_123 : decode cX3_take 123 = .ok (.bipush 48, 2) := by decide +kernel
theorem dX3_take_125 : decode cX3_take 125 = .ok (.isub, 1) := by decide +kernel
theorem dX3_take_126 : decode cX3_take 126 = .ok (.iastore, 1) := by decide +kernel
theorem dX3_take_127 : decode cX3_take 127 = .ok (.iconst 0, 1) := by decide +kernel
theorem dX3_take_128 : decode cX3_take 128 = .ok (.istore 6, 2) := by decide +kernel
theorem dX3_take_130 : decode cX3_take 130 = .ok (.iload 6, 2) := by decide +kernel
theorem dX3_take_132 : decode cX3_take 132 = .ok (.aload_n 0, 1) := by decide +kernel
theorem dX3_take_133 : decode cX3_take 133 = .ok (.getfield 9, 3) := by decide +kernel
theorem dX3_take_136 : decode cX3_take 136 = .ok (.iload 5, 2) := by decide +kernel
theorem dX3_take_138 : decode cX3_take 138 = .ok (.iaload, 1) := by decide +kernel
theorem dX3_take_139 : decode cX3_take 139 = .ok (.if_icmp .ge 23, 3) := by decide +kernel
theorem dX3_take_142 : decode cX3_take 142 = .ok (.aload_n 0, 1) := by decide +kernel
theorem dX3_take_143 : decode cX3_take 143 = .ok (.getfield 21, 3) := by decide +kernel
theorem dX3_take_146 : decode cX3_take 146 = .ok (.iload 6, 2) := by decide +kernel
theorem dX3_take_148 : decode cX3_take 148 = .ok (.dup2, 1) := by decide +kernel
theorem dX3_take_149 : decode cX3_take 149 = .ok (.iaload, 1) := by decide +kernel
theorem dX3_take_150 : decode cX3_take 150 = .ok (.iconst 1, 1) := by decide +kernel
theorem dX3_take_151 : decode cX3_take 151 = .ok (.iload 5, 2) := by decide +kernel
theorem dX3_take_153 : decode cX3_take 153 = .ok (.ishl, 1) := by decide +kernel
theorem dX3_take_154 : decode cX3_take 154 = .ok (.ior, 1) := by decide +kernel
theorem dX3_take_155 : decode cX3_take 155 = .ok (.iastore, 1) := by decide +kernel
theorem dX3_take_156 : decode cX3_take 156 = .ok (.iinc 6 1, 3) := by decide +kernel
theorem dX3_take_159 : decode cX3_take 159 = .ok (.goto (-29), 3) := by decide +kernel
theorem dX3_take_162 : decode cX3_take 162 = .ok (.iinc 4 1, 3) := by decide +kernel
theorem dX3_take_165 : decode cX3_take 165 = .ok (.goto (-102), 3) := by decide +kernel
theorem dX3_take_168 : decode cX3_take 168 = .ok (.iinc 3 1, 3) := by decide +kernel
theorem dX3_take_171 : decode cX3_take 171 = .ok (.goto (-119), 3) := by decide +kernel
theorem dX3_take_174 : decode cX3_take 174 = .ok (.return_, 1) := by decide +kernel
theorem dX3_isPlanted_0 : decode cX3_isPlanted 0 = .ok (.aload_n 0, 1) := by decide +kernel
theorem dX3_isPlanted_1 : decode cX3_isPlanted 1 = .ok (.getfield 34, 3) := by decide +kernel
theorem dX3_isPlanted_4 : decode cX3_isPlanted 4 = .ok (.iload_n 1, 1) := by decide +kernel
theorem dX3_isPlanted_5 : decode cX3_isPlanted 5 = .ok (.ishr, 1) := by decide +kernel
theorem dX3_isPlanted_6 : decode cX3_isPlanted 6 = .ok (.iconst 1, 1) := by decide +kernel
theorem dX3_isPlanted_7 : decode cX3_isPlanted 7 = .ok (.iand, 1) := by decide +kernel
theorem dX3_isPlanted_8 : decode cX3_isPlanted 8 = .ok (.iconst 1, 1) := by decide +kernel
theorem dX3_isPlanted_9 : decode cX3_isPlanted 9 = .ok (.if_icmp .ne 7, 3) := by decide +kernel
theorem dX3_isPlanted_12 : decode cX3_isPlanted 12 = .ok (.iconst 1, 1) := by decide +kernel
theorem dX3_isPlanted_13 : decode cX3_isPlanted 13 = .ok (.goto 4, 3) := by decide +kernel
theorem dX3_isPlanted_16 : decode cX3_isPlanted 16 = .ok (.iconst 0, 1) := by decide +kernel
theorem dX3_isPlanted_17 : decode cX3_isPlanted 17 = .ok (.ireturn, 1) := by decide +kernel
theorem dX3_titheOf_0 : decode cX3_titheOf 0 = .ok (.bipush 10, 2) := by decide +kernel
theorem dX3_titheOf_2 : decode cX3_titheOf 2 = .ok (.aload_n 0, 1) := by decide +kernel
theorem dX3_titheOf_3 : decode cX3_titheOf 3 = .ok (.getfield 9, 3) := by decide +kernel
theorem dX3_titheOf_6 : decode cX3_titheOf 6 = .ok (.iload_n 1, 1) := by decide +kernel
theorem dX3_titheOf_7 : decode cX3_titheOf 7 = .ok (.iaload, 1) := by decide +kernel
theorem dX3_titheOf_8 : decode cX3_titheOf 8 = .ok (.isub, 1) := by decide +kernel
theorem dX3_titheOf_9 : decode cX3_titheOf 9 = .ok (.ireturn, 1) := by decide +kernel
theorem dX3_apart_0 : decode cX3_apart 0 = .ok (.aload_n 0, 1) := by decide +kernel
theorem dX3_apart_1 : decode cX3_apart 1 = .ok (.getfield 15, 3) := by decide +kernel
theorem dX3_apart_4 : decode cX3_apart 4 = .ok (.iload_n 2, 1) := by decide +kernel
theorem dX3_apart_5 : decode cX3_apart 5 = .ok (.iaload, 1) := by decide +kernel
theorem dX3_apart_6 : decode cX3_apart 6 = .ok (.aload_n 0, 1) := by decide +kernel
theorem dX3_apart_7 : decode cX3_apart 7 = .ok (.getfield 15, 3) := by decide +kernel
theorem dX3_apart_10 : decode cX3_apart 10 = .ok (.iload_n 1, 1) := by decide +kernel
theorem dX3_apart_11 : decode cX3_apart 11 = .ok (.iaload, 1) := by decide +kernel
theorem dX3_apart_12 : decode cX3_apart 12 = .ok (.isub, 1) := by decide +kernel
theorem dX3_apart_13 : decode cX3_apart 13 = .ok (.istore_n 3, 1) := by decide +kernel
theorem dX3_apart_14 : decode cX3_apart 14 = .ok (.aload_n 0, 1) := by decide +kernel
theorem dX3_apart_15 : decode cX3_apart 15 = .ok (.getfield 18, 3) := by decide +kernel
theorem dX3_apart_18 : decode cX3_apart 18 = .ok (.iload_n 2, 1) := by decide +kernel
theorem dX3_apart_19 : decode cX3_apart 19 = .ok (.iaload, 1) := by decide +kernel
theorem dX3_apart_20 : decode cX3_apart 20 = .ok (.aload_n 0, 1) := by decide +kernel
theorem dX3_apart_21 : decode cX3_apart 21 = .ok (.getfield 18, 3) := by decide +kernel
theorem dX3_apart_24 : decode cX3_apart 24 = .ok (.iload_n 1, 1) := by decide +kernel
theorem dX3_apart_25 : decode cX3_apart 25 = .ok (.iaload, 1) := by decide +kernel
theorem dX3_apart_26 : decode cX3_apart 26 = .ok (.isub, 1) := by decide +kernel
theorem dX3_apart_27 : decode cX3_apart 27 = .ok (.istore 4, 2) := by decide +kernel
theorem dX3_apart_29 : decode cX3_apart 29 = .ok (.iload_n 3, 1) := by decide +kernel
theorem dX3_apart_30 : decode cX3_apart 30 = .ok (.iload_n 3, 1) := by decide +kernel
theorem dX3_apart_31 : decode cX3_apart 31 = .ok (.imul, 1) := by decide +kernel
theorem dX3_apart_32 : decode cX3_apart 32 = .ok (.iload 4, 2) := by decide +kernel
theorem dX3_apart_34 : decode cX3_apart 34 = .ok (.iload 4, 2) := by decide +kernel
theorem dX3_apart_36 : decode cX3_apart 36 = .ok (.imul, 1) := by decide +kernel
theorem dX3_apart_37 : decode cX3_apart 37 = .ok (.iadd, 1) := by decide +kernel
theorem dX3_apart_38 : decode cX3_apart 38 = .ok (.ireturn, 1) := by decide +kernel
theorem dX3_between_0 : decode cX3_between 0 = .ok (.aload_n 0, 1) := by decide +kernel
theorem dX3_between_1 : decode cX3_between 1 = .ok (.getfield 15, 3) := by decide +kernel
theorem dX3_between_4 : decode cX3_between 4 = .ok (.iload_n 2, 1) := by decide +kernel
theorem dX3_between_5 : decode cX3_between 5 = .ok (.iaload, 1) := by decide +kernel
theorem dX3_between_6 : decode cX3_between 6 = .ok (.aload_n 0, 1) := by decide +kernel
theorem dX3_between_7 : decode cX3_between 7 = .ok (.getfield 15, 3) := by decide +kernel
theorem dX3_between_10 : decode cX3_between 10 = .ok (.iload_n 1, 1) := by decide +kernel
theorem dX3_between_11 : decode cX3_between 11 = .ok (.iaload, 1) := by decide +kernel
theorem dX3_between_12 : decode cX3_between 12 = .ok (.isub, 1) := by decide +kernel
theorem dX3_between_13 : decode cX3_between 13 = .ok (.istore_n 3, 1) := by decide +kernel
theorem dX3_between_14 : decode cX3_between 14 = .ok (.aload_n 0, 1) := by decide +kernel
theorem dX3_between_15 : decode cX3_between 15 = .ok (.getfield 18, 3) := by decide +kernel
theorem dX3_between_18 : decode cX3_between 18 = .ok (.iload_n 2, 1) := by decide +kernel
theorem dX3_between_19 : decode cX3_between 19 = .ok (.iaload, 1) := by decide +kernel
theorem dX3_between_20 : decode cX3_between 20 = .ok (.aload_n 0, 1) := by decide +kernel
theorem dX3_between_21 : decode cX3_between 21 = .ok (.getfield 18, 3) := by decide +kernel
theorem dX3_between_24 : decode cX3_between 24 = .ok (.iload_n 1, 1) := by decide +kernel
theorem dX3_between_25 : decode cX3_between 25 = .ok (.iaload, 1) := by decide +kernel
theorem dX3_between_26 : decode cX3_between 26 = .ok (.isub, 1) := by decide +kernel
theorem dX3_between_27 : decode cX3_between 27 = .ok (.istore 4, 2) := by decide +kernel
theorem dX3_between_29 : decode cX3_between 29 = .ok (.iload_n 3, 1) := by decide +kernel
theorem dX3_between_30 : decode cX3_between 30 = .ok (.invokestatic 47, 3) := by decide +kernel
theorem dX3_between_33 : decode cX3_between 33 = .ok (.iload 4, 2) := by decide +kernel
theorem dX3_between_35 : decode cX3_between 35 = .ok (.invokestatic 47, 3) := by decide +kernel
theorem dX3_between_38 : decode cX3_between 38 = .ok (.invokestatic 52, 3) := by decide +kernel
theorem dX3_between_41 : decode cX3_between 41 = .ok (.istore 5, 2) := by decide +kernel
theorem dX3_between_43 : decode cX3_between 43 = .ok (.iconst 0, 1) := by decide +kernel
theorem dX3_between_44 : decode cX3_between 44 = .ok (.istore 6, 2) := by decide +kernel
theorem dX3_between_46 : decode cX3_between 46 = .ok (.iconst 1, 1) := by decide +kernel
theorem dX3_between_47 : decode cX3_between 47 = .ok (.istore 7, 2) := by decide +kernel
theorem dX3_between_49 : decode cX3_between 49 = .ok (.iload 7, 2) := by decide +kernel
theorem dX3_between_51 : decode cX3_between 51 = .ok (.iload 5, 2) := by decide +kernel
theorem dX3_between_53 : decode cX3_between 53 = .ok (.if_icmp .ge 61, 3) := by decide +kernel
theorem dX3_between_56 : decode cX3_between 56 = .ok (.aload_n 0, 1) := by decide +kernel
theorem dX3_between_57 : decode cX3_between 57 = .ok (.getfield 15, 3) := by decide +kernel
theorem dX3_between_60 : decode cX3_between 60 = .ok (.iload_n 1, 1) := by decide +kernel
theorem dX3_between_61 : decode cX3_between 61 = .ok (.iaload, 1) := by decide +kernel
theorem dX3_between_62 : decode cX3_between 62 = .ok (.iload 7, 2) := by decide +kernel
theorem dX3_between_64 : decode cX3_between 64 = .ok (.iload_n 3, 1) := by decide +kernel
theorem dX3_between_65 : decode cX3_between 65 = .ok (.iload 5, 2) := by decide +kernel
theorem dX3_between_67 : decode cX3_between 67 = .ok (.invokestatic 56, 3) := by decide +kernel
theorem dX3_between_70 : decode cX3_between 70 = .ok (.iadd, 1) := by decide +kernel
theorem dX3_between_71 : decode cX3_between 71 = .ok (.istore 8, 2) := by decide +kernel
theorem dX3_between_73 : decode cX3_between 73 = .ok (.aload_n 0, 1) := by decide +kernel
theorem dX3_between_74 : decode cX3_between 74 = .ok (.getfield 18, 3) := by decide +kernel
theorem dX3_between_77 : decode cX3_between 77 = .ok (.iload_n 1, 1) := by decide +kernel
theorem dX3_between_78 : decode cX3_between 78 = .ok (.iaload, 1) := by decide +kernel
theorem dX3_between_79 : decode cX3_between 79 = .ok (.iload 7, 2) := by decide +kernel
theorem dX3_between_81 : decode cX3_between 81 = .ok (.iload 4, 2) := by decide +kernel
theorem dX3_between_83 : decode cX3_between 83 = .ok (.iload 5, 2) := by decide +kernel
theorem dX3_between_85 : decode cX3_between 85 = .ok (.invokestatic 56, 3) := by decide +kernel
theorem dX3_between_88 : decode cX3_between 88 = .ok (.iadd, 1) := by decide +kernel
theorem dX3_between_89 : decode cX3_between 89 = .ok (.istore 9, 2) := by decide +kernel
theorem dX3_between_91 : decode cX3_between 91 = .ok (.iload 6, 2) := by decide +kernel
theorem dX3_between_93 : decode cX3_between 93 = .ok (.iconst 1, 1) := by decide +kernel
theorem dX3_between_94 : decode cX3_between 94 = .ok (.iload 8, 2) := by decide +kernel
theorem dX3_between_96 : decode cX3_between 96 = .ok (.aload_n 0, 1) := by decide +kernel
theorem dX3_between_97 : decode cX3_between 97 = .ok (.getfield 28, 3) := by decide +kernel
theorem dX3_between_100 : decode cX3_between 100 = .ok (.imul, 1) := by decide +kernel
theorem dX3_between_101 : decode cX3_between 101 = .ok (.iload 9, 2) := by decide +kernel
theorem dX3_between_103 : decode cX3_between 103 = .ok (.iadd, 1) := by decide +kernel
theorem dX3_between_104 : decode cX3_between 104 = .ok (.ishl, 1) := by decide +kernel
theorem dX3_between_105 : decode cX3_between 105 = .ok (.ior, 1) := by decide +kernel
theorem dX3_between_106 : decode cX3_between 106 = .ok (.istore 6, 2) := by decide +kernel
theorem dX3_between_108 : decode cX3_between 108 = .ok (.iinc 7 1, 3) := by decide +kernel
theorem dX3_between_111 : decode cX3_between 111 = .ok (.goto (-62), 3) := by decide +kernel
theorem dX3_between_114 : decode cX3_between 114 = .ok (.iload 6, 2) := by decide +kernel
theorem dX3_between_116 : decode cX3_between 116 = .ok (.ireturn, 1) := by decide +kernel
theorem dX3_stepsOn_0 : decode cX3_stepsOn 0 = .ok (.iconst 2, 1) := by decide +kernel
theorem dX3_stepsOn_1 : decode cX3_stepsOn 1 = .ok (.iload_n 0, 1) := by decide +kernel
theorem dX3_stepsOn_2 : decode cX3_stepsOn 2 = .ok (.imul, 1) := by decide +kernel
theorem dX3_stepsOn_3 : decode cX3_stepsOn 3 = .ok (.iload_n 1, 1) := by decide +kernel
theorem dX3_stepsOn_4 : decode cX3_stepsOn 4 = .ok (.imul, 1) := by decide +kernel
theorem dX3_stepsOn_5 : decode cX3_stepsOn 5 = .ok (.istore_n 3, 1) := by decide +kernel
theorem dX3_stepsOn_6 : decode cX3_stepsOn 6 = .ok (.iload_n 3, 1) := by decide +kernel
theorem dX3_stepsOn_7 : decode cX3_stepsOn 7 = .ok (.ifCond .ge 9, 3) := by decide +kernel
theorem dX3_stepsOn_10 : decode cX3_stepsOn 10 = .ok (.iload_n 3, 1) := by decide +kernel
theorem dX3_stepsOn_11 : decode cX3_stepsOn 11 = .ok (.iload_n 2, 1) := by decide +kernel
theorem dX3_stepsOn_12 : decode cX3_stepsOn 12 = .ok (.isub, 1) := by decide +kernel
theorem dX3_stepsOn_13 : decode cX3_stepsOn 13 = .ok (.goto 6, 3) := by decide +kernel
theorem dX3_stepsOn_16 : decode cX3_stepsOn 16 = .ok (.iload_n 3, 1) := by decide +kernel
theorem dX3_stepsOn_17 : decode cX3_stepsOn 17 = .ok (.iload_n 2, 1) := by decide +kernel
theorem dX3_stepsOn_18 : decode cX3_stepsOn 18 = .ok (.iadd, 1) := by decide +kernel
theorem dX3_stepsOn_19 : decode cX3_stepsOn 19 = .ok (.iconst 2, 1) := by decide +kernel
theorem dX3_stepsOn_20 : decode cX3_stepsOn 20 = .ok (.iload_n 2, 1) := by decide +kernel
theorem dX3_stepsOn_21 : decode cX3_stepsOn 21 = .ok (.imul, 1) := by decide +kernel
theorem dX3_stepsOn_22 : decode cX3_stepsOn 22 = .ok (.idiv, 1) := by decide +kernel
theorem dX3_stepsOn_23 : decode cX3_stepsOn 23 = .ok (.ireturn, 1) := by decide +kernel
theorem dX3_hillsOn_0 : decode cX3_hillsOn 0 = .ok (.iload_n 1, 1) := by decide +kernel
theorem dX3_hillsOn_1 : decode cX3_hillsOn 1 = .ok (.aload_n 0, 1) := by decide +kernel
theorem dX3_hillsOn_2 : decode cX3_hillsOn 2 = .ok (.getfield 21, 3) := by decide +kernel
theorem dX3_hillsOn_5 : decode cX3_hillsOn 5 = .ok (.aload_n 0, 1) := by decide +kernel
theorem dX3_hillsOn_6 : decode cX3_hillsOn 6 = .ok (.getfield 9, 3) := by decide +kernel
theorem dX3_hillsOn_9 : decode cX3_hillsOn 9 = .ok (.iload_n 2, 1) := by decide +kernel
theorem dX3_hillsOn_10 : decode cX3_hillsOn 10 = .ok (.iaload, 1) := by decide +kernel
theorem dX3_hillsOn_11 : decode cX3_hillsOn 11 = .ok (.aload_n 0, 1) := by decide +kernel
theorem dX3_hillsOn_12 : decode cX3_hillsOn 12 = .ok (.getfield 9, 3) := by decide +kernel
theorem dX3_hillsOn_15 : decode cX3_hillsOn 15 = .ok (.iload_n 3, 1) := by decide +kernel
theorem dX3_hillsOn_16 : decode cX3_hillsOn 16 = .ok (.iaload, 1) := by decide +kernel
theorem dX3_hillsOn_17 : decode cX3_hillsOn 17 = .ok (.invokestatic 52, 3) := by decide +kernel
theorem dX3_hillsOn_20 : decode cX3_hillsOn 20 = .ok (.iaload, 1) := by decide +kernel
theorem dX3_hillsOn_21 : decode cX3_hillsOn 21 = .ok (.iand, 1) := by decide +kernel
theorem dX3_hillsOn_22 : decode cX3_hillsOn 22 = .ok (.invokestatic 60, 3) := by decide +kernel
theorem dX3_hillsOn_25 : decode cX3_hillsOn 25 = .ok (.ireturn, 1) := by decide +kernel
theorem dX3_downwind_0 : decode cX3_downwind 0 = .ok (.iload_n 3, 1) := by decide +kernel
theorem dX3_downwind_1 : decode cX3_downwind 1 = .ok (.bipush 10, 2) := by decide +kernel
theorem dX3_downwind_3 : decode cX3_downwind 3 = .ok (.idiv, 1) := by decide +kernel
theorem dX3_downwind_4 : decode cX3_downwind 4 = .ok (.tableswitch 70 0 2 #[28, 42, 56], 28) := by decide +kernel
theorem dX3_downwind_32 : decode cX3_downwind 32 = .ok (.aload_n 0, 1) := by decide +kernel
theorem dX3_downwind_33 : decode cX3_downwind 33 = .ok (.getfield 15, 3) := by decide +kernel
theorem dX3_downwind_36 : decode cX3_downwind 36 = .ok (.iload_n 1, 1) := by decide +kernel
theorem dX3_downwind_37 : decode cX3_downwind 37 = .ok (.iaload, 1) := by decide +kernel
theorem dX3_downwind_38 : decode cX3_downwind 38 = .ok (.aload_n 0, 1) := by decide +kernel
theorem dX3_downwind_39 : decode cX3_downwind 39 = .ok (.getfield 15, 3) := by decide +kernel
theorem dX3_downwind_42 : decode cX3_downwind 42 = .ok (.iload_n 2, 1) := by decide +kernel
theorem dX3_downwind_43 : decode cX3_downwind 43 = .ok (.iaload, 1) := by decide +kernel
theorem dX3_downwind_44 : decode cX3_downwind 44 = .ok (.isub, 1) := by decide +kernel
theorem dX3_downwind_45 : decode cX3_downwind 45 = .ok (.ireturn, 1) := by decide +kernel
theorem dX3_downwind_46 : decode cX3_downwind 46 = .ok (.aload_n 0, 1) := by decide +kernel
theorem dX3_downwind_47 : decode cX3_downwind 47 = .ok (.getfield 18, 3) := by decide +kernel
theorem dX3_downwind_50 : decode cX3_downwind 50 = .ok (.iload_n 2, 1) := by decide +kernel
theorem dX3_downwind_51 : decode cX3_downwind 51 = .ok (.iaload, 1) := by decide +kernel
theorem dX3_downwind_52 : decode cX3_downwind 52 = .ok (.aload_n 0, 1) := by decide +kernel
theorem dX3_downwind_53 : decode cX3_downwind 53 = .ok (.getfield 18, 3) := by decide +kernel
theorem dX3_downwind_56 : decode cX3_downwind 56 = .ok (.iload_n 1, 1) := by decide +kernel
theorem dX3_downwind_57 : decode cX3_downwind 57 = .ok (.iaload, 1) := by decide +kernel
theorem dX3_downwind_58 : decode cX3_downwind 58 = .ok (.isub, 1) := by decide +kernel
theorem dX3_downwind_59 : decode cX3_downwind 59 = .ok (.ireturn, 1) := by decide +kernel
theorem dX3_downwind_60 : decode cX3_downwind 60 = .ok (.aload_n 0, 1) := by decide +kernel
theorem dX3_downwind_61 : decode cX3_downwind 61 = .ok (.getfield 15, 3) := by decide +kernel
theorem dX3_downwind_64 : decode cX3_downwind 64 = .ok (.iload_n 2, 1) := by decide +kernel
theorem dX3_downwind_65 : decode cX3_downwind 65 = .ok (.iaload, 1) := by decide +kernel
theorem dX3_downwind_66 : decode cX3_downwind 66 = .ok (.aload_n 0, 1) := by decide +kernel
theorem dX3_downwind_67 : decode cX3_downwind 67 = .ok (.getfield 15, 3) := by decide +kernel
theorem dX3_downwind_70 : decode cX3_downwind 70 = .ok (.iload_n 1, 1) := by decide +kernel
theorem dX3_downwind_71 : decode cX3_downwind 71 = .ok (.iaload, 1) := by decide +kernel
theorem dX3_downwind_72 : decode cX3_downwind 72 = .ok (.isub, 1) := by decide +kernel
theorem dX3_downwind_73 : decode cX3_downwind 73 = .ok (.ireturn, 1) := by decide +kernel
theorem dX3_downwind_74 : decode cX3_downwind 74 = .ok (.aload_n 0, 1) := by decide +kernel
theorem dX3_downwind_75 : decode cX3_downwind 75 = .ok (.getfield 18, 3) := by decide +kernel
theorem dX3_downwind_78 : decode cX3_downwind 78 = .ok (.iload_n 1, 1) := by decide +kernel
theorem dX3_downwind_79 : decode cX3_downwind 79 = .ok (.iaload, 1) := by decide +kernel
theorem dX3_downwind_80 : decode cX3_downwind 80 = .ok (.aload_n 0, 1) := by decide +kernel
theorem dX3_downwind_81 : decode cX3_downwind 81 = .ok (.getfield 18, 3) := by decide +kernel
theorem dX3_downwind_84 : decode cX3_downwind 84 = .ok (.iload_n 2, 1) := by decide +kernel
theorem dX3_downwind_85 : decode cX3_downwind 85 = .ok (.iaload, 1) := by decide +kernel
theorem dX3_downwind_86 : decode cX3_downwind 86 = .ok (.isub, 1) := by decide +kernel
theorem dX3_downwind_87 : decode cX3_downwind 87 = .ok (.ireturn, 1) := by decide +kernel
theorem dX4_init_0 : decode cX4_init 0 = .ok (.aload_n 0, 1) := by decide +kernel
theorem dX4_init_1 : decode cX4_init 1 = .ok (.invokespecial 3, 3) := by decide +kernel
theorem dX4_init_4 : decode cX4_init 4 = .ok (.aload_n 0, 1) := by decide +kernel
theorem dX4_init_5 : decode cX4_init 5 = .ok (.aload_n 1, 1) := by decide +kernel
theorem dX4_init_6 : decode cX4_init 6 = .ok (.putfield 9, 3) := by decide +kernel
theorem dX4_init_9 : decode cX4_init 9 = .ok (.aload_n 0, 1) := by decide +kernel
theorem dX4_init_10 : decode cX4_init 10 = .ok (.aload_n 2, 1) := by decide +kernel
theorem dX4_init_11 : decode cX4_init 11 = .ok (.putfield 15, 3) := by decide +kernel
theorem dX4_init_14 : decode cX4_init 14 = .ok (.aload_n 0, 1) := by decide +kernel
theorem dX4_init_15 : decode cX4_init 15 = .ok (.bipush 10, 2) := by decide +kernel
theorem dX4_init_17 : decode cX4_init 17 = .ok (.newarray .int, 2) := by decide +kernel
theorem dX4_init_19 : decode cX4_init 19 = .ok (.putfield 19, 3) := by decide +kernel
theorem dX4_init_22 : decode cX4_init 22 = .ok (.aload_n 0, 1) := by decide +kernel
theorem dX4_init_23 : decode cX4_init 23 = .ok (.bipush 10, 2) := by decide +kernel
theorem dX4_init_25 : decode cX4_init 25 = .ok (.newarray .int, 2) := by decide +kernel
theorem dX4_init_27 : decode cX4_init 27 = .ok (.putfield 23, 3) := by decide +kernel
theorem dX4_init_30 : decode cX4_init 30 = .ok (.aload_n 0, 1) := by decide +kernel
theorem dX4_init_31 : decode cX4_init 31 = .ok (.bipush 10, 2) := by decide +kernel
theorem dX4_init_33 : decode cX4_init 33 = .ok (.newarray .int, 2) := by decide +kernel
theorem dX4_init_35 : decode cX4_init 35 = .ok (.putfield 26, 3) := by decide +kernel
theorem dX4_init_38 : decode cX4_init 38 = .ok (.aload_n 0, 1) := by decide +kernel
theorem dX4_init_39 : decode cX4_init 39 = .ok (.bipush 10, 2) := by decide +kernel
theorem dX4_init_41 : decode cX4_init 41 = .ok (.newarray .int, 2) := by decide +kernel
theorem dX4_init_43 : decode cX4_init 43 = .ok (.putfield 29, 3) := by decide +kernel
theorem dX4_init_46 : decode cX4_init 46 = .ok (.return_, 1) := by decide +kernel
theorem dX5_init_0 : decode cX5_init 0 = .ok (.aload_n 0, 1) := by decide +kernel
theorem dX5_init_1 : decode cX5_init 1 = .ok (.invokespecial 3, 3) := by decide +kernel
theorem dX5_init_4 : decode cX5_init 4 = .ok (.aload_n 0, 1) := by decide +kernel
theorem dX5_init_5 : decode cX5_init 5 = .ok (.aload_n 1, 1) := by decide +kernel
theorem dX5_init_6 : decode cX5_init 6 = .ok (.putfield 9, 3) := by decide +kernel
theorem dX5_init_9 : decode cX5_init 9 = .ok (.aload_n 0, 1) := by decide +kernel
theorem dX5_init_10 : decode cX5_init 10 = .ok (.aload_n 2, 1) := by decide +kernel
theorem dX5_init_11 : decode cX5_init 11 = .ok (.putfield 15, 3) := by decide +kernel
theorem dX5_init_14 : decode cX5_init 14 = .ok (.aload_n 0, 1) := by decide +kernel
theorem dX5_init_15 : decode cX5_init 15 = .ok (.bipush 6, 2) := by decide +kernel
theorem dX5_init_17 : decode cX5_init 17 = .ok (.newarray .int, 2) := by decide +kernel
theorem dX5_init_19 : decode cX5_init 19 = .ok (.putfield 19, 3) := by decide +kernel
theorem dX5_init_22 : decode cX5_init 22 = .ok (.aload_n 0, 1) := by decide +kernel
theorem dX5_init_23 : decode cX5_init 23 = .ok (.bipush 6, 2) := by decide +kernel
theorem dX5_init_25 : decode cX5_init 25 = .ok (.newarray .int, 2) := by decide +kernel
theorem dX5_init_27 : decode cX5_init 27 = .ok (.putfield 23, 3) := by decide +kernel
theorem dX5_init_30 : decode cX5_init 30 = .ok (.return_, 1) := by decide +kernel
theorem dX6_init_0 : decode cX6_init 0 = .ok (.aload_n 0, 1) := by decide +kernel
theorem dX6_init_1 : decode cX6_init 1 = .ok (.invokespecial 3, 3) := by decide +kernel
theorem dX6_init_4 : decode cX6_init 4 = .ok (.aload_n 0, 1) := by decide +kernel
theorem dX6_init_5 : decode cX6_init 5 = .ok (.bipush 60, 2) := by decide +kernel
theorem dX6_init_7 : decode cX6_init 7 = .ok (.newarray .int, 2) := by decide +kernel
theorem dX6_init_9 : decode cX6_init 9 = .ok (.putfield 9, 3) := by decide +kernel
theorem dX6_init_12 : decode cX6_init 12 = .ok (.return_, 1) := by decide +kernel
theorem dX6_renew_0 : decode cX6_renew 0 = .ok (.aload_n 0, 1) := by decide +kernel
theorem dX6_renew_1 : decode cX6_renew 1 = .ok (.iconst 1, 1) := by decide +kernel
theorem dX6_renew_2 : decode cX6_renew 2 = .ok (.putfield 15, 3) := by decide +kernel
theorem dX6_renew_5 : decode cX6_renew 5 = .ok (.aload_n 0, 1) := by decide +kernel
theorem dX6_renew_6 : decode cX6_renew 6 = .ok (.iload_n 1, 1) := by decide +kernel
theorem dX6_renew_7 : decode cX6_renew 7 = .ok (.putfield 19, 3) := by decide +kernel
theorem dX6_renew_10 : decode cX6_renew 10 = .ok (.aload_n 0, 1) := by decide +kernel
theorem dX6_renew_11 : decode cX6_renew 11 = .ok (.iload_n 2, 1) := by decide +kernel
theorem dX6_renew_12 : decode cX6_renew 12 = .ok (.putfield 23, 3) := by decide +kernel
theorem dX6_renew_15 : decode cX6_renew 15 = .ok (.aload_n 0, 1) := by decide +kernel
theorem dX6_renew_16 : decode cX6_renew 16 = .ok (.getfield 9, 3) := by decide +kernel
theorem dX6_renew_19 : decode cX6_renew 19 = .ok (.iconst 0, 1) := by decide +kernel
theorem dX6_renew_20 : decode cX6_renew 20 = .ok (.invokestatic 26, 3) := by decide +kernel
theorem dX6_renew_23 : decode cX6_renew 23 = .ok (.return_, 1) := by decide +kernel
theorem dX6_cut_0 : decode cX6_cut 0 = .ok (.aload_n 0, 1) := by decide +kernel
theorem dX6_cut_1 : decode cX6_cut 1 = .ok (.getfield 19, 3) := by decide +kernel
theorem dX6_cut_4 : decode cX6_cut 4 = .ok (.ifCond .ne 6, 3) := by decide +kernel
theorem dX6_cut_7 : decode cX6_cut 7 = .ok (.iload_n 1, 1) := by decide +kernel
theorem dX6_cut_8 : decode cX6_cut 8 = .ok (.i2b, 1) := by decide +kernel
theorem dX6_cut_9 : decode cX6_cut 9 = .ok (.ireturn, 1) := by decide +kernel
theorem dX6_cut_10 : decode cX6_cut 10 = .ok (.aload_n 0, 1) := by decide +kernel
theorem dX6_cut_11 : decode cX6_cut 11 = .ok (.getfield 19, 3) := by decide +kernel
theorem dX6_cut_14 : decode cX6_cut 14 = .ok (.iconst 1, 1) := by decide +kernel
theorem dX6_cut_15 : decode cX6_cut 15 = .ok (.if_icmp .ne 8, 3) := by decide +kernel
theorem dX6_cut_18 : decode cX6_cut 18 = .ok (.iload_n 1, 1) := by decide +kernel
theorem dX6_cut_19 : decode cX6_cut 19 = .ok (.i2s, 1) := by decide +kernel
theorem dX6_cut_20 : decode cX6_cut 20 = .ok (.goto 4, 3) := by decide +kernel
theorem dX6_cut_23 : decode cX6_cut 23 = .ok (.iload_n 1, 1) := by decide +kernel
theorem dX6_cut_24 : decode cX6_cut 24 = .ok (.ireturn, 1) := by decide +kernel
theorem dX6_hasNumber_0 : decode cX6_hasNumber 0 = .ok (.iload_n 1, 1) := by decide +kernel
theorem dX6_hasNumber_1 : decode cX6_hasNumber 1 = .ok (.ifCond .lt 15, 3) := by decide +kernel
theorem dX6_hasNumber_4 : decode cX6_hasNumber 4 = .ok (.iload_n 1, 1) := by decide +kernel
theorem dX6_hasNumber_5 : decode cX6_hasNumber 5 = .ok (.aload_n 0, 1) := by decide +kernel
theorem dX6_hasNumber_6 : decode cX6_hasNumber 6 = .ok (.getfield 23, 3) := by decide +kernel
theorem dX6_hasNumber_9 : decode cX6_hasNumber 9 = .ok (.if_icmp .ge 7, 3) := by decide +kernel
theorem dX6_hasNumber_12 : decode cX6_hasNumber 12 = .ok (.iconst 1, 1) := by decide +kernel
theorem dX6_hasNumber_13 : decode cX6_hasNumber 13 = .ok (.goto 4, 3) := by decide +kernel
theorem dX6_hasNumber_16 : decode cX6_hasNumber 16 = .ok (.iconst 0, 1) := by decide +kernel
theorem dX6_hasNumber_17 : decode cX6_hasNumber 17 = .ok (.ireturn, 1) := by decide +kernel
theorem dX6_hasNumbers_0 : decode cX6_hasNumbers 0 = .ok (.iload_n 2, 1) := by decide +kernel
theorem dX6_hasNumbers_1 : decode cX6_hasNumbers 1 = .ok (.ifCond .lt 29, 3) := by decide +kernel
theorem dX6_hasNumbers_4 : decode cX6_hasNumbers 4 = .ok (.iload_n 1, 1) := by decide +kernel
theorem dX6_hasNumbers_5 : decode cX6_hasNumbers 5 = .ok (.ifCond .lt 25, 3) := by decide +kernel
theorem dX6_hasNumbers_8 : decode cX6_hasNumbers 8 = .ok (.iload_n 1, 1) := by decide +kernel
theorem dX6_hasNumbers_9 : decode cX6_hasNumbers 9 = .ok (.aload_n 0, 1) := by decide +kernel
theorem dX6_hasNumbers_10 : decode cX6_hasNumbers 10 = .ok (.getfield 23, 3) := by decide +kernel
theorem dX6_hasNumbers_13 : decode cX6_hasNumbers 13 = .ok (.if_icmp .gt 17, 3) := by decide +kernel
theorem dX6_hasNumbers_16 : decode cX6_hasNumbers 16 = .ok (.iload_n 2, 1) := by decide +kernel
theorem dX6_hasNumbers_17 : decode cX6_hasNumbers 17 = .ok (.aload_n 0, 1) := by decide +kernel
theorem dX6_hasNumbers_18 : decode cX6_hasNumbers 18 = .ok (.getfield 23, 3) := by decide +kernel
theorem dX6_hasNumbers_21 : decode cX6_hasNumbers 21 = .ok (.iload_n 1, 1) := by decide +kernel
theorem dX6_hasNumbers_22 : decode cX6_hasNumbers 22 = .ok (.isub, 1) := by decide +kernel
theorem dX6_hasNumbers_23 : decode cX6_hasNumbers 23 = .ok (.if_icmp .gt 7, 3) := by decide +kernel
theorem dX6_hasNumbers_26 : decode cX6_hasNumbers 26 = .ok (.iconst 1, 1) := by decide +kernel
theorem dX6_hasNumbers_27 : decode cX6_hasNumbers 27 = .ok (.goto 4, 3) := by decide +kernel
theorem dX6_hasNumbers_30 : decode cX6_hasNumbers 30 = .ok (.iconst 0, 1) := by decide +kernel
theorem dX6_hasNumbers_31 : decode cX6_hasNumbers 31 = .ok (.ireturn, 1) := by decide +kernel
theorem dX6_faultOfSort_0 : decode cX6_faultOfSort 0 = .ok (.aload_n 0, 1) := by decide +kernel
theorem dX6_faultOfSort_1 : decode cX6_faultOfSort 1 = .ok (.getfield 15, 3) := by decide +kernel
theorem dX6_faultOfSort_4 : decode cX6_faultOfSort 4 = .ok (.ifCond .ne 5, 3) := by decide +kernel
theorem dX6_faultOfSort_7 : decode cX6_faultOfSort 7 = .ok (.iconst 1, 1) := by decide +kernel
theorem dX6_faultOfSort_8 : decode cX6_faultOfSort 8 = .ok (.ireturn, 1) := by decide +kernel
theorem dX6_faultOfSort_9 : decode cX6_faultOfSort 9 = .ok (.aload_n 0, 1) := by decide +kernel
theorem dX6_faultOfSort_10 : decode cX6_faultOfSort 10 = .ok (.getfield 19, 3) := by decide +kernel
theorem dX6_faultOfSort_13 : decode cX6_faultOfSort 13 = .ok (.iload_n 1, 1) := by decide +kernel
theorem dX6_faultOfSort_14 : decode cX6_faultOfSort 14 = .ok (.if_icmp .ne 7, 3) := by decide +kernel
theorem dX6_faultOfSort_17 : decode cX6_faultOfSort 17 = .ok (.iconst 0, 1) := by decide +kernel
theorem dX6_faultOfSort_18 : decode cX6_faultOfSort 18 = .ok (.goto 4, 3) := by decide +kernel
theorem dX6_faultOfSort_21 : decode cX6_faultOfSort 21 = .ok (.iconst 2, 1) := by decide +kernel
theorem dX6_faultOfSort_22 : decode cX6_faultOfSort 22 = .ok (.ireturn, 1) := by decide +kernel
theorem dX6_faultOfRow_0 : decode cX6_faultOfRow 0 = .ok (.aload_n 0, 1) := by decide +kernel
theorem dX6_faultOfRow_1 : decode cX6_faultOfRow 1 = .ok (.iload_n 1, 1) := by decide +kernel
theorem dX6_faultOfRow_2 : decode cX6_faultOfRow 2 = .ok (.invokevirtual 32, 3) := by decide +kernel
theorem dX6_faultOfRow_5 : decode cX6_faultOfRow 5 = .ok (.istore 4, 2) := by decide +kernel
theorem dX6_faultOfRow_7 : decode cX6_faultOfRow 7 = .ok (.iload 4, 2) := by decide +kernel
theorem dX6_faultOfRow_9 : decode cX6_faultOfRow 9 = .ok (.ifCond .eq 6, 3) := by decide +kernel
theorem dX6_faultOfRow_12 : decode cX6_faultOfRow 12 = .ok (.iload 4, 2) := by decide +kernel
theorem dX6_faultOfRow_14 : decode cX6_faultOfRow 14 = .ok (.ireturn, 1) := by decide +kernel
theorem dX6_faultOfRow_15 : decode cX6_faultOfRow 15 = .ok (.iload_n 3, 1) := by decide +kernel
theorem dX6_faultOfRow_16 : decode cX6_faultOfRow 16 = .ok (.ifCond .ge 5, 3) := by decide +kernel
theorem dX6_faultOfRow_19 : decode cX6_faultOfRow 19 = .ok (.iconst 4, 1) := by decide +kernel
theorem dX6_faultOfRow_20 : decode cX6_faultOfRow 20 = .ok (.ireturn, 1) := by decide +kernel
theorem dX6_faultOfRow_21 : decode cX6_faultOfRow 21 = .ok (.aload_n 0, 1) := by decide +kernel
theorem dX6_faultOfRow_22 : decode cX6_faultOfRow 22 = .ok (.iload_n 2, 1) := by decide +kernel
theorem dX6_faultOfRow_23 : decode cX6_faultOfRow 23 = .ok (.iload_n 3, 1) := by decide +kernel
theorem dX6_faultOfRow_24 : decode cX6_faultOfRow 24 = .ok (.invokevirtual 36, 3) := by decide +kernel
theorem dX6_faultOfRow_27 : decode cX6_faultOfRow 27 = .ok (.ifCond .eq 7, 3) := by decide +kernel
theorem dX6_faultOfRow_30 : decode cX6_faultOfRow 30 = .ok (.iconst 0, 1) := by decide +kernel
theorem dX6_faultOfRow_31 : decode cX6_faultOfRow 31 = .ok (.goto 4, 3) := by decide +kernel
theorem dX6_faultOfRow_34 : decode cX6_faultOfRow 34 = .ok (.iconst 3, 1) := by decide +kernel
theorem dX6_faultOfRow_35 : decode cX6_faultOfRow 35 = .ok (.ireturn, 1) := by decide +kernel
theorem dX7_init_0 : decode cX7_init 0 = .ok (.aload_n 0, 1) := by decide +kernel
theorem dX7_init_1 : decode cX7_init 1 = .ok (.invokespecial 3, 3) := by decide +kernel
theorem dX7_init_4 : decode cX7_init 4 = .ok (.aload_n 0, 1) := by decide +kernel
theorem dX7_init_5 : decode cX7_init 5 = .ok (.aload_n 1, 1) := by decide +kernel
theorem dX7_init_6 : decode cX7_init 6 = .ok (.putfield 9, 3) := by decide +kernel
theorem dX7_init_9 : decode cX7_init 9 = .ok (.aload_n 0, 1) := by decide +kernel
theorem dX7_init_10 : decode cX7_init 10 = .ok (.aload_n 2, 1) := by decide +kernel
theorem dX7_init_11 : decode cX7_init 11 = .ok (.putfield 15, 3) := by decide +kernel
theorem dX7_init_14 : decode cX7_init 14 = .ok (.aload_n 0, 1) := by decide +kernel
theorem dX7_init_15 : decode cX7_init 15 = .ok (.aload_n 3, 1) := by decide +kernel
theorem dX7_init_16 : decode cX7_init 16 = .ok (.putfield 19, 3) := by decide +kernel
theorem dX7_init_19 : decode cX7_init 19 = .ok (.aload_n 0, 1) := by decide +kernel
theorem dX7_init_20 : decode cX7_init 20 = .ok (.bipush 6, 2) := by decide +kernel
theorem dX7_init_22 : decode cX7_init 22 = .ok (.newarray .long, 2) := by decide +kernel
theorem dX7_init_24 : decode cX7_init 24 = .ok (.putfield 23, 3) := by decide +kernel
theorem dX7_init_27 : decode cX7_init 27 = .ok (.aload_n 0, 1) := by decide +kernel
theorem dX7_init_28 : decode cX7_init 28 = .ok (.bipush 6, 2) := by decide +kernel
theorem dX7_init_30 : decode cX7_init 30 = .ok (.newarray .int, 2) := by decide +kernel
theorem dX7_init_32 : decode cX7_init 32 = .ok (.putfield 27, 3) := by decide +kernel
theorem dX7_init_35 : decode cX7_init 35 = .ok (.return_, 1) := by decide +kernel
theorem dX8_init_0 : decode cX8_init 0 = .ok (.aload_n 0, 1) := by decide +kernel
theorem dX8_init_1 : decode cX8_init 1 = .ok (.invokespecial 5, 3) := by decide +kernel
theorem dX8_init_4 : decode cX8_init 4 = .ok (.aload_n 0, 1) := by decide +kernel
theorem dX8_init_5 : decode cX8_init 5 = .ok (.new 11, 3) := by decide +kernel
theorem dX8_init_8 : decode cX8_init 8 = .ok (.dup, 1) := by decide +kernel
theorem dX8_init_9 : decode cX8_init 9 = .ok (.invokespecial 13, 3) := by decide +kernel
theorem dX8_init_12 : decode cX8_init 12 = .ok (.putfield 14, 3) := by decide +kernel
theorem dX8_init_15 : decode cX8_init 15 = .ok (.aload_n 0, 1) := by decide +kernel
theorem dX8_init_16 : decode cX8_init 16 = .ok (.new 18, 3) := by decide +kernel
theorem dX8_init_19 : decode cX8_init 19 = .ok (.dup, 1) := by decide +kernel
theorem dX8_init_20 : decode cX8_init 20 = .ok (.invokespecial 20, 3) := by decide +kernel
theorem dX8_init_23 : decode cX8_init 23 = .ok (.putfield 21, 3) := by decide +kernel
theorem dX8_init_26 : decode cX8_init 26 = .ok (.aload_n 0, 1) := by decide +kernel
theorem dX8_init_27 : decode cX8_init 27 = .ok (.new 25, 3) := by decide +kernel
theorem dX8_init_30 : decode cX8_init 30 = .ok (.dup, 1) := by decide +kernel
theorem dX8_init_31 : decode cX8_init 31 = .ok (.aload_n 0, 1) := by decide +kernel
theorem dX8_init_32 : decode cX8_init 32 = .ok (.getfield 14, 3) := by decide +kernel
theorem dX8_init_35 : decode cX8_init 35 = .ok (.aload_n 0, 1) := by decide +kernel
theorem dX8_init_36 : decode cX8_init 36 = .ok (.getfield 21, 3) := by decide +kernel
theorem dX8_init_39 : decode cX8_init 39 = .ok (.invokespecial 27, 3) := by decide +kernel
theorem dX8_init_42 : decode cX8_init 42 = .ok (.putfield 30, 3) := by decide +kernel
theorem dX8_init_45 : decode cX8_init 45 = .ok (.aload_n 0, 1) := by decide +kernel
theorem dX8_init_46 : decode cX8_init 46 = .ok (.new 34, 3) := by decide +kernel
theorem dX8_init_49 : decode cX8_init 49 = .ok (.dup, 1) := by decide +kernel
theorem dX8_init_50 : decode cX8_init 50 = .ok (.aload_n 0, 1) := by decide +kernel
theorem dX8_init_51 : decode cX8_init 51 = .ok (.getfield 21, 3) := by decide +kernel
theorem dX8_init_54 : decode cX8_init 54 = .ok (.aload_n 0, 1) := by decide +kernel
theorem dX8_init_55 : decode cX8_init 55 = .ok (.getfield 30, 3) := by decide +kernel
theorem dX8_init_58 : decode cX8_init 58 = .ok (.invokespecial 36, 3) := by decide +kernel
theorem dX8_init_61 : decode cX8_init 61 = .ok (.putfield 39, 3) := by decide +kernel
theorem dX8_init_64 : decode cX8_init 64 = .ok (.aload_n 0, 1) := by decide +kernel
theorem dX8_init_65 : decode cX8_init 65 = .ok (.new 43, 3) := by decide +kernel
theorem dX8_init_68 : decode cX8_init 68 = .ok (.dup, 1) := by decide +kernel
theorem dX8_init_69 : decode cX8_init 69 = .ok (.aload_n 0, 1) := by decide +kernel
theorem dX8_init_70 : decode cX8_init 70 = .ok (.getfield 14, 3) := by decide +kernel
theorem dX8_init_73 : decode cX8_init 73 = .ok (.aload_n 0, 1) := by decide +kernel
theorem dX8_init_74 : decode cX8_init 74 = .ok (.getfield 21, 3) := by decide +kernel
theorem dX8_init_77 : decode cX8_init 77 = .ok (.aload_n 0, 1) := by decide +kernel
theorem dX8_init_78 : decode cX8_init 78 = .ok (.getfield 30, 3) := by decide +kernel
theorem dX8_init_81 : decode cX8_init 81 = .ok (.invokespecial 45, 3) := by decide +kernel
theorem dX8_init_84 : decode cX8_init 84 = .ok (.putfield 48, 3) := by decide +kernel
theorem dX8_init_87 : decode cX8_init 87 = .ok (.aload_n 0, 1) := by decide +kernel
theorem dX8_init_88 : decode cX8_init 88 = .ok (.new 52, 3) := by decide +kernel
theorem dX8_init_91 : decode cX8_init 91 = .ok (.dup, 1) := by decide +kernel
theorem dX8_init_92 : decode cX8_init 92 = .ok (.aload_n 0, 1) := by decide +kernel
theorem dX8_init_93 : decode cX8_init 93 = .ok (.getfield 21, 3) := by decide +kernel
theorem dX8_init_96 : decode cX8_init 96 = .ok (.aload_n 0, 1) := by decide +kernel
theorem dX8_init_97 : decode cX8_init 97 = .ok (.getfield 30, 3) := by decide +kernel
theorem dX8_init_100 : decode cX8_init 100 = .ok (.invokespecial 54, 3) := by decide +kernel
theorem dX8_init_103 : decode cX8_init 103 = .ok (.putfield 55, 3) := by decide +kernel
theorem dX8_init_106 : decode cX8_init 106 = .ok (.aload_n 0, 1) := by decide +kernel
theorem dX8_init_107 : decode cX8_init 107 = .ok (.new 59, 3) := by decide +kernel
theorem dX8_init_110 : decode cX8_init 110 = .ok (.dup, 1) := by decide +kernel
theorem dX8_init_111 : decode cX8_init 111 = .ok (.aload_n 0, 1) := by decide +kernel
theorem dX8_init_112 : decode cX8_init 112 = .ok (.getfield 21, 3) := by decide +kernel
theorem dX8_init_115 : decode cX8_init 115 = .ok (.aload_n 0, 1) := by decide +kernel
theorem dX8_init_116 : decode cX8_init 116 = .ok (.getfield 30, 3) := by decide +kernel
theorem dX8_init_119 : decode cX8_init 119 = .ok (.invokespecial 61, 3) := by decide +kernel
theorem dX8_init_122 : decode cX8_init 122 = .ok (.putfield 62, 3) := by decide +kernel
theorem dX8_init_125 : decode cX8_init 125 = .ok (.aload_n 0, 1) := by decide +kernel
theorem dX8_init_126 : decode cX8_init 126 = .ok (.iconst 4, 1) := by decide +kernel
theorem dX8_init_127 : decode cX8_init 127 = .ok (.anewarray 66, 3) := by decide +kernel
theorem dX8_init_130 : decode cX8_init 130 = .ok (.putfield 68, 3) := by decide +kernel
theorem dX8_init_133 : decode cX8_init 133 = .ok (.iconst 0, 1) := by decide +kernel
theorem dX8_init_134 : decode cX8_init 134 = .ok (.istore_n 1, 1) := by decide +kernel
theorem dX8_init_135 : decode cX8_init 135 = .ok (.iload_n 1, 1) := by decide +kernel
theorem dX8_init_136 : decode cX8_init 136 = .ok (.iconst 4, 1) := by decide +kernel
theorem dX8_init_137 : decode cX8_init 137 = .ok (.if_icmp .ge 22, 3) := by decide +kernel
theorem dX8_init_140 : decode cX8_init 140 = .ok (.aload_n 0, 1) := by decide +kernel
theorem dX8_init_141 : decode cX8_init 141 = .ok (.getfield 68, 3) := by decide +kernel
theorem dX8_init_144 : decode cX8_init 144 = .ok (.iload_n 1, 1) := by decide +kernel
theorem dX8_init_145 : decode cX8_init 145 = .ok (.new 66, 3) := by decide +kernel
theorem dX8_init_148 : decode cX8_init 148 = .ok (.dup, 1) := by decide +kernel
theorem dX8_init_149 : decode cX8_init 149 = .ok (.invokespecial 72, 3) := by decide +kernel
theorem dX8_init_152 : decode cX8_init 152 = .ok (.aastore, 1) := by decide +kernel
theorem dX8_init_153 : decode cX8_init 153 = .ok (.iinc 1 1, 3) := by decide +kernel
theorem dX8_init_156 : decode cX8_init 156 = .ok (.goto (-21), 3) := by decide +kernel
theorem dX8_init_159 : decode cX8_init 159 = .ok (.return_, 1) := by decide +kernel
theorem dX8_land_0 : decode cX8_land 0 = .ok (.aload_n 0, 1) := by decide +kernel
theorem dX8_land_1 : decode cX8_land 1 = .ok (.iconst 0, 1) := by decide +kernel
theorem dX8_land_2 : decode cX8_land 2 = .ok (.putfield 73, 3) := by decide +kernel
theorem dX8_land_5 : decode cX8_land 5 = .ok (.iload_n 1, 1) := by decide +kernel
theorem dX8_land_6 : decode cX8_land 6 = .ok (.invokestatic 77, 3) := by decide +kernel
theorem dX8_land_9 : decode cX8_land 9 = .ok (.ifCond .ne 5, 3) := by decide +kernel
theorem dX8_land_12 : decode cX8_land 12 = .ok (.iconst (-1), 1) := by decide +kernel
theorem dX8_land_13 : decode cX8_land 13 = .ok (.ireturn, 1) := by decide +kernel
theorem dX8_land_14 : decode cX8_land 14 = .ok (.iload_n 2, 1) := by decide +kernel
theorem dX8_land_15 : decode cX8_land 15 = .ok (.invokestatic 81, 3) := by decide +kernel
theorem dX8_land_18 : decode cX8_land 18 = .ok (.ifCond .ne 6, 3) := by decide +kernel
theorem dX8_land_21 : decode cX8_land 21 = .ok (.bipush (-2), 2) := by decide +kernel
theorem dX8_land_23 : decode cX8_land 23 = .ok (.ireturn, 1) := by decide +kernel
theorem dX8_land_24 : decode cX8_land 24 = .ok (.aload_n 0, 1) := by decide +kernel
theorem dX8_land_25 : decode cX8_land 25 = .ok (.getfield 68, 3) := by decide +kernel
theorem dX8_land_28 : decode cX8_land 28 = .ok (.iload_n 1, 1) := by decide +kernel
theorem dX8_land_29 : decode cX8_land 29 = .ok (.aaload, 1) := by decide +kernel
theorem dX8_land_30 : decode cX8_land 30 = .ok (.astore 5, 2) := by decide +kernel
theorem dX8_land_32 : decode cX8_land 32 = .ok (.aload_n 0, 1) := by decide +kernel
theorem dX8_land_33 : decode cX8_land 33 = .ok (.aload 5, 2) := by decide +kernel
theorem dX8_land_35 : decode cX8_land 35 = .ok (.iload_n 2, 1) := by decide +kernel
theorem dX8_land_36 : decode cX8_land 36 = .ok (.iload_n 3, 1) := by decide +kernel
theorem dX8_land_37 : decode cX8_land 37 = .ok (.iload 4, 2) := by decide +kernel
theorem dX8_land_39 : decode cX8_land 39 = .ok (.invokevirtual 84, 3) := by decide +kernel
theorem dX8_land_42 : decode cX8_land 42 = .ok (.putfield 73, 3) := by decide +kernel
theorem dX8_land_45 : decode cX8_land 45 = .ok (.aload_n 0, 1) := by decide +kernel
theorem dX8_land_46 : decode cX8_land 46 = .ok (.getfield 73, 3) := by decide +kernel
theorem dX8_land_49 : decode cX8_land 49 = .ok (.ifCond .eq 11, 3) := by decide +kernel
theorem dX8_land_52 : decode cX8_land 52 = .ok (.bipush (-10), 2) := by decide +kernel
theorem dX8_land_54 : decode cX8_land 54 = .ok (.aload_n 0, 1) := by decide +kernel
theorem dX8_land_55 : decode cX8_land 55 = .ok (.getfield 73, 3) := by decide +kernel
theorem dX8_land_58 : decode cX8_land 58 = .ok (.isub, 1) := by decide +kernel
theorem dX8_land_59 : decode cX8_land 59 = .ok (.ireturn, 1) := by decide +kernel
theorem dX8_land_60 : decode cX8_land 60 = .ok (.aload_n 0, 1) := by decide +kernel
theorem dX8_land_61 : decode cX8_land 61 = .ok (.getfield 14, 3) := by decide +kernel
theorem dX8_land_64 : decode cX8_land 64 = .ok (.aload 5, 2) := by decide +kernel
theorem dX8_land_66 : decode cX8_land 66 = .ok (.getfield 88, 3) := by decide +kernel
theorem dX8_land_69 : decode cX8_land 69 = .ok (.iload_n 3, 1) := by decide +kernel
theorem dX8_land_70 : decode cX8_land 70 = .ok (.iload 4, 2) := by decide +kernel
theorem dX8_land_72 : decode cX8_land 72 = .ok (.invokevirtual 92, 3) := by decide +kernel
theorem dX8_land_75 : decode cX8_land 75 = .ok (.istore 6, 2) := by decide +kernel
theorem dX8_land_77 : decode cX8_land 77 = .ok (.iload 6, 2) := by decide +kernel
theorem dX8_land_79 : decode cX8_land 79 = .ok (.bipush (-9), 2) := by decide +kernel
theorem dX8_land_81 : decode cX8_land 81 = .ok (.if_icmp .eq 9, 3) := by decide +kernel
theorem dX8_land_84 : decode cX8_land 84 = .ok (.bipush (-100), 2) := by decide +kernel
theorem dX8_land_86 : decode cX8_land 86 = .ok (.iload 6, 2) := by decide +kernel
theorem dX8_land_88 : decode cX8_land 88 = .ok (.isub, 1) := by decide +kernel
theorem dX8_land_89 : decode cX8_land 89 = .ok (.ireturn, 1) := by decide +kernel
theorem dX8_land_90 : decode cX8_land 90 = .ok (.aload_n 0, 1) := by decide +kernel
theorem dX8_land_91 : decode cX8_land 91 = .ok (.getfield 14, 3) := by decide +kernel
theorem dX8_land_94 : decode cX8_land 94 = .ok (.aload 5, 2) := by decide +kernel
theorem dX8_land_96 : decode cX8_land 96 = .ok (.getfield 88, 3) := by decide +kernel
theorem dX8_land_99 : decode cX8_land 99 = .ok (.iload_n 3, 1) := by decide +kernel
theorem dX8_land_100 : decode cX8_land 100 = .ok (.invokevirtual 96, 3) := by decide +kernel
theorem dX8_land_103 : decode cX8_land 103 = .ok (.aload_n 0, 1) := by decide +kernel
theorem dX8_land_104 : decode cX8_land 104 = .ok (.getfield 21, 3) := by decide +kernel
theorem dX8_land_107 : decode cX8_land 107 = .ok (.iconst 0, 1) := by decide +kernel
theorem dX8_land_108 : decode cX8_land 108 = .ok (.putfield 100, 3) := by decide +kernel
theorem dX8_land_111 : decode cX8_land 111 = .ok (.aload_n 0, 1) := by decide +kernel
theorem dX8_land_112 : decode cX8_land 112 = .ok (.getfield 39, 3) := by decide +kernel
theorem dX8_land_115 : decode cX8_land 115 = .ok (.iconst 0, 1) := by decide +kernel
theorem dX8_land_116 : decode cX8_land 116 = .ok (.putfield 103, 3) := by decide +kernel
theorem dX8_land_119 : decode cX8_land 119 = .ok (.aload_n 0, 1) := by decide +kernel
theorem dX8_land_120 : decode cX8_land 120 = .ok (.getfield 30, 3) := by decide +kernel
theorem dX8_land_123 : decode cX8_land 123 = .ok (.bipush 10, 2) := by decide +kernel
theorem dX8_land_125 : decode cX8_land 125 = .ok (.putfield 104, 3) := by decide +kernel
theorem dX8_land_128 : decode cX8_land 128 = .ok (.aload_n 0, 1) := by decide +kernel
theorem dX8_land_129 : decode cX8_land 129 = .ok (.getfield 14, 3) := by decide +kernel
theorem dX8_land_132 : decode cX8_land 132 = .ok (.getfield 107, 3) := by decide +kernel
theorem dX8_land_135 : decode cX8_land 135 = .ok (.ireturn, 1) := by decide +kernel
theorem dX8_plant_0 : decode cX8_plant 0 = .ok (.aload_n 0, 1) := by decide +kernel
theorem dX8_plant_1 : decode cX8_plant 1 = .ok (.iload_n 1, 1) := by decide +kernel
theorem dX8_plant_2 : decode cX8_plant 2 = .ok (.invokevirtual 110, 3) := by decide +kernel
theorem dX8_plant_5 : decode cX8_plant 5 = .ok (.ifCond .ne 5, 3) := by decide +kernel
theorem dX8_plant_8 : decode cX8_plant 8 = .ok (.iconst (-1), 1) := by decide +kernel
theorem dX8_plant_9 : decode cX8_plant 9 = .ok (.ireturn, 1) := by decide +kernel
theorem dX8_plant_10 : decode cX8_plant 10 = .ok (.aload_n 0, 1) := by decide +kernel
theorem dX8_plant_11 : decode cX8_plant 11 = .ok (.getfield 14, 3) := by decide +kernel
theorem dX8_plant_14 : decode cX8_plant 14 = .ok (.iload_n 1, 1) := by decide +kernel
theorem dX8_plant_15 : decode cX8_plant 15 = .ok (.invokevirtual 120, 3) := by decide +kernel
theorem dX8_plant_18 : decode cX8_plant 18 = .ok (.iload_n 2, 1) := by decide +kernel
theorem dX8_plant_19 : decode cX8_plant 19 = .ok (.if_icmp .ne 5, 3) := by decide +kernel
theorem dX8_plant_22 : decode cX8_plant 22 = .ok (.iconst 0, 1) := by decide +kernel
theorem dX8_plant_23 : decode cX8_plant 23 = .ok (.ireturn, 1) := by decide +kernel
theorem dX8_plant_24 : decode cX8_plant 24 = .ok (.aload_n 0, 1) := by decide +kernel
theorem dX8_plant_25 : decode cX8_plant 25 = .ok (.getfield 14, 3) := by decide +kernel
theorem dX8_plant_28 : decode cX8_plant 28 = .ok (.dup, 1) := by decide +kernel
theorem dX8_plant_29 : decode cX8_plant 29 = .ok (.getfield 126, 3) := by decide +kernel
theorem dX8_plant_32 : decode cX8_plant 32 = .ok (.iconst 1, 1) := by decide +kernel
theorem dX8_plant_33 : decode cX8_plant 33 = .ok (.iload_n 1, 1) := by decide +kernel
theorem dX8_plant_34 : decode cX8_plant 34 = .ok (.ishl, 1) := by decide +kernel
theorem dX8_plant_35 : decode cX8_plant 35 = .ok (.ixor, 1) := by decide +kernel
theorem dX8_plant_36 : decode cX8_plant 36 = .ok (.putfield 126, 3) := by decide +kernel
theorem dX8_plant_39 : decode cX8_plant 39 = .ok (.aload_n 0, 1) := by decide +kernel
theorem dX8_plant_40 : decode cX8_plant 40 = .ok (.getfield 30, 3) := by decide +kernel
theorem dX8_plant_43 : decode cX8_plant 43 = .ok (.invokevirtual 129, 3) := by decide +kernel
theorem dX8_plant_46 : decode cX8_plant 46 = .ok (.iconst 1, 1) := by decide +kernel
theorem dX8_plant_47 : decode cX8_plant 47 = .ok (.ireturn, 1) := by decide +kernel
theorem dX8_ear_0 : decode cX8_ear 0 = .ok (.iload_n 1, 1) := by decide +kernel
theorem dX8_ear_1 : decode cX8_ear 1 = .ok (.ifCond .lt 9, 3) := by decide +kernel
theorem dX8_ear_4 : decode cX8_ear 4 = .ok (.iload_n 1, 1) := by decide +kernel
theorem dX8_ear_5 : decode cX8_ear 5 = .ok (.bipush 99, 2) := by decide +kernel
theorem dX8_ear_7 : decode cX8_ear 7 = .ok (.if_icmp .le 6, 3) := by decide +kernel
theorem dX8_ear_10 : decode cX8_ear 10 = .ok (.bipush (-2), 2) := by decide +kernel
theorem dX8_ear_12 : decode cX8_ear 12 = .ok (.ireturn, 1) := by decide +kernel
theorem dX8_ear_13 : decode cX8_ear 13 = .ok (.aload_n 0, 1) := by decide +kernel
theorem dX8_ear_14 : decode cX8_ear 14 = .ok (.getfield 14, 3) := by decide +kernel
theorem dX8_ear_17 : decode cX8_ear 17 = .ok (.getfield 107, 3) := by decide +kernel
theorem dX8_ear_20 : decode cX8_ear 20 = .ok (.ifCond .ne 6, 3) := by decide +kernel
theorem dX8_ear_23 : decode cX8_ear 23 = .ok (.bipush (-3), 2) := by decide +kernel
theorem dX8_ear_25 : decode cX8_ear 25 = .ok (.ireturn, 1) := by decide +kernel
theorem dX8_ear_26 : decode cX8_ear 26 = .ok (.aload_n 0, 1) := by decide +kernel
theorem dX8_ear_27 : decode cX8_ear 27 = .ok (.getfield 30, 3) := by decide +kernel
theorem dX8_ear_30 : decode cX8_ear 30 = .ok (.getfield 104, 3) := by decide +kernel
theorem dX8_ear_33 : decode cX8_ear 33 = .ok (.istore_n 2, 1) := by decide +kernel
theorem dX8_ear_34 : decode cX8_ear 34 = .ok (.aload_n 0, 1) := by decide +kernel
theorem dX8_ear_35 : decode cX8_ear 35 = .ok (.getfield 30, 3) := by decide +kernel
theorem dX8_ear_38 : decode cX8_ear 38 = .ok (.iload_n 1, 1) := by decide +kernel
theorem dX8_ear_39 : decode cX8_ear 39 = .ok (.putfield 104, 3) := by decide +kernel
theorem dX8_ear_42 : decode cX8_ear 42 = .ok (.iload_n 2, 1) := by decide +kernel
theorem dX8_ear_43 : decode cX8_ear 43 = .ok (.ireturn, 1) := by decide +kernel
theorem dX8_bell_0 : decode cX8_bell 0 = .ok (.aload_n 0, 1) := by decide +kernel
theorem dX8_bell_1 : decode cX8_bell 1 = .ok (.iload_n 2, 1) := by decide +kernel
theorem dX8_bell_2 : decode cX8_bell 2 = .ok (.invokevirtual 110, 3) := by decide +kernel
theorem dX8_bell_5 : decode cX8_bell 5 = .ok (.ifCond .ne 5, 3) := by decide +kernel
theorem dX8_bell_8 : decode cX8_bell 8 = .ok (.iconst (-1), 1) := by decide +kernel
theorem dX8_bell_9 : decode cX8_bell 9 = .ok (.ireturn, 1) := by decide +kernel
theorem dX8_bell_10 : decode cX8_bell 10 = .ok (.iload_n 1, 1) := by decide +kernel
theorem dX8_bell_11 : decode cX8_bell 11 = .ok (.invokestatic 132, 3) := by decide +kernel
theorem dX8_bell_14 : decode cX8_bell 14 = .ok (.ifCond .eq 10, 3) := by decide +kernel
theorem dX8_bell_17 : decode cX8_bell 17 = .ok (.iload_n 3, 1) := by decide +kernel
theorem dX8_bell_18 : decode cX8_bell 18 = .ok (.invokestatic 135, 3) := by decide +kernel
theorem dX8_bell_21 : decode cX8_bell 21 = .ok (.ifCond .ne 6, 3) := by decide +kernel
theorem dX8_bell_24 : decode cX8_bell 24 = .ok (.bipush (-2), 2) := by decide +kernel
theorem dX8_bell_26 : decode cX8_bell 26 = .ok (.ireturn, 1) := by decide +kernel
theorem dX8_bell_27 : decode cX8_bell 27 = .ok (.aload_n 0, 1) := by decide +kernel
theorem dX8_bell_28 : decode cX8_bell 28 = .ok (.getfield 21, 3) := by decide +kernel
theorem dX8_bell_31 : decode cX8_bell 31 = .ok (.getfield 100, 3) := by decide +kernel
theorem dX8_bell_34 : decode cX8_bell 34 = .ok (.bipush 6, 2) := by decide +kernel
theorem dX8_bell_36 : decode cX8_bell 36 = .ok (.if_icmp .lt 6, 3) := by decide +kernel
theorem dX8_bell_39 : decode cX8_bell 39 = .ok (.bipush (-4), 2) := by decide +kernel
theorem dX8_bell_41 : decode cX8_bell 41 = .ok (.ireturn, 1) := by decide +kernel
theorem dX8_bell_42 : decode cX8_bell 42 = .ok (.aload_n 0, 1) := by decide +kernel
theorem dX8_bell_43 : decode cX8_bell 43 = .ok (.getfield 21, 3) := by decide +kernel
theorem dX8_bell_46 : decode cX8_bell 46 = .ok (.iload_n 1, 1) := by decide +kernel
theorem dX8_bell_47 : decode cX8_bell 47 = .ok (.iload_n 2, 1) := by decide +kernel
theorem dX8_bell_48 : decode cX8_bell 48 = .ok (.iload_n 3, 1) := by decide +kernel
theorem dX8_bell_49 : decode cX8_bell 49 = .ok (.invokevirtual 138, 3) := by decide +kernel
theorem dX8_bell_52 : decode cX8_bell 52 = .ok (.istore 4, 2) := by decide +kernel
theorem dX8_bell_54 : decode cX8_bell 54 = .ok (.aload_n 0, 1) := by decide +kernel
theorem dX8_bell_55 : decode cX8_bell 55 = .ok (.getfield 30, 3) := by decide +kernel
theorem dX8_bell_58 : decode cX8_bell 58 = .ok (.iload 4, 2) := by decide +kernel
theorem dX8_bell_60 : decode cX8_bell 60 = .ok (.invokevirtual 141, 3) := by decide +kernel
theorem dX8_bell_63 : decode cX8_bell 63 = .ok (.iload 4, 2) := by decide +kernel
theorem dX8_bell_65 : decode cX8_bell 65 = .ok (.ireturn, 1) := by decide +kernel
theorem dX8_ofBell_0 : decode cX8_ofBell 0 = .ok (.aload_n 0, 1) := by decide +kernel
theorem dX8_ofBell_1 : decode cX8_ofBell 1 = .ok (.iload_n 1, 1) := by decide +kernel
theorem dX8_ofBell_2 : decode cX8_ofBell 2 = .ok (.invokevirtual 145, 3) := by decide +kernel
theorem dX8_ofBell_5 : decode cX8_ofBell 5 = .ok (.ifCond .ne 5, 3) := by decide +kernel
theorem dX8_ofBell_8 : decode cX8_ofBell 8 = .ok (.iconst (-1), 1) := by decide +kernel
theorem dX8_ofBell_9 : decode cX8_ofBell 9 = .ok (.ireturn, 1) := by decide +kernel
theorem dX8_ofBell_10 : decode cX8_ofBell 10 = .ok (.iload_n 2, 1) := by decide +kernel
theorem dX8_ofBell_11 : decode cX8_ofBell 11 = .ok (.tableswitch 55 0 2 #[25, 35, 45], 25) := by decide +kernel
theorem dX8_ofBell_36 : decode cX8_ofBell 36 = .ok (.aload_n 0, 1) := by decide +kernel
theorem dX8_ofBell_37 : decode cX8_ofBell 37 = .ok (.getfield 21, 3) := by decide +kernel
theorem dX8_ofBell_40 : decode cX8_ofBell 40 = .ok (.getfield 148, 3) := by decide +kernel
theorem dX8_ofBell_43 : decode cX8_ofBell 43 = .ok (.iload_n 1, 1) := by decide +kernel
theorem dX8_ofBell_44 : decode cX8_ofBell 44 = .ok (.iaload, 1) := by decide +kernel
theorem dX8_ofBell_45 : decode cX8_ofBell 45 = .ok (.ireturn, 1) := by decide +kernel
theorem dX8_ofBell_46 : decode cX8_ofBell 46 = .ok (.aload_n 0, 1) := by decide +kernel
theorem dX8_ofBell_47 : decode cX8_ofBell 47 = .ok (.getfield 21, 3) := by decide +kernel
theorem dX8_ofBell_50 : decode cX8_ofBell 50 = .ok (.getfield 151, 3) := by decide +kernel
theorem dX8_ofBell_53 : decode cX8_ofBell 53 = .ok (.iload_n 1, 1) := by decide +kernel
theorem dX8_ofBell_54 : decode cX8_ofBell 54 = .ok (.iaload, 1) := by decide +kernel
theorem dX8_ofBell_55 : decode cX8_ofBell 55 = .ok (.ireturn, 1) := by decide +kernel
theorem dX8_ofBell_56 : decode cX8_ofBell 56 = .ok (.aload_n 0, 1) := by decide +kernel
theorem dX8_ofBell_57 : decode cX8_ofBell 57 = .ok (.getfield 21, 3) := by decide +kernel
theorem dX8_ofBell_60 : decode cX8_ofBell 60 = .ok (.getfield 154, 3) := by decide +kernel
theorem dX8_ofBell_63 : decode cX8_ofBell 63 = .ok (.iload_n 1, 1) := by decide +kernel
theorem dX8_ofBell_64 : decode cX8_ofBell 64 = .ok (.iaload, 1) := by decide +kernel
theorem dX8_ofBell_65 : decode cX8_ofBell 65 = .ok (.ireturn, 1) := by decide +kernel
theorem dX8_ofBell_66 : decode cX8_ofBell 66 = .ok (.bipush (-2), 2) := by decide +kernel
theorem dX8_ofBell_68 : decode cX8_ofBell 68 = .ok (.ireturn, 1) := by decide +kernel
theorem dX8_loud_0 : decode cX8_loud 0 = .ok (.aload_n 0, 1) := by decide +kernel
theorem dX8_loud_1 : decode cX8_loud 1 = .ok (.iload_n 1, 1) := by decide +kernel
theorem dX8_loud_2 : decode cX8_loud 2 = .ok (.invokevirtual 145, 3) := by decide +kernel
theorem dX8_loud_5 : decode cX8_loud 5 = .ok (.ifCond .eq 26, 3) := by decide +kernel
theorem dX8_loud_8 : decode cX8_loud 8 = .ok (.aload_n 0, 1) := by decide +kernel
theorem dX8_loud_9 : decode cX8_loud 9 = .ok (.iload_n 2, 1) := by decide +kernel
theorem dX8_loud_10 : decode cX8_loud 10 = .ok (.invokevirtual 110, 3) := by decide +kernel
theorem dX8_loud_13 : decode cX8_loud 13 = .ok (.ifCond .eq 18, 3) := by decide +kernel
theorem dX8_loud_16 : decode cX8_loud 16 = .ok (.iload_n 3, 1) := by decide +kernel
theorem dX8_loud_17 : decode cX8_loud 17 = .ok (.invokestatic 157, 3) := by decide +kernel
theorem dX8_loud_20 : decode cX8_loud 20 = .ok (.ifCond .eq 11, 3) := by decide +kernel
theorem dX8_loud_23 : decode cX8_loud 23 = .ok (.iload 4, 2) := by decide +kernel
theorem dX8_loud_25 : decode cX8_loud 25 = .ok (.invokestatic 160, 3) := by decide +kernel
theorem dX8_loud_28 : decode cX8_loud 28 = .ok (.ifCond .ne 7, 3) := by decide +kernel
theorem dX8_loud_31 : decode cX8_loud 31 = .ok (.ldc2_w 163, 3) := by decide +kernel
theorem dX8_loud_34 : decode cX8_loud 34 = .ok (.lreturn, 1) := by decide +kernel
theorem dX8_loud_35 : decode cX8_loud 35 = .ok (.aload_n 0, 1) := by decide +kernel
theorem dX8_loud_36 : decode cX8_loud 36 = .ok (.getfield 21, 3) := by decide +kernel
theorem dX8_loud_39 : decode cX8_loud 39 = .ok (.getfield 154, 3) := by decide +kernel
theorem dX8_loud_42 : decode cX8_loud 42 = .ok (.iload_n 1, 1) := by decide +kernel
theorem dX8_loud_43 : decode cX8_loud 43 = .ok (.iaload, 1) := by decide +kernel
theorem dX8_loud_44 : decode cX8_loud 44 = .ok (.i2l, 1) := by decide +kernel
theorem dX8_loud_45 : decode cX8_loud 45 = .ok (.aload_n 0, 1) := by decide +kernel
theorem dX8_loud_46 : decode cX8_loud 46 = .ok (.getfield 30, 3) := by decide +kernel
theorem dX8_loud_49 : decode cX8_loud 49 = .ok (.iload_n 1, 1) := by decide +kernel
theorem dX8_loud_50 : decode cX8_loud 50 = .ok (.iload_n 2, 1) := by decide +kernel
theorem dX8_loud_51 : decode cX8_loud 51 = .ok (.iload_n 3, 1) := by decide +kernel
theorem dX8_loud_52 : decode cX8_loud 52 = .ok (.invokevirtual 165, 3) := by decide +kernel
theorem dX8_loud_55 : decode cX8_loud 55 = .ok (.lmul, 1) := by decide +kernel
theorem dX8_loud_56 : decode cX8_loud 56 = .ok (.iload_n 3, 1) := by decide +kernel
theorem dX8_loud_57 : decode cX8_loud 57 = .ok (.invokestatic 169, 3) := by decide +kernel
theorem dX8_loud_60 : decode cX8_loud 60 = .ok (.iload 4, 2) := by decide +kernel
theorem dX8_loud_62 : decode cX8_loud 62 = .ok (.invokestatic 173, 3) := by decide +kernel
theorem dX8_loud_65 : decode cX8_loud 65 = .ok (.lreturn, 1) := by decide +kernel
theorem dX8_whose_0 : decode cX8_whose 0 = .ok (.aload_n 0, 1) := by decide +kernel
theorem dX8_whose_1 : decode cX8_whose 1 = .ok (.iload_n 1, 1) := by decide +kernel
theorem dX8_whose_2 : decode cX8_whose 2 = .ok (.invokevirtual 110, 3) := by decide +kernel
theorem dX8_whose_5 : decode cX8_whose 5 = .ok (.ifCond .ne 5, 3) := by decide +kernel
theorem dX8_whose_8 : decode cX8_whose 8 = .ok (.iconst (-1), 1) := by decide +kernel
theorem dX8_whose_9 : decode cX8_whose 9 = .ok (.ireturn, 1) := by decide +kernel
theorem dX8_whose_10 : decode cX8_whose 10 = .ok (.iload_n 2, 1) := by decide +kernel
theorem dX8_whose_11 : decode cX8_whose 11 = .ok (.invokestatic 157, 3) := by decide +kernel
theorem dX8_whose_14 : decode cX8_whose 14 = .ok (.ifCond .ne 6, 3) := by decide +kernel
theorem dX8_whose_17 : decode cX8_whose 17 = .ok (.bipush (-2), 2) := by decide +kernel
theorem dX8_whose_19 : decode cX8_whose 19 = .ok (.ireturn, 1) := by decide +kernel
theorem dX8_whose_20 : decode cX8_whose 20 = .ok (.aload_n 0, 1) := by decide +kernel
theorem dX8_whose_21 : decode cX8_whose 21 = .ok (.getfield 30, 3) := by decide +kernel
theorem dX8_whose_24 : decode cX8_whose 24 = .ok (.iload_n 2, 1) := by decide +kernel
theorem dX8_whose_25 : decode cX8_whose 25 = .ok (.invokevirtual 177, 3) := by decide +kernel
theorem dX8_whose_28 : decode cX8_whose 28 = .ok (.aload_n 0, 1) := by decide +kernel
theorem dX8_whose_29 : decode cX8_whose 29 = .ok (.getfield 30, 3) := by decide +kernel
theorem dX8_whose_32 : decode cX8_whose 32 = .ok (.iload_n 1, 1) := by decide +kernel
theorem dX8_whose_33 : decode cX8_whose 33 = .ok (.invokevirtual 180, 3) := by decide +kernel
theorem dX8_whose_36 : decode cX8_whose 36 = .ok (.istore_n 3, 1) := by decide +kernel
theorem dX8_whose_37 : decode cX8_whose 37 = .ok (.iconst 0, 1) := by decide +kernel
theorem dX8_whose_38 : decode cX8_whose 38 = .ok (.istore 4, 2) := by decide +kernel
theorem dX8_whose_40 : decode cX8_whose 40 = .ok (.iload 4, 2) := by decide +kernel
theorem dX8_whose_42 : decode cX8_whose 42 = .ok (.aload_n 0, 1) := by decide +kernel
theorem dX8_whose_43 : decode cX8_whose 43 = .ok (.getfield 21, 3) := by decide +kernel
theorem dX8_whose_46 : decode cX8_whose 46 = .ok (.getfield 100, 3) := by decide +kernel
theorem dX8_whose_49 : decode cX8_whose 49 = .ok (.if_icmp .ge 20, 3) := by decide +kernel
theorem dX8_whose_52 : decode cX8_whose 52 = .ok (.iload_n 3, 1) := by decide +kernel
theorem dX8_whose_53 : decode cX8_whose 53 = .ok (.iconst 1, 1) := by decide +kernel
theorem dX8_whose_54 : decode cX8_whose 54 = .ok (.iload 4, 2) := by decide +kernel
theorem dX8_whose_56 : decode cX8_whose 56 = .ok (.ishl, 1) := by decide +kernel
theorem dX8_whose_57 : decode cX8_whose 57 = .ok (.if_icmp .ne 6, 3) := by decide +kernel
theorem dX8_whose_60 : decode cX8_whose 60 = .ok (.iload 4, 2) := by decide +kernel
theorem dX8_whose_62 : decode cX8_whose 62 = .ok (.ireturn, 1) := by decide +kernel
theorem dX8_whose_63 : decode cX8_whose 63 = .ok (.iinc 4 1, 3) := by decide +kernel
theorem dX8_whose_66 : decode cX8_whose 66 = .ok (.goto (-26), 3) := by decide +kernel
theorem dX8_whose_69 : decode cX8_whose 69 = .ok (.iload_n 3, 1) := by decide +kernel
theorem dX8_whose_70 : decode cX8_whose 70 = .ok (.ifCond .ne 8, 3) := by decide +kernel
theorem dX8_whose_73 : decode cX8_whose 73 = .ok (.bipush (-6), 2) := by decide +kernel
theorem dX8_whose_75 : decode cX8_whose 75 = .ok (.goto 5, 3) := by decide +kernel
theorem dX8_whose_78 : decode cX8_whose 78 = .ok (.bipush (-5), 2) := by decide +kernel
theorem dX8_whose_80 : decode cX8_whose 80 = .ok (.ireturn, 1) := by decide +kernel
theorem dX8_reach_0 : decode cX8_reach 0 = .ok (.aload_n 0, 1) := by decide +kernel
theorem dX8_reach_1 : decode cX8_reach 1 = .ok (.iload_n 1, 1) := by decide +kernel
theorem dX8_reach_2 : decode cX8_reach 2 = .ok (.invokevirtual 145, 3) := by decide +kernel
theorem dX8_reach_5 : decode cX8_reach 5 = .ok (.ifCond .ne 5, 3) := by decide +kernel
theorem dX8_reach_8 : decode cX8_reach 8 = .ok (.iconst (-1), 1) := by decide +kernel
theorem dX8_reach_9 : decode cX8_reach 9 = .ok (.ireturn, 1) := by decide +kernel
theorem dX8_reach_10 : decode cX8_reach 10 = .ok (.iload_n 2, 1) := by decide +kernel
theorem dX8_reach_11 : decode cX8_reach 11 = .ok (.invokestatic 157, 3) := by decide +kernel
theorem dX8_reach_14 : decode cX8_reach 14 = .ok (.ifCond .ne 6, 3) := by decide +kernel
theorem dX8_reach_17 : decode cX8_reach 17 = .ok (.bipush (-2), 2) := by decide +kernel
theorem dX8_reach_19 : decode cX8_reach 19 = .ok (.ireturn, 1) := by decide +kernel
theorem dX8_reach_20 : decode cX8_reach 20 = .ok (.aload_n 0, 1) := by decide +kernel
theorem dX8_reach_21 : decode cX8_reach 21 = .ok (.getfield 30, 3) := by decide +kernel
theorem dX8_reach_24 : decode cX8_reach 24 = .ok (.iload_n 2, 1) := by decide +kernel
theorem dX8_reach_25 : decode cX8_reach 25 = .ok (.invokevirtual 177, 3) := by decide +kernel
theorem dX8_reach_28 : decode cX8_reach 28 = .ok (.iconst 0, 1) := by decide +kernel
theorem dX8_reach_29 : decode cX8_reach 29 = .ok (.istore_n 3, 1) := by decide +kernel
theorem dX8_reach_30 : decode cX8_reach 30 = .ok (.iconst 0, 1) := by decide +kernel
theorem dX8_reach_31 : decode cX8_reach 31 = .ok (.istore 4, 2) := by decide +kernel
theorem dX8_reach_33 : decode cX8_reach 33 = .ok (.iload 4, 2) := by decide +kernel
theorem dX8_reach_35 : decode cX8_reach 35 = .ok (.aload_n 0, 1) := by decide +kernel
theorem dX8_reach_36 : decode cX8_reach 36 = .ok (.getfield 14, 3) := by decide +kernel
theorem dX8_reach_39 : decode cX8_reach 39 = .ok (.getfield 107, 3) := by decide +kernel
theorem dX8_reach_42 : decode cX8_reach 42 = .ok (.if_icmp .ge 28, 3) := by decide +kernel
theorem dX8_reach_45 : decode cX8_reach 45 = .ok (.iload_n 3, 1) := by decide +kernel
theorem dX8_reach_46 : decode cX8_reach 46 = .ok (.aload_n 0, 1) := by decide +kernel
theorem dX8_reach_47 : decode cX8_reach 47 = .ok (.getfield 30, 3) := by decide +kernel
theorem dX8_reach_50 : decode cX8_reach 50 = .ok (.iload 4, 2) := by decide +kernel
theorem dX8_reach_52 : decode cX8_reach 52 = .ok (.invokevirtual 180, 3) := by decide +kernel
theorem dX8_reach_55 : decode cX8_reach 55 = .ok (.iload_n 1, 1) := by decide +kernel
theorem dX8_reach_56 : decode cX8_reach 56 = .ok (.ishr, 1) := by decide +kernel
theorem dX8_reach_57 : decode cX8_reach 57 = .ok (.iconst 1, 1) := by decide +kernel
theorem dX8_reach_58 : decode cX8_reach 58 = .ok (.iand, 1) := by decide +kernel
theorem dX8_reach_59 : decode cX8_reach 59 = .ok (.iload 4, 2) := by decide +kernel
theorem dX8_reach_61 : decode cX8_reach 61 = .ok (.ishl, 1) := by decide +kernel
theorem dX8_reach_62 : decode cX8_reach 62 = .ok (.ior, 1) := by decide +kernel
theorem dX8_reach_63 : decode cX8_reach 63 = .ok (.istore_n 3, 1) := by decide +kernel
theorem dX8_reach_64 : decode cX8_reach 64 = .ok (.iinc 4 1, 3) := by decide +kernel
theorem dX8_reach_67 : decode cX8_reach 67 = .ok (.goto (-34), 3) := by decide +kernel
theorem dX8_reach_70 : decode cX8_reach 70 = .ok (.iload_n 3, 1) := by decide +kernel
theorem dX8_reach_71 : decode cX8_reach 71 = .ok (.ireturn, 1) := by decide +kernel
theorem dX8_tithes_0 : decode cX8_tithes 0 = .ok (.aload_n 0, 1) := by decide +kernel
theorem dX8_tithes_1 : decode cX8_tithes 1 = .ok (.iconst 0, 1) := by decide +kernel
theorem dX8_tithes_2 : decode cX8_tithes 2 = .ok (.putfield 73, 3) := by decide +kernel
theorem dX8_tithes_5 : decode cX8_tithes 5 = .ok (.aload_n 0, 1) := by decide +kernel
theorem dX8_tithes_6 : decode cX8_tithes 6 = .ok (.iload_n 1, 1) := by decide +kernel
theorem dX8_tithes_7 : decode cX8_tithes 7 = .ok (.invokevirtual 145, 3) := by decide +kernel
theorem dX8_tithes_10 : decode cX8_tithes 10 = .ok (.ifCond .eq 17, 3) := by decide +kernel
theorem dX8_tithes_13 : decode cX8_tithes 13 = .ok (.iload_n 2, 1) := by decide +kernel
theorem dX8_tithes_14 : decode cX8_tithes 14 = .ok (.invokestatic 77, 3) := by decide +kernel
theorem dX8_tithes_17 : decode cX8_tithes 17 = .ok (.ifCond .eq 10, 3) := by decide +kernel
theorem dX8_tithes_20 : decode cX8_tithes 20 = .ok (.iload_n 3, 1) := by decide +kernel
theorem dX8_tithes_21 : decode cX8_tithes 21 = .ok (.invokestatic 81, 3) := by decide +kernel
theorem dX8_tithes_24 : decode cX8_tithes 24 = .ok (.ifCond .ne 7, 3) := by decide +kernel
theorem dX8_tithes_27 : decode cX8_tithes 27 = .ok (.ldc2_w 163, 3) := by decide +kernel
theorem dX8_tithes_30 : decode cX8_tithes 30 = .ok (.lreturn, 1) := by decide +kernel
theorem dX8_tithes_31 : decode cX8_tithes 31 = .ok (.aload_n 0, 1) := by decide +kernel
theorem dX8_tithes_32 : decode cX8_tithes 32 = .ok (.getfield 68, 3) := by decide +kernel
theorem dX8_tithes_35 : decode cX8_tithes 35 = .ok (.iload_n 2, 1) := by decide +kernel
theorem dX8_tithes_36 : decode cX8_tithes 36 = .ok (.aaload, 1) := by decide +kernel
theorem dX8_tithes_37 : decode cX8_tithes 37 = .ok (.astore 7, 2) := by decide +kernel
theorem dX8_tithes_39 : decode cX8_tithes 39 = .ok (.aload_n 0, 1) := by decide +kernel
theorem dX8_tithes_40 : decode cX8_tithes 40 = .ok (.aload 7, 2) := by decide +kernel
theorem dX8_tithes_42 : decode cX8_tithes 42 = .ok (.iload_n 3, 1) := by decide +kernel
theorem dX8_tithes_43 : decode cX8_tithes 43 = .ok (.iload 4, 2) := by decide +kernel
theorem dX8_tithes_45 : decode cX8_tithes 45 = .ok (.iload 5, 2) := by decide +kernel
theorem dX8_tithes_47 : decode cX8_tithes 47 = .ok (.invokevirtual 84, 3) := by decide +kernel
theorem dX8_tithes_50 : decode cX8_tithes 50 = .ok (.putfield 73, 3) := by decide +kernel
theorem dX8_tithes_53 : decode cX8_tithes 53 = .ok (.aload_n 0, 1) := by decide +kernel
theorem dX8_tithes_54 : decode cX8_tithes 54 = .ok (.getfield 73, 3) := by decide +kernel
theorem dX8_tithes_57 : decode cX8_tithes 57 = .ok (.ifCond .ne 11, 3) := by decide +kernel
theorem dX8_tithes_60 : decode cX8_tithes 60 = .ok (.iload 6, 2) := by decide +kernel
theorem dX8_tithes_62 : decode cX8_tithes 62 = .ok (.invokestatic 160, 3) := by decide +kernel
theorem dX8_tithes_65 : decode cX8_tithes 65 = .ok (.ifCond .ne 7, 3) := by decide +kernel
theorem dX8_tithes_68 : decode cX8_tithes 68 = .ok (.ldc2_w 163, 3) := by decide +kernel
theorem dX8_tithes_71 : decode cX8_tithes 71 = .ok (.lreturn, 1) := by decide +kernel
theorem dX8_tithes_72 : decode cX8_tithes 72 = .ok (.iload 4, 2) := by decide +kernel
theorem dX8_tithes_74 : decode cX8_tithes 74 = .ok (.istore 8, 2) := by decide +kernel
theorem dX8_tithes_76 : decode cX8_tithes 76 = .ok (.iload 8, 2) := by decide +kernel
theorem dX8_tithes_78 : decode cX8_tithes 78 = .ok (.iload 4, 2) := by decide +kernel
theorem dX8_tithes_80 : decode cX8_tithes 80 = .ok (.iload 5, 2) := by decide +kernel
theorem dX8_tithes_82 : decode cX8_tithes 82 = .ok (.iadd, 1) := by decide +kernel
theorem dX8_tithes_83 : decode cX8_tithes 83 = .ok (.if_icmp .ge 27, 3) := by decide +kernel
theorem dX8_tithes_86 : decode cX8_tithes 86 = .ok (.aload 7, 2) := by decide +kernel
theorem dX8_tithes_88 : decode cX8_tithes 88 = .ok (.getfield 88, 3) := by decide +kernel
theorem dX8_tithes_91 : decode cX8_tithes 91 = .ok (.iload 8, 2) := by decide +kernel
theorem dX8_tithes_93 : decode cX8_tithes 93 = .ok (.iaload, 1) := by decide +kernel
theorem dX8_tithes_94 : decode cX8_tithes 94 = .ok (.invokestatic 157, 3) := by decide +kernel
theorem dX8_tithes_97 : decode cX8_tithes 97 = .ok (.ifCond .ne 7, 3) := by decide +kernel
theorem dX8_tithes_100 : decode cX8_tithes 100 = .ok (.ldc2_w 163, 3) := by decide +kernel
theorem dX8_tithes_103 : decode cX8_tithes 103 = .ok (.lreturn, 1) := by decide +kernel
theorem dX8_tithes_104 : decode cX8_tithes 104 = .ok (.iinc 8 1, 3) := by decide +kernel
theorem dX8_tithes_107 : decode cX8_tithes 107 = .ok (.goto (-31), 3) := by decide +kernel
theorem dX8_tithes_110 : decode cX8_tithes 110 = .ok (.lconst 0, 1) := by decide +kernel
theorem dX8_tithes_111 : decode cX8_tithes 111 = .ok (.lstore 8, 2) := by decide +kernel
theorem dX8_tithes_113 : decode cX8_tithes 113 = .ok (.iload 4, 2) := by decide +kernel
theorem dX8_tithes_115 : decode cX8_tithes 115 = .ok (.istore 10, 2) := by decide +kernel
theorem dX8_tithes_117 : decode cX8_tithes 117 = .ok (.iload 10, 2) := by decide +kernel
theorem dX8_tithes_119 : decode cX8_tithes 119 = .ok (.iload 4, 2) := by decide +kernel
theorem dX8_tithes_121 : decode cX8_tithes 121 = .ok (.iload 5, 2) := by decide +kernel
theorem dX8_tithes_123 : decode cX8_tithes 123 = .ok (.iadd, 1) := by decide +kernel
theorem dX8_tithes_124 : decode cX8_tithes 124 = .ok (.if_icmp .ge 35, 3) := by decide +kernel
theorem dX8_tithes_127 : decode cX8_tithes 127 = .ok (.aload_n 0, 1) := by decide +kernel
theorem dX8_tithes_128 : decode cX8_tithes 128 = .ok (.getfield 30, 3) := by decide +kernel
theorem dX8_tithes_131 : decode cX8_tithes 131 = .ok (.aload 7, 2) := by decide +kernel
theorem dX8_tithes_133 : decode cX8_tithes 133 = .ok (.getfield 88, 3) := by decide +kernel
theorem dX8_tithes_136 : decode cX8_tithes 136 = .ok (.iload 10, 2) := by decide +kernel
theorem dX8_tithes_138 : decode cX8_tithes 138 = .ok (.iaload, 1) := by decide +kernel
theorem dX8_tithes_139 : decode cX8_tithes 139 = .ok (.invokevirtual 177, 3) := by decide +kernel
theorem dX8_tithes_142 : decode cX8_tithes 142 = .ok (.lload 8, 2) := by decide +kernel
theorem dX8_tithes_144 : decode cX8_tithes 144 = .ok (.aload_n 0, 1) := by decide +kernel
theorem dX8_tithes_145 : decode cX8_tithes 145 = .ok (.iload_n 1, 1) := by decide +kernel
theorem dX8_tithes_146 : decode cX8_tithes 146 = .ok (.invokevirtual 183, 3) := by decide +kernel
theorem dX8_tithes_149 : decode cX8_tithes 149 = .ok (.i2l, 1) := by decide +kernel
theorem dX8_tithes_150 : decode cX8_tithes 150 = .ok (.ladd, 1) := by decide +kernel
theorem dX8_tithes_151 : decode cX8_tithes 151 = .ok (.lstore 8, 2) := by decide +kernel
theorem dX8_tithes_153 : decode cX8_tithes 153 = .ok (.iinc 10 1, 3) := by decide +kernel
theorem dX8_tithes_156 : decode cX8_tithes 156 = .ok (.goto (-39), 3) := by decide +kernel
theorem dX8_tithes_159 : decode cX8_tithes 159 = .ok (.lload 8, 2) := by decide +kernel
theorem dX8_tithes_161 : decode cX8_tithes 161 = .ok (.ldc2_w 186, 3) := by decide +kernel
theorem dX8_tithes_164 : decode cX8_tithes 164 = .ok (.iload 6, 2) := by decide +kernel
theorem dX8_tithes_166 : decode cX8_tithes 166 = .ok (.invokestatic 173, 3) := by decide +kernel
theorem dX8_tithes_169 : decode cX8_tithes 169 = .ok (.lreturn, 1) := by decide +kernel
theorem dX8_wins_0 : decode cX8_wins 0 = .ok (.aload_n 0, 1) := by decide +kernel
theorem dX8_wins_1 : decode cX8_wins 1 = .ok (.iload_n 1, 1) := by decide +kernel
theorem dX8_wins_2 : decode cX8_wins 2 = .ok (.invokevirtual 145, 3) := by decide +kernel
theorem dX8_wins_5 : decode cX8_wins 5 = .ok (.ifCond .eq 11, 3) := by decide +kernel
theorem dX8_wins_8 : decode cX8_wins 8 = .ok (.aload_n 0, 1) := by decide +kernel
theorem dX8_wins_9 : decode cX8_wins 9 = .ok (.iload_n 2, 1) := by decide +kernel
theorem dX8_wins_10 : decode cX8_wins 10 = .ok (.invokevirtual 110, 3) := by decide +kernel
theorem dX8_wins_13 : decode cX8_wins 13 = .ok (.ifCond .ne 5, 3) := by decide +kernel
theorem dX8_wins_16 : decode cX8_wins 16 = .ok (.iconst (-1), 1) := by decide +kernel
theorem dX8_wins_17 : decode cX8_wins 17 = .ok (.ireturn, 1) := by decide +kernel
theorem dX8_wins_18 : decode cX8_wins 18 = .ok (.iload_n 3, 1) := by decide +kernel
theorem dX8_wins_19 : decode cX8_wins 19 = .ok (.invokestatic 157, 3) := by decide +kernel
theorem dX8_wins_22 : decode cX8_wins 22 = .ok (.ifCond .ne 6, 3) := by decide +kernel
theorem dX8_wins_25 : decode cX8_wins 25 = .ok (.bipush (-2), 2) := by decide +kernel
theorem dX8_wins_27 : decode cX8_wins 27 = .ok (.ireturn, 1) := by decide +kernel
theorem dX8_wins_28 : decode cX8_wins 28 = .ok (.aload_n 0, 1) := by decide +kernel
theorem dX8_wins_29 : decode cX8_wins 29 = .ok (.getfield 30, 3) := by decide +kernel
theorem dX8_wins_32 : decode cX8_wins 32 = .ok (.iload_n 3, 1) := by decide +kernel
theorem dX8_wins_33 : decode cX8_wins 33 = .ok (.invokevirtual 177, 3) := by decide +kernel
theorem dX8_wins_36 : decode cX8_wins 36 = .ok (.aload_n 0, 1) := by decide +kernel
theorem dX8_wins_37 : decode cX8_wins 37 = .ok (.getfield 30, 3) := by decide +kernel
theorem dX8_wins_40 : decode cX8_wins 40 = .ok (.iload_n 1, 1) := by decide +kernel
theorem dX8_wins_41 : decode cX8_wins 41 = .ok (.iload_n 2, 1) := by decide +kernel
theorem dX8_wins_42 : decode cX8_wins 42 = .ok (.invokevirtual 188, 3) := by decide +kernel
theorem dX8_wins_45 : decode cX8_wins 45 = .ok (.ireturn, 1) := by decide +kernel
theorem dX8_cheapest_0 : decode cX8_cheapest 0 = .ok (.aload_n 0, 1) := by decide +kernel
theorem dX8_cheapest_1 : decode cX8_cheapest 1 = .ok (.iload_n 1, 1) := by decide +kernel
theorem dX8_cheapest_2 : decode cX8_cheapest 2 = .ok (.invokevirtual 110, 3) := by decide +kernel
theorem dX8_cheapest_5 : decode cX8_cheapest 5 = .ok (.ifCond .ne 5, 3) := by decide +kernel
theorem dX8_cheapest_8 : decode cX8_cheapest 8 = .ok (.iconst (-1), 1) := by decide +kernel
theorem dX8_cheapest_9 : decode cX8_cheapest 9 = .ok (.ireturn, 1) := by decide +kernel
theorem dX8_cheapest_10 : decode cX8_cheapest 10 = .ok (.iload_n 2, 1) := by decide +kernel
theorem dX8_cheapest_11 : decode cX8_cheapest 11 = .ok (.invokestatic 157, 3) := by decide +kernel
theorem dX8_cheapest_14 : decode cX8_cheapest 14 = .ok (.ifCond .eq 10, 3) := by decide +kernel
theorem dX8_cheapest_17 : decode cX8_cheapest 17 = .ok (.iload_n 3, 1) := by decide +kernel
theorem dX8_cheapest_18 : decode cX8_cheapest 18 = .ok (.invokestatic 160, 3) := by decide +kernel
theorem dX8_cheapest_21 : decode cX8_cheapest 21 = .ok (.ifCond .ne 6, 3) := by decide +kernel
theorem dX8_cheapest_24 : decode cX8_cheapest 24 = .ok (.bipush (-2), 2) := by decide +kernel
theorem dX8_cheapest_26 : decode cX8_cheapest 26 = .ok (.ireturn, 1) := by decide +kernel
theorem dX8_cheapest_27 : decode cX8_cheapest 27 = .ok (.aload_n 0, 1) := by decide +kernel
theorem dX8_cheapest_28 : decode cX8_cheapest 28 = .ok (.getfield 30, 3) := by decide +kernel
theorem dX8_cheapest_31 : decode cX8_cheapest 31 = .ok (.iload_n 2, 1) := by decide +kernel
theorem dX8_cheapest_32 : decode cX8_cheapest 32 = .ok (.invokevirtual 177, 3) := by decide +kernel
theorem dX8_cheapest_35 : decode cX8_cheapest 35 = .ok (.bipush (-9), 2) := by decide +kernel
theorem dX8_cheapest_37 : decode cX8_cheapest 37 = .ok (.istore 4, 2) := by decide +kernel
theorem dX8_cheapest_39 : decode cX8_cheapest 39 = .ok (.bipush (-9), 2) := by decide +kernel
theorem dX8_cheapest_41 : decode cX8_cheapest 41 = .ok (.istore 5, 2) := by decide +kernel
theorem dX8_cheapest_43 : decode cX8_cheapest 43 = .ok (.iconst 0, 1) := by decide +kernel
theorem dX8_cheapest_44 : decode cX8_cheapest 44 = .ok (.istore 6, 2) := by decide +kernel
theorem dX8_cheapest_46 : decode cX8_cheapest 46 = .ok (.iload 6, 2) := by decide +kernel
theorem dX8_cheapest_48 : decode cX8_cheapest 48 = .ok (.aload_n 0, 1) := by decide +kernel
theorem dX8_cheapest_49 : decode cX8_cheapest 49 = .ok (.getfield 21, 3) := by decide +kernel
theorem dX8_cheapest_52 : decode cX8_cheapest 52 = .ok (.getfield 100, 3) := by decide +kernel
theorem dX8_cheapest_55 : decode cX8_cheapest 55 = .ok (.if_icmp .ge 69, 3) := by decide +kernel
theorem dX8_cheapest_58 : decode cX8_cheapest 58 = .ok (.aload_n 0, 1) := by decide +kernel
theorem dX8_cheapest_59 : decode cX8_cheapest 59 = .ok (.getfield 30, 3) := by decide +kernel
theorem dX8_cheapest_62 : decode cX8_cheapest 62 = .ok (.iload 6, 2) := by decide +kernel
theorem dX8_cheapest_64 : decode cX8_cheapest 64 = .ok (.iload_n 1, 1) := by decide +kernel
theorem dX8_cheapest_65 : decode cX8_cheapest 65 = .ok (.invokevirtual 188, 3) := by decide +kernel
theorem dX8_cheapest_68 : decode cX8_cheapest 68 = .ok (.istore 7, 2) := by decide +kernel
theorem dX8_cheapest_70 : decode cX8_cheapest 70 = .ok (.iconst 0, 1) := by decide +kernel
theorem dX8_cheapest_71 : decode cX8_cheapest 71 = .ok (.iload 7, 2) := by decide +kernel
theorem dX8_cheapest_73 : decode cX8_cheapest 73 = .ok (.aload_n 0, 1) := by decide +kernel
theorem dX8_cheapest_74 : decode cX8_cheapest 74 = .ok (.getfield 21, 3) := by decide +kernel
theorem dX8_cheapest_77 : decode cX8_cheapest 77 = .ok (.getfield 154, 3) := by decide +kernel
theorem dX8_cheapest_80 : decode cX8_cheapest 80 = .ok (.iload 6, 2) := by decide +kernel
theorem dX8_cheapest_82 : decode cX8_cheapest 82 = .ok (.iaload, 1) := by decide +kernel
theorem dX8_cheapest_83 : decode cX8_cheapest 83 = .ok (.isub, 1) := by decide +kernel
theorem dX8_cheapest_84 : decode cX8_cheapest 84 = .ok (.invokestatic 192, 3) := by decide +kernel
theorem dX8_cheapest_87 : decode cX8_cheapest 87 = .ok (.istore 8, 2) := by decide +kernel
theorem dX8_cheapest_89 : decode cX8_cheapest 89 = .ok (.iload 7, 2) := by decide +kernel
theorem dX8_cheapest_91 : decode cX8_cheapest 91 = .ok (.bipush (-9), 2) := by decide +kernel
theorem dX8_cheapest_93 : decode cX8_cheapest 93 = .ok (.if_icmp .eq 25, 3) := by decide +kernel
theorem dX8_cheapest_96 : decode cX8_cheapest 96 = .ok (.iload 4, 2) := by decide +kernel
theorem dX8_cheapest_98 : decode cX8_cheapest 98 = .ok (.bipush (-9), 2) := by decide +kernel
theorem dX8_cheapest_100 : decode cX8_cheapest 100 = .ok (.if_icmp .eq 10, 3) := by decide +kernel
theorem dX8_cheapest_103 : decode cX8_cheapest 103 = .ok (.iload 8, 2) := by decide +kernel
theorem dX8_cheapest_105 : decode cX8_cheapest 105 = .ok (.iload 5, 2) := by decide +kernel
theorem dX8_cheapest_107 : decode cX8_cheapest 107 = .ok (.if_icmp .ge 11, 3) := by decide +kernel
theorem dX8_cheapest_110 : decode cX8_cheapest 110 = .ok (.iload 6, 2) := by decide +kernel
theorem dX8_cheapest_112 : decode cX8_cheapest 112 = .ok (.istore 4, 2) := by decide +kernel
theorem dX8_cheapest_114 : decode cX8_cheapest 114 = .ok (.iload 8, 2) := by decide +kernel
theorem dX8_cheapest_116 : decode cX8_cheapest 116 = .ok (.istore 5, 2) := by decide +kernel
theorem dX8_cheapest_118 : decode cX8_cheapest 118 = .ok (.iinc 6 1, 3) := by decide +kernel
theorem dX8_cheapest_121 : decode cX8_cheapest 121 = .ok (.goto (-75), 3) := by decide +kernel
theorem dX8_cheapest_124 : decode cX8_cheapest 124 = .ok (.iload_n 3, 1) := by decide +kernel
theorem dX8_cheapest_125 : decode cX8_cheapest 125 = .ok (.ifCond .ne 8, 3) := by decide +kernel
theorem dX8_cheapest_128 : decode cX8_cheapest 128 = .ok (.iload 4, 2) := by decide +kernel
theorem dX8_cheapest_130 : decode cX8_cheapest 130 = .ok (.goto 5, 3) := by decide +kernel
theorem dX8_cheapest_133 : decode cX8_cheapest 133 = .ok (.iload 5, 2) := by decide +kernel
theorem dX8_cheapest_135 : decode cX8_cheapest 135 = .ok (.ireturn, 1) := by decide +kernel
theorem dX8_sheet_0 : decode cX8_sheet 0 = .ok (.aload_n 0, 1) := by decide +kernel
theorem dX8_sheet_1 : decode cX8_sheet 1 = .ok (.iconst 0, 1) := by decide +kernel
theorem dX8_sheet_2 : decode cX8_sheet 2 = .ok (.putfield 73, 3) := by decide +kernel
theorem dX8_sheet_5 : decode cX8_sheet 5 = .ok (.iload_n 1, 1) := by decide +kernel
theorem dX8_sheet_6 : decode cX8_sheet 6 = .ok (.invokestatic 77, 3) := by decide +kernel
theorem dX8_sheet_9 : decode cX8_sheet 9 = .ok (.ifCond .ne 5, 3) := by decide +kernel
theorem dX8_sheet_12 : decode cX8_sheet 12 = .ok (.iconst (-1), 1) := by decide +kernel
theorem dX8_sheet_13 : decode cX8_sheet 13 = .ok (.ireturn, 1) := by decide +kernel
theorem dX8_sheet_14 : decode cX8_sheet 14 = .ok (.iload_n 2, 1) := by decide +kernel
theorem dX8_sheet_15 : decode cX8_sheet 15 = .ok (.invokestatic 81, 3) := by decide +kernel
theorem dX8_sheet_18 : decode cX8_sheet 18 = .ok (.ifCond .eq 9, 3) := by decide +kernel
theorem dX8_sheet_21 : decode cX8_sheet 21 = .ok (.iload_n 3, 1) := by decide +kernel
theorem dX8_sheet_22 : decode cX8_sheet 22 = .ok (.bipush 60, 2) := by decide +kernel
theorem dX8_sheet_24 : decode cX8_sheet 24 = .ok (.if_icmp .le 6, 3) := by decide +kernel
theorem dX8_sheet_27 : decode cX8_sheet 27 = .ok (.bipush (-2), 2) := by decide +kernel
theorem dX8_sheet_29 : decode cX8_sheet 29 = .ok (.ireturn, 1) := by decide +kernel
theorem dX8_sheet_30 : decode cX8_sheet 30 = .ok (.iload_n 3, 1) := by decide +kernel
theorem dX8_sheet_31 : decode cX8_sheet 31 = .ok (.ifCond .ge 9, 3) := by decide +kernel
theorem dX8_sheet_34 : decode cX8_sheet 34 = .ok (.aload_n 0, 1) := by decide +kernel
theorem dX8_sheet_35 : decode cX8_sheet 35 = .ok (.iconst 4, 1) := by decide +kernel
theorem dX8_sheet_36 : decode cX8_sheet 36 = .ok (.invokevirtual 250, 3) := by decide +kernel
theorem dX8_sheet_39 : decode cX8_sheet 39 = .ok (.ireturn, 1) := by decide +kernel
theorem dX8_sheet_40 : decode cX8_sheet 40 = .ok (.aload_n 0, 1) := by decide +kernel
theorem dX8_sheet_41 : decode cX8_sheet 41 = .ok (.getfield 68, 3) := by decide +kernel
theorem dX8_sheet_44 : decode cX8_sheet 44 = .ok (.iload_n 1, 1) := by decide +kernel
theorem dX8_sheet_45 : decode cX8_sheet 45 = .ok (.aaload, 1) := by decide +kernel
theorem dX8_sheet_46 : decode cX8_sheet 46 = .ok (.iload_n 2, 1) := by decide +kernel
theorem dX8_sheet_47 : decode cX8_sheet 47 = .ok (.iload_n 3, 1) := by decide +kernel
theorem dX8_sheet_48 : decode cX8_sheet 48 = .ok (.invokevirtual 253, 3) := by decide +kernel
theorem dX8_sheet_51 : decode cX8_sheet 51 = .ok (.iconst 1, 1) := by decide +kernel
theorem dX8_sheet_52 : decode cX8_sheet 52 = .ok (.ireturn, 1) := by decide +kernel
theorem dX8_put_0 : decode cX8_put 0 = .ok (.aload_n 0, 1) := by decide +kernel
theorem dX8_put_1 : decode cX8_put 1 = .ok (.iconst 0, 1) := by decide +kernel
theorem dX8_put_2 : decode cX8_put 2 = .ok (.putfield 73, 3) := by decide +kernel
theorem dX8_put_5 : decode cX8_put 5 = .ok (.iload_n 1, 1) := by decide +kernel
theorem dX8_put_6 : decode cX8_put 6 = .ok (.invokestatic 77, 3) := by decide +kernel
theorem dX8_put_9 : decode cX8_put 9 = .ok (.ifCond .ne 5, 3) := by decide +kernel
theorem dX8_put_12 : decode cX8_put 12 = .ok (.iconst (-1), 1) := by decide +kernel
theorem dX8_put_13 : decode cX8_put 13 = .ok (.ireturn, 1) := by decide +kernel
theorem dX8_put_14 : decode cX8_put 14 = .ok (.aload_n 0, 1) := by decide +kernel
theorem dX8_put_15 : decode cX8_put 15 = .ok (.getfield 68, 3) := by decide +kernel
theorem dX8_put_18 : decode cX8_put 18 = .ok (.iload_n 1, 1) := by decide +kernel
theorem dX8_put_19 : decode cX8_put 19 = .ok (.aaload, 1) := by decide +kernel
theorem dX8_put_20 : decode cX8_put 20 = .ok (.astore 4, 2) := by decide +kernel
theorem dX8_put_22 : decode cX8_put 22 = .ok (.aload 4, 2) := by decide +kernel
theorem dX8_put_24 : decode cX8_put 24 = .ok (.getfield 257, 3) := by decide +kernel
theorem dX8_put_27 : decode cX8_put 27 = .ok (.ifCond .ne 9, 3) := by decide +kernel
theorem dX8_put_30 : decode cX8_put 30 = .ok (.aload_n 0, 1) := by decide +kernel
theorem dX8_put_31 : decode cX8_put 31 = .ok (.iconst 1, 1) := by decide +kernel
theorem dX8_put_32 : decode cX8_put 32 = .ok (.invokevirtual 250, 3) := by decide +kernel
theorem dX8_put_35 : decode cX8_put 35 = .ok (.ireturn, 1) := by decide +kernel
theorem dX8_put_36 : decode cX8_put 36 = .ok (.aload 4, 2) := by decide +kernel
theorem dX8_put_38 : decode cX8_put 38 = .ok (.iload_n 2, 1) := by decide +kernel
theorem dX8_put_39 : decode cX8_put 39 = .ok (.invokevirtual 261, 3) := by decide +kernel
theorem dX8_put_42 : decode cX8_put 42 = .ok (.ifCond .ne 9, 3) := by decide +kernel
theorem dX8_put_45 : decode cX8_put 45 = .ok (.aload_n 0, 1) := by decide +kernel
theorem dX8_put_46 : decode cX8_put 46 = .ok (.iconst 3, 1) := by decide +kernel
theorem dX8_put_47 : decode cX8_put 47 = .ok (.invokevirtual 250, 3) := by decide +kernel
theorem dX8_put_50 : decode cX8_put 50 = .ok (.ireturn, 1) := by decide +kernel
theorem dX8_put_51 : decode cX8_put 51 = .ok (.aload 4, 2) := by decide +kernel
theorem dX8_put_53 : decode cX8_put 53 = .ok (.getfield 88, 3) := by decide +kernel
theorem dX8_put_56 : decode cX8_put 56 = .ok (.iload_n 2, 1) := by decide +kernel
theorem dX8_put_57 : decode cX8_put 57 = .ok (.aload 4, 2) := by decide +kernel
theorem dX8_put_59 : decode cX8_put 59 = .ok (.iload_n 3, 1) := by decide +kernel
theorem dX8_put_60 : decode cX8_put 60 = .ok (.invokevirtual 264, 3) := by decide +kernel
theorem dX8_put_63 : decode cX8_put 63 = .ok (.iastore, 1) := by decide +kernel
theorem dX8_put_64 : decode cX8_put 64 = .ok (.iconst 1, 1) := by decide +kernel
theorem dX8_put_65 : decode cX8_put 65 = .ok (.ireturn, 1) := by decide +kernel
theorem dX8_fault_0 : decode cX8_fault 0 = .ok (.aload_n 0, 1) := by decide +kernel
theorem dX8_fault_1 : decode cX8_fault 1 = .ok (.getfield 73, 3) := by decide +kernel
theorem dX8_fault_4 : decode cX8_fault 4 = .ok (.ireturn, 1) := by decide +kernel
theorem dX8_isCell_0 : decode cX8_isCell 0 = .ok (.iload_n 1, 1) := by decide +kernel
theorem dX8_isCell_1 : decode cX8_isCell 1 = .ok (.ifCond .lt 18, 3) := by decide +kernel
theorem dX8_isCell_4 : decode cX8_isCell 4 = .ok (.iload_n 1, 1) := by decide +kernel
theorem dX8_isCell_5 : decode cX8_isCell 5 = .ok (.aload_n 0, 1) := by decide +kernel
theorem dX8_isCell_6 : decode cX8_isCell 6 = .ok (.getfield 14, 3) := by decide +kernel
theorem dX8_isCell_9 : decode cX8_isCell 9 = .ok (.getfield 107, 3) := by decide +kernel
theorem dX8_isCell_12 : decode cX8_isCell 12 = .ok (.if_icmp .ge 7, 3) := by decide +kernel
theorem dX8_isCell_15 : decode cX8_isCell 15 = .ok (.iconst 1, 1) := by decide +kernel
theorem dX8_isCell_16 : decode cX8_isCell 16 = .ok (.goto 4, 3) := by decide +kernel
theorem dX8_isCell_19 : decode cX8_isCell 19 = .ok (.iconst 0, 1) := by decide +kernel
theorem dX8_isCell_20 : decode cX8_isCell 20 = .ok (.ireturn, 1) := by decide +kernel
theorem dX8_isBell_0 : decode cX8_isBell 0 = .ok (.iload_n 1, 1) := by decide +kernel
theorem dX8_isBell_1 : decode cX8_isBell 1 = .ok (.ifCond .lt 18, 3) := by decide +kernel
theorem dX8_isBell_4 : decode cX8_isBell 4 = .ok (.iload_n 1, 1) := by decide +kernel
theorem dX8_isBell_5 : decode cX8_isBell 5 = .ok (.aload_n 0, 1) := by decide +kernel
theorem dX8_isBell_6 : decode cX8_isBell 6 = .ok (.getfield 21, 3) := by decide +kernel
theorem dX8_isBell_9 : decode cX8_isBell 9 = .ok (.getfield 100, 3) := by decide +kernel
theorem dX8_isBell_12 : decode cX8_isBell 12 = .ok (.if_icmp .ge 7, 3) := by decide +kernel
theorem dX8_isBell_15 : decode cX8_isBell 15 = .ok (.iconst 1, 1) := by decide +kernel
theorem dX8_isBell_16 : decode cX8_isBell 16 = .ok (.goto 4, 3) := by decide +kernel
theorem dX8_isBell_19 : decode cX8_isBell 19 = .ok (.iconst 0, 1) := by decide +kernel
theorem dX8_isBell_20 : decode cX8_isBell 20 = .ok (.ireturn, 1) := by decide +kernel
theorem dX8_isSheet_0 : decode cX8_isSheet 0 = .ok (.iload_n 0, 1) := by decide +kernel
theorem dX8_isSheet_1 : decode cX8_isSheet 1 = .ok (.ifCond .lt 12, 3) := by decide +kernel
theorem dX8_isSheet_4 : decode cX8_isSheet 4 = .ok (.iload_n 0, 1) := by decide +kernel
theorem dX8_isSheet_5 : decode cX8_isSheet 5 = .ok (.iconst 4, 1) := by decide +kernel
theorem dX8_isSheet_6 : decode cX8_isSheet 6 = .ok (.if_icmp .ge 7, 3) := by decide +kernel
theorem dX8_isSheet_9 : decode cX8_isSheet 9 = .ok (.iconst 1, 1) := by decide +kernel
theorem dX8_isSheet_10 : decode cX8_isSheet 10 = .ok (.goto 4, 3) := by decide +kernel
theorem dX8_isSheet_13 : decode cX8_isSheet 13 = .ok (.iconst 0, 1) := by decide +kernel
theorem dX8_isSheet_14 : decode cX8_isSheet 14 = .ok (.ireturn, 1) := by decide +kernel
theorem dX8_isSort_0 : decode cX8_isSort 0 = .ok (.iload_n 0, 1) := by decide +kernel
theorem dX8_isSort_1 : decode cX8_isSort 1 = .ok (.ifCond .lt 12, 3) := by decide +kernel
theorem dX8_isSort_4 : decode cX8_isSort 4 = .ok (.iload_n 0, 1) := by decide +kernel
theorem dX8_isSort_5 : decode cX8_isSort 5 = .ok (.iconst 2, 1) := by decide +kernel
theorem dX8_isSort_6 : decode cX8_isSort 6 = .ok (.if_icmp .gt 7, 3) := by decide +kernel
theorem dX8_isSort_9 : decode cX8_isSort 9 = .ok (.iconst 1, 1) := by decide +kernel
theorem dX8_isSort_10 : decode cX8_isSort 10 = .ok (.goto 4, 3) := by decide +kernel
theorem dX8_isSort_13 : decode cX8_isSort 13 = .ok (.iconst 0, 1) := by decide +kernel
theorem dX8_isSort_14 : decode cX8_isSort 14 = .ok (.ireturn, 1) := by decide +kernel
theorem dX8_isKind_0 : decode cX8_isKind 0 = .ok (.iload_n 0, 1) := by decide +kernel
theorem dX8_isKind_1 : decode cX8_isKind 1 = .ok (.ifCond .lt 12, 3) := by decide +kernel
theorem dX8_isKind_4 : decode cX8_isKind 4 = .ok (.iload_n 0, 1) := by decide +kernel
theorem dX8_isKind_5 : decode cX8_isKind 5 = .ok (.iconst 2, 1) := by decide +kernel
theorem dX8_isKind_6 : decode cX8_isKind 6 = .ok (.if_icmp .gt 7, 3) := by decide +kernel
theorem dX8_isKind_9 : decode cX8_isKind 9 = .ok (.iconst 1, 1) := by decide +kernel
theorem dX8_isKind_10 : decode cX8_isKind 10 = .ok (.goto 4, 3) := by decide +kernel
theorem dX8_isKind_13 : decode cX8_isKind 13 = .ok (.iconst 0, 1) := by decide +kernel
theorem dX8_isKind_14 : decode cX8_isKind 14 = .ok (.ireturn, 1) := by decide +kernel
theorem dX8_isWeight_0 : decode cX8_isWeight 0 = .ok (.iload_n 0, 1) := by decide +kernel
theorem dX8_isWeight_1 : decode cX8_isWeight 1 = .ok (.iconst 1, 1) := by decide +kernel
theorem dX8_isWeight_2 : decode cX8_isWeight 2 = .ok (.if_icmp .lt 13, 3) := by decide +kernel
theorem dX8_isWeight_5 : decode cX8_isWeight 5 = .ok (.iload_n 0, 1) := by decide +kernel
theorem dX8_isWeight_6 : decode cX8_isWeight 6 = .ok (.bipush 99, 2) := by decide +kernel
theorem dX8_isWeight_8 : decode cX8_isWeight 8 = .ok (.if_icmp .gt 7, 3) := by decide +kernel
theorem dX8_isWeight_11 : decode cX8_isWeight 11 = .ok (.iconst 1, 1) := by decide +kernel
theorem dX8_isWeight_12 : decode cX8_isWeight 12 = .ok (.goto 4, 3) := by decide +kernel
theorem dX8_isWeight_15 : decode cX8_isWeight 15 = .ok (.iconst 0, 1) := by decide +kernel
theorem dX8_isWeight_16 : decode cX8_isWeight 16 = .ok (.ireturn, 1) := by decide +kernel
theorem dX8_isWind_0 : decode cX8_isWind 0 = .ok (.iload_n 0, 1) := by decide +kernel
theorem dX8_isWind_1 : decode cX8_isWind 1 = .ok (.ifCond .lt 13, 3) := by decide +kernel
theorem dX8_isWind_4 : decode cX8_isWind 4 = .ok (.iload_n 0, 1) := by decide +kernel
theorem dX8_isWind_5 : decode cX8_isWind 5 = .ok (.bipush 39, 2) := by decide +kernel
theorem dX8_isWind_7 : decode cX8_isWind 7 = .ok (.if_icmp .gt 7, 3) := by decide +kernel
theorem dX8_isWind_10 : decode cX8_isWind 10 = .ok (.iconst 1, 1) := by decide +kernel
theorem dX8_isWind_11 : decode cX8_isWind 11 = .ok (.goto 4, 3) := by decide +kernel
theorem dX8_isWind_14 : decode cX8_isWind 14 = .ok (.iconst 0, 1) := by decide +kernel
theorem dX8_isWind_15 : decode cX8_isWind 15 = .ok (.ireturn, 1) := by decide +kernel
theorem dX8_isOneOfTwo_0 : decode cX8_isOneOfTwo 0 = .ok (.iload_n 0, 1) := by decide +kernel
theorem dX8_isOneOfTwo_1 : decode cX8_isOneOfTwo 1 = .ok (.ifCond .eq 8, 3) := by decide +kernel
theorem dX8_isOneOfTwo_4 : decode cX8_isOneOfTwo 4 = .ok (.iload_n 0, 1) := by decide +kernel
theorem dX8_isOneOfTwo_5 : decode cX8_isOneOfTwo 5 = .ok (.iconst 1, 1) := by decide +kernel
theorem dX8_isOneOfTwo_6 : decode cX8_isOneOfTwo 6 = .ok (.if_icmp .ne 7, 3) := by decide +kernel
theorem dX8_isOneOfTwo_9 : decode cX8_isOneOfTwo 9 = .ok (.iconst 1, 1) := by decide +kernel
theorem dX8_isOneOfTwo_10 : decode cX8_isOneOfTwo 10 = .ok (.goto 4, 3) := by decide +kernel
theorem dX8_isOneOfTwo_13 : decode cX8_isOneOfTwo 13 = .ok (.iconst 0, 1) := by decide +kernel
theorem dX8_isOneOfTwo_14 : decode cX8_isOneOfTwo 14 = .ok (.ireturn, 1) := by decide +kernel
theorem dX8_faulty_0 : decode cX8_faulty 0 = .ok (.aload_n 0, 1) := by decide +kernel
theorem dX8_faulty_1 : decode cX8_faulty 1 = .ok (.iload_n 1, 1) := by decide +kernel
theorem dX8_faulty_2 : decode cX8_faulty 2 = .ok (.putfield 73, 3) := by decide +kernel
theorem dX8_faulty_5 : decode cX8_faulty 5 = .ok (.bipush (-10), 2) := by decide +kernel
theorem dX8_faulty_7 : decode cX8_faulty 7 = .ok (.iload_n 1, 1) := by decide +kernel
theorem dX8_faulty_8 : decode cX8_faulty 8 = .ok (.isub, 1) := by decide +kernel
theorem dX8_faulty_9 : decode cX8_faulty 9 = .ok (.ireturn, 1) := by decide +kernel
theorem dX8_share_0 : decode cX8_share 0 = .ok (.lload_n 0, 1) := by decide +kernel
theorem dX8_share_1 : decode cX8_share 1 = .ok (.lload_n 2, 1) := by decide +kernel
theorem dX8_share_2 : decode cX8_share 2 = .ok (.invokestatic 306, 3) := by decide +kernel
theorem dX8_share_5 : decode cX8_share 5 = .ok (.lstore 5, 2) := by decide +kernel
theorem dX8_share_7 : decode cX8_share 7 = .ok (.iload 4, 2) := by decide +kernel
theorem dX8_share_9 : decode cX8_share 9 = .ok (.ifCond .ne 7, 3) := by decide +kernel
theorem dX8_share_12 : decode cX8_share 12 = .ok (.lload_n 0, 1) := by decide +kernel
theorem dX8_share_13 : decode cX8_share 13 = .ok (.goto 4, 3) := by decide +kernel
theorem dX8_share_16 : decode cX8_share 16 = .ok (.lload_n 2, 1) := by decide +kernel
theorem dX8_share_17 : decode cX8_share 17 = .ok (.lload 5, 2) := by decide +kernel
theorem dX8_share_19 : decode cX8_share 19 = .ok (.ldiv, 1) := by decide +kernel
theorem dX8_share_20 : decode cX8_share 20 = .ok (.lreturn, 1) := by decide +kernel
theorem dX8_greatestCommon_0 : decode cX8_greatestCommon 0 = .ok (.lload_n 0, 1) := by decide +kernel
theorem dX8_greatestCommon_1 : decode cX8_greatestCommon 1 = .ok (.lstore 4, 2) := by decide +kernel
theorem dX8_greatestCommon_3 : decode cX8_greatestCommon 3 = .ok (.lload_n 2, 1) := by decide +kernel
theorem dX8_greatestCommon_4 : decode cX8_greatestCommon 4 = .ok (.lstore 6, 2) := by decide +kernel
theorem dX8_greatestCommon_6 : decode cX8_greatestCommon 6 = .ok (.iconst 0, 1) := by decide +kernel
theorem dX8_greatestCommon_7 : decode cX8_greatestCommon 7 = .ok (.istore 8, 2) := by decide +kernel
theorem dX8_greatestCommon_9 : decode cX8_greatestCommon 9 = .ok (.iload 8, 2) := by decide +kernel
theorem dX8_greatestCommon_11 : decode cX8_greatestCommon 11 = .ok (.bipush 100, 2) := by decide +kernel
theorem dX8_greatestCommon_13 : decode cX8_greatestCommon 13 = .ok (.if_icmp .ge 31, 3) := by decide +kernel
theorem dX8_greatestCommon_16 : decode cX8_greatestCommon 16 = .ok (.lload 6, 2) := by decide +kernel
theorem dX8_greatestCommon_18 : decode cX8_greatestCommon 18 = .ok (.lconst 0, 1) := by decide +kernel
theorem dX8_greatestCommon_19 : decode cX8_greatestCommon 19 = .ok (.lcmp, 1) := by decide +kernel
theorem dX8_greatestCommon_20 : decode cX8_greatestCommon 20 = .ok (.ifCond .eq 24, 3) := by decide +kernel
theorem dX8_greatestCommon_23 : decode cX8_greatestCommon 23 = .ok (.lload 4, 2) := by decide +kernel
theorem dX8_greatestCommon_25 : decode cX8_greatestCommon 25 = .ok (.lload 6, 2) := by decide +kernel
theorem dX8_greatestCommon_27 : decode cX8_greatestCommon 27 = .ok (.lrem, 1) := by decide +kernel
theorem dX8_greatestCommon_28 : decode cX8_greatestCommon 28 = .ok (.lstore 9, 2) := by decide +kernel
theorem dX8_greatestCommon_30 : decode cX8_greatestCommon 30 = .ok (.lload 6, 2) := by decide +kernel
theorem dX8_greatestCommon_32 : decode cX8_greatestCommon 32 = .ok (.lstore 4, 2) := by decide +kernel
theorem dX8_greatestCommon_34 : decode cX8_greatestCommon 34 = .ok (.lload 9, 2) := by decide +kernel
theorem dX8_greatestCommon_36 : decode cX8_greatestCommon 36 = .ok (.lstore 6, 2) := by decide +kernel
theorem dX8_greatestCommon_38 : decode cX8_greatestCommon 38 = .ok (.iinc 8 1, 3) := by decide +kernel
theorem dX8_greatestCommon_41 : decode cX8_greatestCommon 41 = .ok (.goto (-32), 3) := by decide +kernel
theorem dX8_greatestCommon_44 : decode cX8_greatestCommon 44 = .ok (.lconst 1, 1) := by decide +kernel
theorem dX8_greatestCommon_45 : decode cX8_greatestCommon 45 = .ok (.lload 4, 2) := by decide +kernel
theorem dX8_greatestCommon_47 : decode cX8_greatestCommon 47 = .ok (.invokestatic 310, 3) := by decide +kernel
theorem dX8_greatestCommon_50 : decode cX8_greatestCommon 50 = .ok (.lreturn, 1) := by decide +kernel
theorem dX8_partsOfTithe_0 : decode cX8_partsOfTithe 0 = .ok (.iconst 0, 1) := by decide +kernel
theorem dX8_partsOfTithe_1 : decode cX8_partsOfTithe 1 = .ok (.istore_n 2, 1) := by decide +kernel
theorem dX8_partsOfTithe_2 : decode cX8_partsOfTithe 2 = .ok (.iconst 0, 1) := by decide +kernel
theorem dX8_partsOfTithe_3 : decode cX8_partsOfTithe 3 = .ok (.istore_n 3, 1) := by decide +kernel
theorem dX8_partsOfTithe_4 : decode cX8_partsOfTithe 4 = .ok (.iload_n 3, 1) := by decide +kernel
theorem dX8_partsOfTithe_5 : decode cX8_partsOfTithe 5 = .ok (.aload_n 0, 1) := by decide +kernel
theorem dX8_partsOfTithe_6 : decode cX8_partsOfTithe 6 = .ok (.getfield 14, 3) := by decide +kernel
theorem dX8_partsOfTithe_9 : decode cX8_partsOfTithe 9 = .ok (.getfield 107, 3) := by decide +kernel
theorem dX8_partsOfTithe_12 : decode cX8_partsOfTithe 12 = .ok (.if_icmp .ge 49, 3) := by decide +kernel
theorem dX8_partsOfTithe_15 : decode cX8_partsOfTithe 15 = .ok (.aload_n 0, 1) := by decide +kernel
theorem dX8_partsOfTithe_16 : decode cX8_partsOfTithe 16 = .ok (.getfield 30, 3) := by decide +kernel
theorem dX8_partsOfTithe_19 : decode cX8_partsOfTithe 19 = .ok (.iload_n 3, 1) := by decide +kernel
theorem dX8_partsOfTithe_20 : decode cX8_partsOfTithe 20 = .ok (.invokevirtual 180, 3) := by decide +kernel
theorem dX8_partsOfTithe_23 : decode cX8_partsOfTithe 23 = .ok (.istore 4, 2) := by decide +kernel
theorem dX8_partsOfTithe_25 : decode cX8_partsOfTithe 25 = .ok (.iload 4, 2) := by decide +kernel
theorem dX8_partsOfTithe_27 : decode cX8_partsOfTithe 27 = .ok (.iload_n 1, 1) := by decide +kernel
theorem dX8_partsOfTithe_28 : decode cX8_partsOfTithe 28 = .ok (.ishr, 1) := by decide +kernel
theorem dX8_partsOfTithe_29 : decode cX8_partsOfTithe 29 = .ok (.iconst 1, 1) := by decide +kernel
theorem dX8_partsOfTithe_30 : decode cX8_partsOfTithe 30 = .ok (.iand, 1) := by decide +kernel
theorem dX8_partsOfTithe_31 : decode cX8_partsOfTithe 31 = .ok (.iconst 1, 1) := by decide +kernel
theorem dX8_partsOfTithe_32 : decode cX8_partsOfTithe 32 = .ok (.if_icmp .ne 23, 3) := by decide +kernel
theorem dX8_partsOfTithe_35 : decode cX8_partsOfTithe 35 = .ok (.iload_n 2, 1) := by decide +kernel
theorem dX8_partsOfTithe_36 : decode cX8_partsOfTithe 36 = .ok (.aload_n 0, 1) := by decide +kernel
theorem dX8_partsOfTithe_37 : decode cX8_partsOfTithe 37 = .ok (.getfield 14, 3) := by decide +kernel
theorem dX8_partsOfTithe_40 : decode cX8_partsOfTithe 40 = .ok (.iload_n 3, 1) := by decide +kernel
theorem dX8_partsOfTithe_41 : decode cX8_partsOfTithe 41 = .ok (.invokevirtual 116, 3) := by decide +kernel
theorem dX8_partsOfTithe_44 : decode cX8_partsOfTithe 44 = .ok (.bipush 60, 2) := by decide +kernel
theorem dX8_partsOfTithe_46 : decode cX8_partsOfTithe 46 = .ok (.imul, 1) := by decide +kernel
theorem dX8_partsOfTithe_47 : decode cX8_partsOfTithe 47 = .ok (.iload 4, 2) := by decide +kernel
theorem dX8_partsOfTithe_49 : decode cX8_partsOfTithe 49 = .ok (.invokestatic 222, 3) := by decide +kernel
theorem dX8_partsOfTithe_52 : decode cX8_partsOfTithe 52 = .ok (.idiv, 1) := by decide +kernel
theorem dX8_partsOfTithe_53 : decode cX8_partsOfTithe 53 = .ok (.iadd, 1) := by decide +kernel
theorem dX8_partsOfTithe_54 : decode cX8_partsOfTithe 54 = .ok (.istore_n 2, 1) := by decide +kernel
theorem dX8_partsOfTithe_55 : decode cX8_partsOfTithe 55 = .ok (.iinc 3 1, 3) := by decide +kernel
theorem dX8_partsOfTithe_58 : decode cX8_partsOfTithe 58 = .ok (.goto (-54), 3) := by decide +kernel
theorem dX8_partsOfTithe_61 : decode cX8_partsOfTithe 61 = .ok (.iload_n 2, 1) := by decide +kernel
theorem dX8_partsOfTithe_62 : decode cX8_partsOfTithe 62 = .ok (.ireturn, 1) := by decide +kernel
theorem dJ6_bitCount_0f7a4_0 : decode cJ6_bitCount_0f7a4 0 = .ok (.iload_n 0, 1) := by decide +kernel
theorem dJ6_bitCount_0f7a4_1 : decode cJ6_bitCount_0f7a4 1 = .ok (.iload_n 0, 1) := by decide +kernel
theorem dJ6_bitCount_0f7a4_2 : decode cJ6_bitCount_0f7a4 2 = .ok (.iconst 1, 1) := by decide +kernel
theorem dJ6_bitCount_0f7a4_3 : decode cJ6_bitCount_0f7a4 3 = .ok (.iushr, 1) := by decide +kernel
theorem dJ6_bitCount_0f7a4_4 : decode cJ6_bitCount_0f7a4 4 = .ok (.ldc_w 265, 3) := by decide +kernel
theorem dJ6_bitCount_0f7a4_7 : decode cJ6_bitCount_0f7a4 7 = .ok (.iand, 1) := by decide +kernel
theorem dJ6_bitCount_0f7a4_8 : decode cJ6_bitCount_0f7a4 8 = .ok (.isub, 1) := by decide +kernel
theorem dJ6_bitCount_0f7a4_9 : decode cJ6_bitCount_0f7a4 9 = .ok (.istore_n 0, 1) := by decide +kernel
theorem dJ6_bitCount_0f7a4_10 : decode cJ6_bitCount_0f7a4 10 = .ok (.iload_n 0, 1) := by decide +kernel
theorem dJ6_bitCount_0f7a4_11 : decode cJ6_bitCount_0f7a4 11 = .ok (.ldc_w 266, 3) := by decide +kernel
theorem dJ6_bitCount_0f7a4_14 : decode cJ6_bitCount_0f7a4 14 = .ok (.iand, 1) := by decide +kernel
theorem dJ6_bitCount_0f7a4_15 : decode cJ6_bitCount_0f7a4 15 = .ok (.iload_n 0, 1) := by decide +kernel
theorem dJ6_bitCount_0f7a4_16 : decode cJ6_bitCount_0f7a4 16 = .ok (.iconst 2, 1) := by decide +kernel
theorem dJ6_bitCount_0f7a4_17 : decode cJ6_bitCount_0f7a4 17 = .ok (.iushr, 1) := by decide +kernel
theorem dJ6_bitCount_0f7a4_18 : decode cJ6_bitCount_0f7a4 18 = .ok (.ldc_w 266, 3) := by decide +kernel
theorem dJ6_bitCount_0f7a4_21 : decode cJ6_bitCount_0f7a4 21 = .ok (.iand, 1) := by decide +kernel
theorem dJ6_bitCount_0f7a4_22 : decode cJ6_bitCount_0f7a4 22 = .ok (.iadd, 1) := by decide +kernel
theorem dJ6_bitCount_0f7a4_23 : decode cJ6_bitCount_0f7a4 23 = .ok (.istore_n 0, 1) := by decide +kernel
theorem dJ6_bitCount_0f7a4_24 : decode cJ6_bitCount_0f7a4 24 = .ok (.iload_n 0, 1) := by decide +kernel
theorem dJ6_bitCount_0f7a4_25 : decode cJ6_bitCount_0f7a4 25 = .ok (.iload_n 0, 1) := by decide +kernel
theorem dJ6_bitCount_0f7a4_26 : decode cJ6_bitCount_0f7a4 26 = .ok (.iconst 4, 1) := by decide +kernel
theorem dJ6_bitCount_0f7a4_27 : decode cJ6_bitCount_0f7a4 27 = .ok (.iushr, 1) := by decide +kernel
theorem dJ6_bitCount_0f7a4_28 : decode cJ6_bitCount_0f7a4 28 = .ok (.iadd, 1) := by decide +kernel
theorem dJ6_bitCount_0f7a4_29 : decode cJ6_bitCount_0f7a4 29 = .ok (.ldc_w 267, 3) := by decide +kernel
theorem dJ6_bitCount_0f7a4_32 : decode cJ6_bitCount_0f7a4 32 = .ok (.iand, 1) := by decide +kernel
theorem dJ6_bitCount_0f7a4_33 : decode cJ6_bitCount_0f7a4 33 = .ok (.istore_n 0, 1) := by decide +kernel
theorem dJ6_bitCount_0f7a4_34 : decode cJ6_bitCount_0f7a4 34 = .ok (.iload_n 0, 1) := by decide +kernel
theorem dJ6_bitCount_0f7a4_35 : decode cJ6_bitCount_0f7a4 35 = .ok (.iload_n 0, 1) := by decide +kernel
theorem dJ6_bitCount_0f7a4_36 : decode cJ6_bitCount_0f7a4 36 = .ok (.bipush 8, 2) := by decide +kernel
theorem dJ6_bitCount_0f7a4_38 : decode cJ6_bitCount_0f7a4 38 = .ok (.iushr, 1) := by decide +kernel
theorem dJ6_bitCount_0f7a4_39 : decode cJ6_bitCount_0f7a4 39 = .ok (.iadd, 1) := by decide +kernel
theorem dJ6_bitCount_0f7a4_40 : decode cJ6_bitCount_0f7a4 40 = .ok (.istore_n 0, 1) := by decide +kernel
theorem dJ6_bitCount_0f7a4_41 : decode cJ6_bitCount_0f7a4 41 = .ok (.iload_n 0, 1) := by decide +kernel
theorem dJ6_bitCount_0f7a4_42 : decode cJ6_bitCount_0f7a4 42 = .ok (.iload_n 0, 1) := by decide +kernel
theorem dJ6_bitCount_0f7a4_43 : decode cJ6_bitCount_0f7a4 43 = .ok (.bipush 16, 2) := by decide +kernel
theorem dJ6_bitCount_0f7a4_45 : decode cJ6_bitCount_0f7a4 45 = .ok (.iushr, 1) := by decide +kernel
theorem dJ6_bitCount_0f7a4_46 : decode cJ6_bitCount_0f7a4 46 = .ok (.iadd, 1) := by decide +kernel
theorem dJ6_bitCount_0f7a4_47 : decode cJ6_bitCount_0f7a4 47 = .ok (.istore_n 0, 1) := by decide +kernel
theorem dJ6_bitCount_0f7a4_48 : decode cJ6_bitCount_0f7a4 48 = .ok (.iload_n 0, 1) := by decide +kernel
theorem dJ6_bitCount_0f7a4_49 : decode cJ6_bitCount_0f7a4 49 = .ok (.bipush 63, 2) := by decide +kernel
theorem dJ6_bitCount_0f7a4_51 : decode cJ6_bitCount_0f7a4 51 = .ok (.iand, 1) := by decide +kernel
theorem dJ6_bitCount_0f7a4_52 : decode cJ6_bitCount_0f7a4 52 = .ok (.ireturn, 1) := by decide +kernel
theorem dJ9_abs_0f7a4_0 : decode cJ9_abs_0f7a4 0 = .ok (.iload_n 0, 1) := by decide +kernel
theorem dJ9_abs_0f7a4_1 : decode cJ9_abs_0f7a4 1 = .ok (.ifCond .ge 8, 3) := by decide +kernel
theorem dJ9_abs_0f7a4_4 : decode cJ9_abs_0f7a4 4 = .ok (.iload_n 0, 1) := by decide +kernel
theorem dJ9_abs_0f7a4_5 : decode cJ9_abs_0f7a4 5 = .ok (.ineg, 1) := by decide +kernel
theorem dJ9_abs_0f7a4_6 : decode cJ9_abs_0f7a4 6 = .ok (.goto 4, 3) := by decide +kernel
theorem dJ9_abs_0f7a4_9 : decode cJ9_abs_0f7a4 9 = .ok (.iload_n 0, 1) := by decide +kernel
theorem dJ9_abs_0f7a4_10 : decode cJ9_abs_0f7a4 10 = .ok (.ireturn, 1) := by decide +kernel
theorem dJ9_max_7cf53_0 : decode cJ9_max_7cf53 0 = .ok (.iload_n 0, 1) := by decide +kernel
theorem dJ9_max_7cf53_1 : decode cJ9_max_7cf53 1 = .ok (.iload_n 1, 1) := by decide +kernel
theorem dJ9_max_7cf53_2 : decode cJ9_max_7cf53 2 = .ok (.if_icmp .lt 7, 3) := by decide +kernel
theorem dJ9_max_7cf53_5 : decode cJ9_max_7cf53 5 = .ok (.iload_n 0, 1) := by decide +kernel
theorem dJ9_max_7cf53_6 : decode cJ9_max_7cf53 6 = .ok (.goto 4, 3) := by decide +kernel
theorem dJ9_max_7cf53_9 : decode cJ9_max_7cf53 9 = .ok (.iload_n 1, 1) := by decide +kernel
theorem dJ9_max_7cf53_10 : decode cJ9_max_7cf53 10 = .ok (.ireturn, 1) := by decide +kernel
theorem dJ9_max_f86c9_0 : decode cJ9_max_f86c9 0 = .ok (.lload_n 0, 1) := by decide +kernel
theorem dJ9_max_f86c9_1 : decode cJ9_max_f86c9 1 = .ok (.lload_n 2, 1) := by decide +kernel
theorem dJ9_max_f86c9_2 : decode cJ9_max_f86c9 2 = .ok (.lcmp, 1) := by decide +kernel
theorem dJ9_max_f86c9_3 : decode cJ9_max_f86c9 3 = .ok (.ifCond .lt 7, 3) := by decide +kernel
theorem dJ9_max_f86c9_6 : decode cJ9_max_f86c9 6 = .ok (.lload_n 0, 1) := by decide +kernel
theorem dJ9_max_f86c9_7 : decode cJ9_max_f86c9 7 = .ok (.goto 4, 3) := by decide +kernel
theorem dJ9_max_f86c9_10 : decode cJ9_max_f86c9 10 = .ok (.lload_n 2, 1) := by decide +kernel
theorem dJ9_max_f86c9_11 : decode cJ9_max_f86c9 11 = .ok (.lreturn, 1) := by decide +kernel
theorem dJ7_fill_53178_0 : decode cJ7_fill_53178 0 = .ok (.iconst 0, 1) := by decide +kernel
theorem dJ7_fill_53178_1 : decode cJ7_fill_53178 1 = .ok (.istore_n 2, 1) := by decide +kernel
theorem dJ7_fill_53178_2 : decode cJ7_fill_53178 2 = .ok (.aload_n 0, 1) := by decide +kernel
theorem dJ7_fill_53178_3 : decode cJ7_fill_53178 3 = .ok (.arraylength, 1) := by decide +kernel
theorem dJ7_fill_53178_4 : decode cJ7_fill_53178 4 = .ok (.istore_n 3, 1) := by decide +kernel
theorem dJ7_fill_53178_5 : decode cJ7_fill_53178 5 = .ok (.iload_n 2, 1) := by decide +kernel
theorem dJ7_fill_53178_6 : decode cJ7_fill_53178 6 = .ok (.iload_n 3, 1) := by decide +kernel
theorem dJ7_fill_53178_7 : decode cJ7_fill_53178 7 = .ok (.if_icmp .ge 13, 3) := by decide +kernel
theorem dJ7_fill_53178_10 : decode cJ7_fill_53178 10 = .ok (.aload_n 0, 1) := by decide +kernel
theorem dJ7_fill_53178_11 : decode cJ7_fill_53178 11 = .ok (.iload_n 2, 1) := by decide +kernel
theorem dJ7_fill_53178_12 : decode cJ7_fill_53178 12 = .ok (.iload_n 1, 1) := by decide +kernel
theorem dJ7_fill_53178_13 : decode cJ7_fill_53178 13 = .ok (.iastore, 1) := by decide +kernel
theorem dJ7_fill_53178_14 : decode cJ7_fill_53178 14 = .ok (.iinc 2 1, 3) := by decide +kernel
theorem dJ7_fill_53178_17 : decode cJ7_fill_53178 17 = .ok (.goto (-12), 3) := by decide +kernel
theorem dJ7_fill_53178_20 : decode cJ7_fill_53178 20 = .ok (.return_, 1) := by decide +kernel
theorem dL_cell_0 : decode cL_cell 0 = .ok (.iload_n 1, 1) := by decide +kernel
theorem dL_cell_1 : decode cL_cell 1 = .ok (.aload_n 0, 1) := by decide +kernel
theorem dL_cell_2 : decode cL_cell 2 = .ok (.arraylength, 1) := by decide +kernel
theorem dL_cell_3 : decode cL_cell 3 = .ok (.if_icmp .ge 9, 3) := by decide +kernel
theorem dL_cell_6 : decode cL_cell 6 = .ok (.aload_n 0, 1) := by decide +kernel
theorem dL_cell_7 : decode cL_cell 7 = .ok (.iload_n 1, 1) := by decide +kernel
theorem dL_cell_8 : decode cL_cell 8 = .ok (.iaload, 1) := by decide +kernel
theorem dL_cell_9 : decode cL_cell 9 = .ok (.goto 9, 3) := by decide +kernel
theorem dL_cell_12 : decode cL_cell 12 = .ok (.ldc 7, 2) := by decide +kernel
theorem dL_cell_14 : decode cL_cell 14 = .ok (.iload_n 1, 1) := by decide +kernel
theorem dL_cell_15 : decode cL_cell 15 = .ok (.iconst 1, 1) := by decide +kernel
theorem dL_cell_16 : decode cL_cell 16 = .ok (.iadd, 1) := by decide +kernel
theorem dL_cell_17 : decode cL_cell 17 = .ok (.imul, 1) := by decide +kernel
theorem dL_cell_18 : decode cL_cell 18 = .ok (.ireturn, 1) := by decide +kernel
theorem dL_some_0 : decode cL_some 0 = .ok (.iload_n 0, 1) := by decide +kernel
theorem dL_some_1 : decode cL_some 1 = .ok (.ldc 8, 2) := by decide +kernel
theorem dL_some_3 : decode cL_some 3 = .ok (.iand, 1) := by decide +kernel
theorem dL_some_4 : decode cL_some 4 = .ok (.iload_n 1, 1) := by decide +kernel
theorem dL_some_5 : decode cL_some 5 = .ok (.irem, 1) := by decide +kernel
theorem dL_some_6 : decode cL_some 6 = .ok (.ireturn, 1) := by decide +kernel
theorem dL_put_0 : decode cL_put 0 = .ok (.aload_n 1, 1) := by decide +kernel
theorem dL_put_1 : decode cL_put 1 = .ok (.iload_n 2, 1) := by decide +kernel
theorem dL_put_2 : decode cL_put 2 = .ok (.invokestatic 9, 3) := by decide +kernel
theorem dL_put_5 : decode cL_put 5 = .ok (.istore 4, 2) := by decide +kernel
theorem dL_put_7 : decode cL_put 7 = .ok (.aload_n 3, 1) := by decide +kernel
theorem dL_put_8 : decode cL_put 8 = .ok (.iconst 0, 1) := by decide +kernel
theorem dL_put_9 : decode cL_put 9 = .ok (.iconst 2, 1) := by decide +kernel
theorem dL_put_10 : decode cL_put 10 = .ok (.iload 4, 2) := by decide +kernel
theorem dL_put_12 : decode cL_put 12 = .ok (.iconst 4, 1) := by decide +kernel
theorem dL_put_13 : decode cL_put 13 = .ok (.invokestatic 15, 3) := by decide +kernel
theorem dL_put_16 : decode cL_put 16 = .ok (.iadd, 1) := by decide +kernel
theorem dL_put_17 : decode cL_put 17 = .ok (.iastore, 1) := by decide +kernel
theorem dL_put_18 : decode cL_put 18 = .ok (.aload_n 3, 1) := by decide +kernel
theorem dL_put_19 : decode cL_put 19 = .ok (.iconst 1, 1) := by decide +kernel
theorem dL_put_20 : decode cL_put 20 = .ok (.iconst 2, 1) := by decide +kernel
theorem dL_put_21 : decode cL_put 21 = .ok (.iload 4, 2) := by decide +kernel
theorem dL_put_23 : decode cL_put 23 = .ok (.iconst 3, 1) := by decide +kernel
theorem dL_put_24 : decode cL_put 24 = .ok (.ishr, 1) := by decide +kernel
theorem dL_put_25 : decode cL_put 25 = .ok (.iconst 5, 1) := by decide +kernel
theorem dL_put_26 : decode cL_put 26 = .ok (.invokestatic 15, 3) := by decide +kernel
theorem dL_put_29 : decode cL_put 29 = .ok (.iadd, 1) := by decide +kernel
theorem dL_put_30 : decode cL_put 30 = .ok (.iastore, 1) := by decide +kernel
theorem dL_put_31 : decode cL_put 31 = .ok (.aload_n 3, 1) := by decide +kernel
theorem dL_put_32 : decode cL_put 32 = .ok (.iconst 2, 1) := by decide +kernel
theorem dL_put_33 : decode cL_put 33 = .ok (.bipush 10, 2) := by decide +kernel
theorem dL_put_35 : decode cL_put 35 = .ok (.iastore, 1) := by decide +kernel
theorem dL_put_36 : decode cL_put 36 = .ok (.aload_n 3, 1) := by decide +kernel
theorem dL_put_37 : decode cL_put 37 = .ok (.bipush 40, 2) := by decide +kernel
theorem dL_put_39 : decode cL_put 39 = .ok (.iconst 0, 1) := by decide +kernel
theorem dL_put_40 : decode cL_put 40 = .ok (.iastore, 1) := by decide +kernel
theorem dL_put_41 : decode cL_put 41 = .ok (.aload_n 3, 1) := by decide +kernel
theorem dL_put_42 : decode cL_put 42 = .ok (.bipush 41, 2) := by decide +kernel
theorem dL_put_44 : decode cL_put 44 = .ok (.iconst 0, 1) := by decide +kernel
theorem dL_put_45 : decode cL_put 45 = .ok (.iastore, 1) := by decide +kernel
theorem dL_put_46 : decode cL_put 46 = .ok (.aload_n 0, 1) := by decide +kernel
theorem dL_put_47 : decode cL_put 47 = .ok (.iconst 0, 1) := by decide +kernel
theorem dL_put_48 : decode cL_put 48 = .ok (.iconst 0, 1) := by decide +kernel
theorem dL_put_49 : decode cL_put 49 = .ok (.bipush 50, 2) := by decide +kernel
theorem dL_put_51 : decode cL_put 51 = .ok (.invokevirtual 19, 3) := by decide +kernel
theorem dL_put_54 : decode cL_put 54 = .ok (.iconst 1, 1) := by decide +kernel
theorem dL_put_55 : decode cL_put 55 = .ok (.if_icmp .ne 47, 3) := by decide +kernel
theorem dL_put_58 : decode cL_put 58 = .ok (.aload_n 0, 1) := by decide +kernel
theorem dL_put_59 : decode cL_put 59 = .ok (.iconst 0, 1) := by decide +kernel
theorem dL_put_60 : decode cL_put 60 = .ok (.iconst 0, 1) := by decide +kernel
theorem dL_put_61 : decode cL_put 61 = .ok (.bipush 103, 2) := by decide +kernel
theorem dL_put_63 : decode cL_put 63 = .ok (.invokevirtual 25, 3) := by decide +kernel
theorem dL_put_66 : decode cL_put 66 = .ok (.iconst 1, 1) := by decide +kernel
theorem dL_put_67 : decode cL_put 67 = .ok (.if_icmp .ne 35, 3) := by decide +kernel
theorem dL_put_70 : decode cL_put 70 = .ok (.aload_n 0, 1) := by decide +kernel
theorem dL_put_71 : decode cL_put 71 = .ok (.iconst 0, 1) := by decide +kernel
theorem dL_put_72 : decode cL_put 72 = .ok (.iconst 1, 1) := by decide +kernel
theorem dL_put_73 : decode cL_put 73 = .ok (.bipush 48, 2) := by decide +kernel
theorem dL_put_75 : decode cL_put 75 = .ok (.aload_n 3, 1) := by decide +kernel
theorem dL_put_76 : decode cL_put 76 = .ok (.iconst 0, 1) := by decide +kernel
theorem dL_put_77 : decode cL_put 77 = .ok (.iaload, 1) := by decide +kernel
theorem dL_put_78 : decode cL_put 78 = .ok (.iadd, 1) := by decide +kernel
theorem dL_put_79 : decode cL_put 79 = .ok (.invokevirtual 25, 3) := by decide +kernel
theorem dL_put_82 : decode cL_put 82 = .ok (.iconst 1, 1) := by decide +kernel
theorem dL_put_83 : decode cL_put 83 = .ok (.if_icmp .ne 19, 3) := by decide +kernel
theorem dL_put_86 : decode cL_put 86 = .ok (.aload_n 0, 1) := by decide +kernel
theorem dL_put_87 : decode cL_put 87 = .ok (.iconst 0, 1) := by decide +kernel
theorem dL_put_88 : decode cL_put 88 = .ok (.iconst 2, 1) := by decide +kernel
theorem dL_put_89 : decode cL_put 89 = .ok (.bipush 48, 2) := by decide +kernel
theorem dL_put_91 : decode cL_put 91 = .ok (.aload_n 3, 1) := by decide +kernel
theorem dL_put_92 : decode cL_put 92 = .ok (.iconst 1, 1) := by decide +kernel
theorem dL_put_93 : decode cL_put 93 = .ok (.iaload, 1) := by decide +kernel
theorem dL_put_94 : decode cL_put 94 = .ok (.iadd, 1) := by decide +kernel
theorem dL_put_95 : decode cL_put 95 = .ok (.invokevirtual 25, 3) := by decide +kernel
theorem dL_put_98 : decode cL_put 98 = .ok (.iconst 1, 1) := by decide +kernel
theorem dL_put_99 : decode cL_put 99 = .ok (.if_icmp .eq 6, 3) := by decide +kernel
theorem dL_put_102 : decode cL_put 102 = .ok (.bipush (-99), 2) := by decide +kernel
theorem dL_put_104 : decode cL_put 104 = .ok (.ireturn, 1) := by decide +kernel
theorem dL_put_105 : decode cL_put 105 = .ok (.iconst 3, 1) := by decide +kernel
theorem dL_put_106 : decode cL_put 106 = .ok (.istore 5, 2) := by decide +kernel
theorem dL_put_108 : decode cL_put 108 = .ok (.iconst 0, 1) := by decide +kernel
theorem dL_put_109 : decode cL_put 109 = .ok (.istore 6, 2) := by decide +kernel
theorem dL_put_111 : decode cL_put 111 = .ok (.iload 6, 2) := by decide +kernel
theorem dL_put_113 : decode cL_put 113 = .ok (.aload_n 3, 1) := by decide +kernel
theorem dL_put_114 : decode cL_put 114 = .ok (.iconst 0, 1) := by decide +kernel
theorem dL_put_115 : decode cL_put 115 = .ok (.iaload, 1) := by decide +kernel
theorem dL_put_116 : decode cL_put 116 = .ok (.if_icmp .ge 130, 3) := by decide +kernel
theorem dL_put_119 : decode cL_put 119 = .ok (.aload_n 0, 1) := by decide +kernel
theorem dL_put_120 : decode cL_put 120 = .ok (.iconst 0, 1) := by decide +kernel
theorem dL_put_121 : decode cL_put 121 = .ok (.iload 5, 2) := by decide +kernel
theorem dL_put_123 : decode cL_put 123 = .ok (.iinc 5 1, 3) := by decide +kernel
theorem dL_put_126 : decode cL_put 126 = .ok (.bipush 59, 2) := by decide +kernel
theorem dL_put_128 : decode cL_put 128 = .ok (.invokevirtual 25, 3) := by decide +kernel
theorem dL_put_131 : decode cL_put 131 = .ok (.iconst 1, 1) := by decide +kernel
theorem dL_put_132 : decode cL_put 132 = .ok (.if_icmp .eq 6, 3) := by decide +kernel
theorem dL_put_135 : decode cL_put 135 = .ok (.bipush (-99), 2) := by decide +kernel
theorem dL_put_137 : decode cL_put 137 = .ok (.ireturn, 1) := by decide +kernel
theorem dL_put_138 : decode cL_put 138 = .ok (.iconst 0, 1) := by decide +kernel
theorem dL_put_139 : decode cL_put 139 = .ok (.istore 7, 2) := by decide +kernel
theorem dL_put_141 : decode cL_put 141 = .ok (.iload 7, 2) := by decide +kernel
theorem dL_put_143 : decode cL_put 143 = .ok (.aload_n 3, 1) := by decide +kernel
theorem dL_put_144 : decode cL_put 144 = .ok (.iconst 1, 1) := by decide +kernel
theorem dL_put_145 : decode cL_put 145 = .ok (.iaload, 1) := by decide +kernel
theorem dL_put_146 : decode cL_put 146 = .ok (.if_icmp .ge 94, 3) := by decide +kernel
theorem dL_put_149 : decode cL_put 149 = .ok (.aload_n 1, 1) := by decide +kernel
theorem dL_put_150 : decode cL_put 150 = .ok (.iload_n 2, 1) := by decide +kernel
theorem dL_put_151 : decode cL_put 151 = .ok (.iconst 1, 1) := by decide +kernel
theorem dL_put_152 : decode cL_put 152 = .ok (.iadd, 1) := by decide +kernel
theorem dL_put_153 : decode cL_put 153 = .ok (.iload 6, 2) := by decide +kernel
theorem dL_put_155 : decode cL_put 155 = .ok (.iconst 3, 1) := by decide +kernel
theorem dL_put_156 : decode cL_put 156 = .ok (.irem, 1) := by decide +kernel
theorem dL_put_157 : decode cL_put 157 = .ok (.iadd, 1) := by decide +kernel
theorem dL_put_158 : decode cL_put 158 = .ok (.invokestatic 9, 3) := by decide +kernel
end
section
theorem dL_put_161 : decode cL_put 161 = .ok (.iload 6, 2) := by decide +kernel
theorem dL_put_163 : decode cL_put 163 = .ok (.iconst 3, 1) := by decide +kernel
theorem dL_put_164 : decode cL_put 164 = .ok (.idiv, 1) := by decide +kernel
theorem dL_put_165 : decode cL_put 165 = .ok (.bipush 15, 2) := by decide +kernel
theorem dL_put_167 : decode cL_put 167 = .ok (.imul, 1) := by decide +kernel
theorem dL_put_168 : decode cL_put 168 = .ok (.iconst 2, 1) := by decide +kernel
theorem dL_put_169 : decode cL_put 169 = .ok (.iload 7, 2) := by decide +kernel
theorem dL_put_171 : decode cL_put 171 = .ok (.imul, 1) := by decide +kernel
theorem dL_put_172 : decode cL_put 172 = .ok (.iadd, 1) := by decide +kernel
theorem dL_put_173 : decode cL_put 173 = .ok (.ishr, 1) := by decide +kernel
theorem dL_put_174 : decode cL_put 174 = .ok (.iload 4, 2) := by decide +kernel
theorem dL_put_176 : decode cL_put 176 = .ok (.bipush 9, 2) := by decide +kernel
theorem dL_put_178 : decode cL_put 178 = .ok (.ishr, 1) := by decide +kernel
theorem dL_put_179 : decode cL_put 179 = .ok (.iconst 2, 1) := by decide +kernel
theorem dL_put_180 : decode cL_put 180 = .ok (.invokestatic 15, 3) := by decide +kernel
theorem dL_put_183 : decode cL_put 183 = .ok (.ifCond .ne 8, 3) := by decide +kernel
theorem dL_put_186 : decode cL_put 186 = .ok (.bipush 10, 2) := by decide +kernel
theorem dL_put_188 : decode cL_put 188 = .ok (.goto 4, 3) := by decide +kernel
theorem dL_put_191 : decode cL_put 191 = .ok (.iconst 3, 1) := by decide +kernel
theorem dL_put_192 : decode cL_put 192 = .ok (.invokestatic 15, 3) := by decide +kernel
theorem dL_put_195 : decode cL_put 195 = .ok (.istore 8, 2) := by decide +kernel
theorem dL_put_197 : decode cL_put 197 = .ok (.aload_n 3, 1) := by decide +kernel
theorem dL_put_198 : decode cL_put 198 = .ok (.iconst 3, 1) := by decide +kernel
theorem dL_put_199 : decode cL_put 199 = .ok (.aload_n 3, 1) := by decide +kernel
theorem dL_put_200 : decode cL_put 200 = .ok (.iconst 1, 1) := by decide +kernel
theorem dL_put_201 : decode cL_put 201 = .ok (.iaload, 1) := by decide +kernel
theorem dL_put_202 : decode cL_put 202 = .ok (.iload 6, 2) := by decide +kernel
theorem dL_put_204 : decode cL_put 204 = .ok (.imul, 1) := by decide +kernel
theorem dL_put_205 : decode cL_put 205 = .ok (.iadd, 1) := by decide +kernel
theorem dL_put_206 : decode cL_put 206 = .ok (.iload 7, 2) := by decide +kernel
theorem dL_put_208 : decode cL_put 208 = .ok (.iadd, 1) := by decide +kernel
theorem dL_put_209 : decode cL_put 209 = .ok (.iload 8, 2) := by decide +kernel
theorem dL_put_211 : decode cL_put 211 = .ok (.iastore, 1) := by decide +kernel
theorem dL_put_212 : decode cL_put 212 = .ok (.aload_n 0, 1) := by decide +kernel
theorem dL_put_213 : decode cL_put 213 = .ok (.iconst 0, 1) := by decide +kernel
theorem dL_put_214 : decode cL_put 214 = .ok (.iload 5, 2) := by decide +kernel
theorem dL_put_216 : decode cL_put 216 = .ok (.iinc 5 1, 3) := by decide +kernel
theorem dL_put_219 : decode cL_put 219 = .ok (.bipush 48, 2) := by decide +kernel
theorem dL_put_221 : decode cL_put 221 = .ok (.iload 8, 2) := by decide +kernel
theorem dL_put_223 : decode cL_put 223 = .ok (.iadd, 1) := by decide +kernel
theorem dL_put_224 : decode cL_put 224 = .ok (.invokevirtual 25, 3) := by decide +kernel
theorem dL_put_227 : decode cL_put 227 = .ok (.iconst 1, 1) := by decide +kernel
theorem dL_put_228 : decode cL_put 228 = .ok (.if_icmp .eq 6, 3) := by decide +kernel
theorem dL_put_231 : decode cL_put 231 = .ok (.bipush (-99), 2) := by decide +kernel
theorem dL_put_233 : decode cL_put 233 = .ok (.ireturn, 1) := by decide +kernel
theorem dL_put_234 : decode cL_put 234 = .ok (.iinc 7 1, 3) := by decide +kernel
theorem dL_put_237 : decode cL_put 237 = .ok (.goto (-96), 3) := by decide +kernel
theorem dL_put_240 : decode cL_put 240 = .ok (.iinc 6 1, 3) := by decide +kernel
theorem dL_put_243 : decode cL_put 243 = .ok (.goto (-132), 3) := by decide +kernel
theorem dL_put_246 : decode cL_put 246 = .ok (.iload 5, 2) := by decide +kernel
theorem dL_put_248 : decode cL_put 248 = .ok (.ireturn, 1) := by decide +kernel
theorem dL_come_0 : decode cL_come 0 = .ok (.aload 4, 2) := by decide +kernel
theorem dL_come_2 : decode cL_come 2 = .ok (.iconst 0, 1) := by decide +kernel
theorem dL_come_3 : decode cL_come 3 = .ok (.iaload, 1) := by decide +kernel
theorem dL_come_4 : decode cL_come 4 = .ok (.aload 4, 2) := by decide +kernel
theorem dL_come_6 : decode cL_come 6 = .ok (.iconst 1, 1) := by decide +kernel
theorem dL_come_7 : decode cL_come 7 = .ok (.iaload, 1) := by decide +kernel
theorem dL_come_8 : decode cL_come 8 = .ok (.imul, 1) := by decide +kernel
theorem dL_come_9 : decode cL_come 9 = .ok (.istore 5, 2) := by decide +kernel
theorem dL_come_11 : decode cL_come 11 = .ok (.iconst 1, 1) := by decide +kernel
theorem dL_come_12 : decode cL_come 12 = .ok (.aload_n 1, 1) := by decide +kernel
theorem dL_come_13 : decode cL_come 13 = .ok (.iload_n 2, 1) := by decide +kernel
theorem dL_come_14 : decode cL_come 14 = .ok (.invokestatic 9, 3) := by decide +kernel
theorem dL_come_17 : decode cL_come 17 = .ok (.iload_n 3, 1) := by decide +kernel
theorem dL_come_18 : decode cL_come 18 = .ok (.invokestatic 15, 3) := by decide +kernel
theorem dL_come_21 : decode cL_come 21 = .ok (.iadd, 1) := by decide +kernel
theorem dL_come_22 : decode cL_come 22 = .ok (.istore 6, 2) := by decide +kernel
theorem dL_come_24 : decode cL_come 24 = .ok (.iconst 0, 1) := by decide +kernel
theorem dL_come_25 : decode cL_come 25 = .ok (.istore 7, 2) := by decide +kernel
theorem dL_come_27 : decode cL_come 27 = .ok (.iload 7, 2) := by decide +kernel
theorem dL_come_29 : decode cL_come 29 = .ok (.iload 6, 2) := by decide +kernel
theorem dL_come_31 : decode cL_come 31 = .ok (.if_icmp .ge 143, 3) := by decide +kernel
theorem dL_come_34 : decode cL_come 34 = .ok (.aload_n 1, 1) := by decide +kernel
theorem dL_come_35 : decode cL_come 35 = .ok (.iload_n 2, 1) := by decide +kernel
theorem dL_come_36 : decode cL_come 36 = .ok (.iconst 1, 1) := by decide +kernel
theorem dL_come_37 : decode cL_come 37 = .ok (.iadd, 1) := by decide +kernel
theorem dL_come_38 : decode cL_come 38 = .ok (.iload 7, 2) := by decide +kernel
theorem dL_come_40 : decode cL_come 40 = .ok (.iconst 3, 1) := by decide +kernel
theorem dL_come_41 : decode cL_come 41 = .ok (.irem, 1) := by decide +kernel
theorem dL_come_42 : decode cL_come 42 = .ok (.iadd, 1) := by decide +kernel
theorem dL_come_43 : decode cL_come 43 = .ok (.invokestatic 9, 3) := by decide +kernel
theorem dL_come_46 : decode cL_come 46 = .ok (.iload 7, 2) := by decide +kernel
theorem dL_come_48 : decode cL_come 48 = .ok (.iconst 3, 1) := by decide +kernel
theorem dL_come_49 : decode cL_come 49 = .ok (.idiv, 1) := by decide +kernel
theorem dL_come_50 : decode cL_come 50 = .ok (.bipush 15, 2) := by decide +kernel
theorem dL_come_52 : decode cL_come 52 = .ok (.imul, 1) := by decide +kernel
theorem dL_come_53 : decode cL_come 53 = .ok (.ishr, 1) := by decide +kernel
theorem dL_come_54 : decode cL_come 54 = .ok (.istore 8, 2) := by decide +kernel
theorem dL_come_56 : decode cL_come 56 = .ok (.aload 4, 2) := by decide +kernel
theorem dL_come_58 : decode cL_come 58 = .ok (.bipush 42, 2) := by decide +kernel
theorem dL_come_60 : decode cL_come 60 = .ok (.iload 7, 2) := by decide +kernel
theorem dL_come_62 : decode cL_come 62 = .ok (.iadd, 1) := by decide +kernel
theorem dL_come_63 : decode cL_come 63 = .ok (.iload 8, 2) := by decide +kernel
theorem dL_come_65 : decode cL_come 65 = .ok (.iconst 3, 1) := by decide +kernel
theorem dL_come_66 : decode cL_come 66 = .ok (.invokestatic 15, 3) := by decide +kernel
theorem dL_come_69 : decode cL_come 69 = .ok (.iastore, 1) := by decide +kernel
theorem dL_come_70 : decode cL_come 70 = .ok (.aload 4, 2) := by decide +kernel
theorem dL_come_72 : decode cL_come 72 = .ok (.bipush 48, 2) := by decide +kernel
theorem dL_come_74 : decode cL_come 74 = .ok (.iload 7, 2) := by decide +kernel
theorem dL_come_76 : decode cL_come 76 = .ok (.iadd, 1) := by decide +kernel
theorem dL_come_77 : decode cL_come 77 = .ok (.iload 8, 2) := by decide +kernel
theorem dL_come_79 : decode cL_come 79 = .ok (.iconst 2, 1) := by decide +kernel
theorem dL_come_80 : decode cL_come 80 = .ok (.ishr, 1) := by decide +kernel
theorem dL_come_81 : decode cL_come 81 = .ok (.iload 5, 2) := by decide +kernel
theorem dL_come_83 : decode cL_come 83 = .ok (.invokestatic 15, 3) := by decide +kernel
theorem dL_come_86 : decode cL_come 86 = .ok (.iastore, 1) := by decide +kernel
theorem dL_come_87 : decode cL_come 87 = .ok (.aload 4, 2) := by decide +kernel
theorem dL_come_89 : decode cL_come 89 = .ok (.bipush 54, 2) := by decide +kernel
theorem dL_come_91 : decode cL_come 91 = .ok (.iload 7, 2) := by decide +kernel
theorem dL_come_93 : decode cL_come 93 = .ok (.iadd, 1) := by decide +kernel
theorem dL_come_94 : decode cL_come 94 = .ok (.iconst 1, 1) := by decide +kernel
theorem dL_come_95 : decode cL_come 95 = .ok (.iload 8, 2) := by decide +kernel
theorem dL_come_97 : decode cL_come 97 = .ok (.bipush 7, 2) := by decide +kernel
theorem dL_come_99 : decode cL_come 99 = .ok (.ishr, 1) := by decide +kernel
theorem dL_come_100 : decode cL_come 100 = .ok (.iload 8, 2) := by decide +kernel
theorem dL_come_102 : decode cL_come 102 = .ok (.bipush 14, 2) := by decide +kernel
theorem dL_come_104 : decode cL_come 104 = .ok (.ishr, 1) := by decide +kernel
theorem dL_come_105 : decode cL_come 105 = .ok (.iconst 3, 1) := by decide +kernel
theorem dL_come_106 : decode cL_come 106 = .ok (.invokestatic 15, 3) := by decide +kernel
theorem dL_come_109 : decode cL_come 109 = .ok (.ifCond .ne 8, 3) := by decide +kernel
theorem dL_come_112 : decode cL_come 112 = .ok (.bipush 99, 2) := by decide +kernel
theorem dL_come_114 : decode cL_come 114 = .ok (.goto 5, 3) := by decide +kernel
theorem dL_come_117 : decode cL_come 117 = .ok (.bipush 20, 2) := by decide +kernel
theorem dL_come_119 : decode cL_come 119 = .ok (.invokestatic 15, 3) := by decide +kernel
theorem dL_come_122 : decode cL_come 122 = .ok (.iadd, 1) := by decide +kernel
theorem dL_come_123 : decode cL_come 123 = .ok (.iastore, 1) := by decide +kernel
theorem dL_come_124 : decode cL_come 124 = .ok (.aload_n 0, 1) := by decide +kernel
theorem dL_come_125 : decode cL_come 125 = .ok (.aload 4, 2) := by decide +kernel
theorem dL_come_127 : decode cL_come 127 = .ok (.bipush 42, 2) := by decide +kernel
theorem dL_come_129 : decode cL_come 129 = .ok (.iload 7, 2) := by decide +kernel
theorem dL_come_131 : decode cL_come 131 = .ok (.iadd, 1) := by decide +kernel
theorem dL_come_132 : decode cL_come 132 = .ok (.iaload, 1) := by decide +kernel
theorem dL_come_133 : decode cL_come 133 = .ok (.aload 4, 2) := by decide +kernel
theorem dL_come_135 : decode cL_come 135 = .ok (.bipush 48, 2) := by decide +kernel
theorem dL_come_137 : decode cL_come 137 = .ok (.iload 7, 2) := by decide +kernel
theorem dL_come_139 : decode cL_come 139 = .ok (.iadd, 1) := by decide +kernel
theorem dL_come_140 : decode cL_come 140 = .ok (.iaload, 1) := by decide +kernel
theorem dL_come_141 : decode cL_come 141 = .ok (.aload 4, 2) := by decide +kernel
theorem dL_come_143 : decode cL_come 143 = .ok (.bipush 54, 2) := by decide +kernel
theorem dL_come_145 : decode cL_come 145 = .ok (.iload 7, 2) := by decide +kernel
theorem dL_come_147 : decode cL_come 147 = .ok (.iadd, 1) := by decide +kernel
theorem dL_come_148 : decode cL_come 148 = .ok (.iaload, 1) := by decide +kernel
theorem dL_come_149 : decode cL_come 149 = .ok (.invokevirtual 28, 3) := by decide +kernel
theorem dL_come_152 : decode cL_come 152 = .ok (.iload 7, 2) := by decide +kernel
theorem dL_come_154 : decode cL_come 154 = .ok (.if_icmp .eq 5, 3) := by decide +kernel
theorem dL_come_157 : decode cL_come 157 = .ok (.iconst 0, 1) := by decide +kernel
theorem dL_come_158 : decode cL_come 158 = .ok (.ireturn, 1) := by decide +kernel
theorem dL_come_159 : decode cL_come 159 = .ok (.aload 4, 2) := by decide +kernel
theorem dL_come_161 : decode cL_come 161 = .ok (.bipush 41, 2) := by decide +kernel
theorem dL_come_163 : decode cL_come 163 = .ok (.dup2, 1) := by decide +kernel
theorem dL_come_164 : decode cL_come 164 = .ok (.iaload, 1) := by decide +kernel
theorem dL_come_165 : decode cL_come 165 = .ok (.iconst 1, 1) := by decide +kernel
theorem dL_come_166 : decode cL_come 166 = .ok (.iadd, 1) := by decide +kernel
theorem dL_come_167 : decode cL_come 167 = .ok (.iastore, 1) := by decide +kernel
theorem dL_come_168 : decode cL_come 168 = .ok (.iinc 7 1, 3) := by decide +kernel
theorem dL_come_171 : decode cL_come 171 = .ok (.goto (-144), 3) := by decide +kernel
theorem dL_come_174 : decode cL_come 174 = .ok (.iconst 0, 1) := by decide +kernel
theorem dL_come_175 : decode cL_come 175 = .ok (.istore 7, 2) := by decide +kernel
theorem dL_come_177 : decode cL_come 177 = .ok (.iload 7, 2) := by decide +kernel
theorem dL_come_179 : decode cL_come 179 = .ok (.aload_n 1, 1) := by decide +kernel
theorem dL_come_180 : decode cL_come 180 = .ok (.iload_n 2, 1) := by decide +kernel
theorem dL_come_181 : decode cL_come 181 = .ok (.invokestatic 9, 3) := by decide +kernel
theorem dL_come_184 : decode cL_come 184 = .ok (.iconst 3, 1) := by decide +kernel
theorem dL_come_185 : decode cL_come 185 = .ok (.ishr, 1) := by decide +kernel
theorem dL_come_186 : decode cL_come 186 = .ok (.bipush 6, 2) := by decide +kernel
theorem dL_come_188 : decode cL_come 188 = .ok (.invokestatic 15, 3) := by decide +kernel
theorem dL_come_191 : decode cL_come 191 = .ok (.if_icmp .ge 84, 3) := by decide +kernel
theorem dL_come_194 : decode cL_come 194 = .ok (.aload_n 1, 1) := by decide +kernel
theorem dL_come_195 : decode cL_come 195 = .ok (.iload_n 2, 1) := by decide +kernel
theorem dL_come_196 : decode cL_come 196 = .ok (.invokestatic 9, 3) := by decide +kernel
theorem dL_come_199 : decode cL_come 199 = .ok (.bipush 6, 2) := by decide +kernel
theorem dL_come_201 : decode cL_come 201 = .ok (.iconst 4, 1) := by decide +kernel
theorem dL_come_202 : decode cL_come 202 = .ok (.iload 7, 2) := by decide +kernel
theorem dL_come_204 : decode cL_come 204 = .ok (.imul, 1) := by decide +kernel
theorem dL_come_205 : decode cL_come 205 = .ok (.iadd, 1) := by decide +kernel
theorem dL_come_206 : decode cL_come 206 = .ok (.ishr, 1) := by decide +kernel
theorem dL_come_207 : decode cL_come 207 = .ok (.iload 5, 2) := by decide +kernel
theorem dL_come_209 : decode cL_come 209 = .ok (.invokestatic 15, 3) := by decide +kernel
theorem dL_come_212 : decode cL_come 212 = .ok (.istore 8, 2) := by decide +kernel
theorem dL_come_214 : decode cL_come 214 = .ok (.aload 4, 2) := by decide +kernel
theorem dL_come_216 : decode cL_come 216 = .ok (.bipush 40, 2) := by decide +kernel
theorem dL_come_218 : decode cL_come 218 = .ok (.iaload, 1) := by decide +kernel
theorem dL_come_219 : decode cL_come 219 = .ok (.iload 8, 2) := by decide +kernel
theorem dL_come_221 : decode cL_come 221 = .ok (.ishr, 1) := by decide +kernel
theorem dL_come_222 : decode cL_come 222 = .ok (.iconst 1, 1) := by decide +kernel
theorem dL_come_223 : decode cL_come 223 = .ok (.iand, 1) := by decide +kernel
theorem dL_come_224 : decode cL_come 224 = .ok (.iconst 1, 1) := by decide +kernel
theorem dL_come_225 : decode cL_come 225 = .ok (.if_icmp .ne 7, 3) := by decide +kernel
theorem dL_come_228 : decode cL_come 228 = .ok (.iconst 1, 1) := by decide +kernel
theorem dL_come_229 : decode cL_come 229 = .ok (.goto 4, 3) := by decide +kernel
theorem dL_come_232 : decode cL_come 232 = .ok (.iconst 0, 1) := by decide +kernel
theorem dL_come_233 : decode cL_come 233 = .ok (.istore 9, 2) := by decide +kernel
theorem dL_come_235 : decode cL_come 235 = .ok (.aload_n 0, 1) := by decide +kernel
theorem dL_come_236 : decode cL_come 236 = .ok (.iload 8, 2) := by decide +kernel
theorem dL_come_238 : decode cL_come 238 = .ok (.iconst 1, 1) := by decide +kernel
theorem dL_come_239 : decode cL_come 239 = .ok (.invokevirtual 31, 3) := by decide +kernel
theorem dL_come_242 : decode cL_come 242 = .ok (.iload 9, 2) := by decide +kernel
theorem dL_come_244 : decode cL_come 244 = .ok (.ifCond .eq 7, 3) := by decide +kernel
theorem dL_come_247 : decode cL_come 247 = .ok (.iconst 0, 1) := by decide +kernel
theorem dL_come_248 : decode cL_come 248 = .ok (.goto 4, 3) := by decide +kernel
theorem dL_come_251 : decode cL_come 251 = .ok (.iconst 1, 1) := by decide +kernel
theorem dL_come_252 : decode cL_come 252 = .ok (.if_icmp .eq 5, 3) := by decide +kernel
theorem dL_come_255 : decode cL_come 255 = .ok (.iconst 0, 1) := by decide +kernel
theorem dL_come_256 : decode cL_come 256 = .ok (.ireturn, 1) := by decide +kernel
theorem dL_come_257 : decode cL_come 257 = .ok (.aload 4, 2) := by decide +kernel
theorem dL_come_259 : decode cL_come 259 = .ok (.bipush 40, 2) := by decide +kernel
theorem dL_come_261 : decode cL_come 261 = .ok (.dup2, 1) := by decide +kernel
theorem dL_come_262 : decode cL_come 262 = .ok (.iaload, 1) := by decide +kernel
theorem dL_come_263 : decode cL_come 263 = .ok (.iconst 1, 1) := by decide +kernel
theorem dL_come_264 : decode cL_come 264 = .ok (.iload 8, 2) := by decide +kernel
theorem dL_come_266 : decode cL_come 266 = .ok (.ishl, 1) := by decide +kernel
theorem dL_come_267 : decode cL_come 267 = .ok (.ior, 1) := by decide +kernel
theorem dL_come_268 : decode cL_come 268 = .ok (.iastore, 1) := by decide +kernel
theorem dL_come_269 : decode cL_come 269 = .ok (.iinc 7 1, 3) := by decide +kernel
theorem dL_come_272 : decode cL_come 272 = .ok (.goto (-95), 3) := by decide +kernel
theorem dL_come_275 : decode cL_come 275 = .ok (.aload_n 1, 1) := by decide +kernel
theorem dL_come_276 : decode cL_come 276 = .ok (.iload_n 2, 1) := by decide +kernel
theorem dL_come_277 : decode cL_come 277 = .ok (.iconst 4, 1) := by decide +kernel
theorem dL_come_278 : decode cL_come 278 = .ok (.iadd, 1) := by decide +kernel
theorem dL_come_279 : decode cL_come 279 = .ok (.invokestatic 9, 3) := by decide +kernel
theorem dL_come_282 : decode cL_come 282 = .ok (.aload_n 1, 1) := by decide +kernel
theorem dL_come_283 : decode cL_come 283 = .ok (.iload_n 2, 1) := by decide +kernel
theorem dL_come_284 : decode cL_come 284 = .ok (.iconst 4, 1) := by decide +kernel
theorem dL_come_285 : decode cL_come 285 = .ok (.iadd, 1) := by decide +kernel
theorem dL_come_286 : decode cL_come 286 = .ok (.invokestatic 9, 3) := by decide +kernel
theorem dL_come_289 : decode cL_come 289 = .ok (.bipush 8, 2) := by decide +kernel
theorem dL_come_291 : decode cL_come 291 = .ok (.ishr, 1) := by decide +kernel
theorem dL_come_292 : decode cL_come 292 = .ok (.iconst 2, 1) := by decide +kernel
theorem dL_come_293 : decode cL_come 293 = .ok (.invokestatic 15, 3) := by decide +kernel
theorem dL_come_296 : decode cL_come 296 = .ok (.ifCond .ne 8, 3) := by decide +kernel
theorem dL_come_299 : decode cL_come 299 = .ok (.bipush 100, 2) := by decide +kernel
theorem dL_come_301 : decode cL_come 301 = .ok (.goto 5, 3) := by decide +kernel
theorem dL_come_304 : decode cL_come 304 = .ok (.bipush 15, 2) := by decide +kernel
theorem dL_come_306 : decode cL_come 306 = .ok (.invokestatic 15, 3) := by decide +kernel
theorem dL_come_309 : decode cL_come 309 = .ok (.istore 7, 2) := by decide +kernel
theorem dL_come_311 : decode cL_come 311 = .ok (.aload_n 0, 1) := by decide +kernel
theorem dL_come_312 : decode cL_come 312 = .ok (.iload 7, 2) := by decide +kernel
theorem dL_come_314 : decode cL_come 314 = .ok (.invokevirtual 35, 3) := by decide +kernel
theorem dL_come_317 : decode cL_come 317 = .ok (.aload 4, 2) := by decide +kernel
theorem dL_come_319 : decode cL_come 319 = .ok (.iconst 2, 1) := by decide +kernel
theorem dL_come_320 : decode cL_come 320 = .ok (.iaload, 1) := by decide +kernel
theorem dL_come_321 : decode cL_come 321 = .ok (.if_icmp .eq 5, 3) := by decide +kernel
theorem dL_come_324 : decode cL_come 324 = .ok (.iconst 0, 1) := by decide +kernel
theorem dL_come_325 : decode cL_come 325 = .ok (.ireturn, 1) := by decide +kernel
theorem dL_come_326 : decode cL_come 326 = .ok (.aload 4, 2) := by decide +kernel
theorem dL_come_328 : decode cL_come 328 = .ok (.iconst 2, 1) := by decide +kernel
theorem dL_come_329 : decode cL_come 329 = .ok (.iload 7, 2) := by decide +kernel
theorem dL_come_331 : decode cL_come 331 = .ok (.iastore, 1) := by decide +kernel
theorem dL_come_332 : decode cL_come 332 = .ok (.iconst 1, 1) := by decide +kernel
theorem dL_come_333 : decode cL_come 333 = .ok (.ireturn, 1) := by decide +kernel
theorem dL_loud_0 : decode cL_loud 0 = .ok (.iload 4, 2) := by decide +kernel
theorem dL_loud_2 : decode cL_loud 2 = .ok (.aload_n 0, 1) := by decide +kernel
theorem dL_loud_3 : decode cL_loud 3 = .ok (.iconst 1, 1) := by decide +kernel
theorem dL_loud_4 : decode cL_loud 4 = .ok (.iaload, 1) := by decide +kernel
theorem dL_loud_5 : decode cL_loud 5 = .ok (.idiv, 1) := by decide +kernel
theorem dL_loud_6 : decode cL_loud 6 = .ok (.iload_n 2, 1) := by decide +kernel
theorem dL_loud_7 : decode cL_loud 7 = .ok (.aload_n 0, 1) := by decide +kernel
theorem dL_loud_8 : decode cL_loud 8 = .ok (.iconst 1, 1) := by decide +kernel
theorem dL_loud_9 : decode cL_loud 9 = .ok (.iaload, 1) := by decide +kernel
theorem dL_loud_10 : decode cL_loud 10 = .ok (.idiv, 1) := by decide +kernel
theorem dL_loud_11 : decode cL_loud 11 = .ok (.isub, 1) := by decide +kernel
theorem dL_loud_12 : decode cL_loud 12 = .ok (.istore 7, 2) := by decide +kernel
theorem dL_loud_14 : decode cL_loud 14 = .ok (.iload 4, 2) := by decide +kernel
theorem dL_loud_16 : decode cL_loud 16 = .ok (.aload_n 0, 1) := by decide +kernel
theorem dL_loud_17 : decode cL_loud 17 = .ok (.iconst 1, 1) := by decide +kernel
theorem dL_loud_18 : decode cL_loud 18 = .ok (.iaload, 1) := by decide +kernel
theorem dL_loud_19 : decode cL_loud 19 = .ok (.irem, 1) := by decide +kernel
theorem dL_loud_20 : decode cL_loud 20 = .ok (.iload_n 2, 1) := by decide +kernel
theorem dL_loud_21 : decode cL_loud 21 = .ok (.aload_n 0, 1) := by decide +kernel
theorem dL_loud_22 : decode cL_loud 22 = .ok (.iconst 1, 1) := by decide +kernel
theorem dL_loud_23 : decode cL_loud 23 = .ok (.iaload, 1) := by decide +kernel
theorem dL_loud_24 : decode cL_loud 24 = .ok (.irem, 1) := by decide +kernel
theorem dL_loud_25 : decode cL_loud 25 = .ok (.isub, 1) := by decide +kernel
theorem dL_loud_26 : decode cL_loud 26 = .ok (.istore 8, 2) := by decide +kernel
theorem dL_loud_28 : decode cL_loud 28 = .ok (.iload 7, 2) := by decide +kernel
theorem dL_loud_30 : decode cL_loud 30 = .ok (.iload 7, 2) := by decide +kernel
theorem dL_loud_32 : decode cL_loud 32 = .ok (.imul, 1) := by decide +kernel
theorem dL_loud_33 : decode cL_loud 33 = .ok (.iload 8, 2) := by decide +kernel
theorem dL_loud_35 : decode cL_loud 35 = .ok (.iload 8, 2) := by decide +kernel
theorem dL_loud_37 : decode cL_loud 37 = .ok (.imul, 1) := by decide +kernel
theorem dL_loud_38 : decode cL_loud 38 = .ok (.iadd, 1) := by decide +kernel
theorem dL_loud_39 : decode cL_loud 39 = .ok (.istore 9, 2) := by decide +kernel
theorem dL_loud_41 : decode cL_loud 41 = .ok (.aload 6, 2) := by decide +kernel
theorem dL_loud_43 : decode cL_loud 43 = .ok (.iconst 0, 1) := by decide +kernel
theorem dL_loud_44 : decode cL_loud 44 = .ok (.iload_n 1, 1) := by decide +kernel
theorem dL_loud_45 : decode cL_loud 45 = .ok (.ifCond .le 12, 3) := by decide +kernel
theorem dL_loud_48 : decode cL_loud 48 = .ok (.ldc2_w 39, 3) := by decide +kernel
theorem dL_loud_51 : decode cL_loud 51 = .ok (.iload_n 3, 1) := by decide +kernel
theorem dL_loud_52 : decode cL_loud 52 = .ok (.i2l, 1) := by decide +kernel
theorem dL_loud_53 : decode cL_loud 53 = .ok (.lmul, 1) := by decide +kernel
theorem dL_loud_54 : decode cL_loud 54 = .ok (.goto 5, 3) := by decide +kernel
theorem dL_loud_57 : decode cL_loud 57 = .ok (.iload_n 3, 1) := by decide +kernel
theorem dL_loud_58 : decode cL_loud 58 = .ok (.i2l, 1) := by decide +kernel
theorem dL_loud_59 : decode cL_loud 59 = .ok (.lastore, 1) := by decide +kernel
theorem dL_loud_60 : decode cL_loud 60 = .ok (.aload 6, 2) := by decide +kernel
theorem dL_loud_62 : decode cL_loud 62 = .ok (.iconst 1, 1) := by decide +kernel
theorem dL_loud_63 : decode cL_loud 63 = .ok (.iload_n 1, 1) := by decide +kernel
theorem dL_loud_64 : decode cL_loud 64 = .ok (.ifCond .le 11, 3) := by decide +kernel
theorem dL_loud_67 : decode cL_loud 67 = .ok (.iconst 2, 1) := by decide +kernel
theorem dL_loud_68 : decode cL_loud 68 = .ok (.iload 9, 2) := by decide +kernel
theorem dL_loud_70 : decode cL_loud 70 = .ok (.iadd, 1) := by decide +kernel
theorem dL_loud_71 : decode cL_loud 71 = .ok (.i2l, 1) := by decide +kernel
theorem dL_loud_72 : decode cL_loud 72 = .ok (.goto 8, 3) := by decide +kernel
theorem dL_loud_75 : decode cL_loud 75 = .ok (.iconst 1, 1) := by decide +kernel
theorem dL_loud_76 : decode cL_loud 76 = .ok (.iload 9, 2) := by decide +kernel
theorem dL_loud_78 : decode cL_loud 78 = .ok (.iadd, 1) := by decide +kernel
theorem dL_loud_79 : decode cL_loud 79 = .ok (.i2l, 1) := by decide +kernel
theorem dL_loud_80 : decode cL_loud 80 = .ok (.lastore, 1) := by decide +kernel
theorem dL_loud_81 : decode cL_loud 81 = .ok (.iload 7, 2) := by decide +kernel
theorem dL_loud_83 : decode cL_loud 83 = .ok (.ifCond .ge 9, 3) := by decide +kernel
theorem dL_loud_86 : decode cL_loud 86 = .ok (.iload 7, 2) := by decide +kernel
theorem dL_loud_88 : decode cL_loud 88 = .ok (.ineg, 1) := by decide +kernel
theorem dL_loud_89 : decode cL_loud 89 = .ok (.goto 5, 3) := by decide +kernel
theorem dL_loud_92 : decode cL_loud 92 = .ok (.iload 7, 2) := by decide +kernel
theorem dL_loud_94 : decode cL_loud 94 = .ok (.istore 10, 2) := by decide +kernel
theorem dL_loud_96 : decode cL_loud 96 = .ok (.iload 8, 2) := by decide +kernel
theorem dL_loud_98 : decode cL_loud 98 = .ok (.iload 10, 2) := by decide +kernel
theorem dL_loud_100 : decode cL_loud 100 = .ok (.if_icmp .gt 11, 3) := by decide +kernel
theorem dL_loud_103 : decode cL_loud 103 = .ok (.iload 8, 2) := by decide +kernel
theorem dL_loud_105 : decode cL_loud 105 = .ok (.ineg, 1) := by decide +kernel
theorem dL_loud_106 : decode cL_loud 106 = .ok (.iload 10, 2) := by decide +kernel
theorem dL_loud_108 : decode cL_loud 108 = .ok (.if_icmp .le 18, 3) := by decide +kernel
theorem dL_loud_111 : decode cL_loud 111 = .ok (.iload 8, 2) := by decide +kernel
theorem dL_loud_113 : decode cL_loud 113 = .ok (.ifCond .ge 9, 3) := by decide +kernel
theorem dL_loud_116 : decode cL_loud 116 = .ok (.iload 8, 2) := by decide +kernel
theorem dL_loud_118 : decode cL_loud 118 = .ok (.ineg, 1) := by decide +kernel
theorem dL_loud_119 : decode cL_loud 119 = .ok (.goto 5, 3) := by decide +kernel
theorem dL_loud_122 : decode cL_loud 122 = .ok (.iload 8, 2) := by decide +kernel
theorem dL_loud_124 : decode cL_loud 124 = .ok (.istore 10, 2) := by decide +kernel
theorem dL_loud_126 : decode cL_loud 126 = .ok (.iload 10, 2) := by decide +kernel
theorem dL_loud_128 : decode cL_loud 128 = .ok (.iconst 1, 1) := by decide +kernel
theorem dL_loud_129 : decode cL_loud 129 = .ok (.isub, 1) := by decide +kernel
theorem dL_loud_130 : decode cL_loud 130 = .ok (.istore 11, 2) := by decide +kernel
theorem dL_loud_132 : decode cL_loud 132 = .ok (.iload 11, 2) := by decide +kernel
theorem dL_loud_134 : decode cL_loud 134 = .ok (.ifCond .le 173, 3) := by decide +kernel
theorem dL_loud_137 : decode cL_loud 137 = .ok (.iload 7, 2) := by decide +kernel
theorem dL_loud_139 : decode cL_loud 139 = .ok (.ifCond .ge 23, 3) := by decide +kernel
theorem dL_loud_142 : decode cL_loud 142 = .ok (.iconst 2, 1) := by decide +kernel
theorem dL_loud_143 : decode cL_loud 143 = .ok (.iload 11, 2) := by decide +kernel
theorem dL_loud_145 : decode cL_loud 145 = .ok (.imul, 1) := by decide +kernel
theorem dL_loud_146 : decode cL_loud 146 = .ok (.iload 7, 2) := by decide +kernel
theorem dL_loud_148 : decode cL_loud 148 = .ok (.ineg, 1) := by decide +kernel
theorem dL_loud_149 : decode cL_loud 149 = .ok (.imul, 1) := by decide +kernel
theorem dL_loud_150 : decode cL_loud 150 = .ok (.iload 10, 2) := by decide +kernel
theorem dL_loud_152 : decode cL_loud 152 = .ok (.iadd, 1) := by decide +kernel
theorem dL_loud_153 : decode cL_loud 153 = .ok (.iconst 2, 1) := by decide +kernel
theorem dL_loud_154 : decode cL_loud 154 = .ok (.iload 10, 2) := by decide +kernel
theorem dL_loud_156 : decode cL_loud 156 = .ok (.imul, 1) := by decide +kernel
theorem dL_loud_157 : decode cL_loud 157 = .ok (.idiv, 1) := by decide +kernel
theorem dL_loud_158 : decode cL_loud 158 = .ok (.ineg, 1) := by decide +kernel
theorem dL_loud_159 : decode cL_loud 159 = .ok (.goto 18, 3) := by decide +kernel
theorem dL_loud_162 : decode cL_loud 162 = .ok (.iconst 2, 1) := by decide +kernel
theorem dL_loud_163 : decode cL_loud 163 = .ok (.iload 11, 2) := by decide +kernel
theorem dL_loud_165 : decode cL_loud 165 = .ok (.imul, 1) := by decide +kernel
theorem dL_loud_166 : decode cL_loud 166 = .ok (.iload 7, 2) := by decide +kernel
theorem dL_loud_168 : decode cL_loud 168 = .ok (.imul, 1) := by decide +kernel
theorem dL_loud_169 : decode cL_loud 169 = .ok (.iload 10, 2) := by decide +kernel
theorem dL_loud_171 : decode cL_loud 171 = .ok (.iadd, 1) := by decide +kernel
theorem dL_loud_172 : decode cL_loud 172 = .ok (.iconst 2, 1) := by decide +kernel
theorem dL_loud_173 : decode cL_loud 173 = .ok (.iload 10, 2) := by decide +kernel
theorem dL_loud_175 : decode cL_loud 175 = .ok (.imul, 1) := by decide +kernel
theorem dL_loud_176 : decode cL_loud 176 = .ok (.idiv, 1) := by decide +kernel
theorem dL_loud_177 : decode cL_loud 177 = .ok (.istore 12, 2) := by decide +kernel
theorem dL_loud_179 : decode cL_loud 179 = .ok (.iload 8, 2) := by decide +kernel
theorem dL_loud_181 : decode cL_loud 181 = .ok (.ifCond .ge 23, 3) := by decide +kernel
theorem dL_loud_184 : decode cL_loud 184 = .ok (.iconst 2, 1) := by decide +kernel
theorem dL_loud_185 : decode cL_loud 185 = .ok (.iload 11, 2) := by decide +kernel
theorem dL_loud_187 : decode cL_loud 187 = .ok (.imul, 1) := by decide +kernel
theorem dL_loud_188 : decode cL_loud 188 = .ok (.iload 8, 2) := by decide +kernel
theorem dL_loud_190 : decode cL_loud 190 = .ok (.ineg, 1) := by decide +kernel
theorem dL_loud_191 : decode cL_loud 191 = .ok (.imul, 1) := by decide +kernel
theorem dL_loud_192 : decode cL_loud 192 = .ok (.iload 10, 2) := by decide +kernel
theorem dL_loud_194 : decode cL_loud 194 = .ok (.iadd, 1) := by decide +kernel
theorem dL_loud_195 : decode cL_loud 195 = .ok (.iconst 2, 1) := by decide +kernel
theorem dL_loud_196 : decode cL_loud 196 = .ok (.iload 10, 2) := by decide +kernel
theorem dL_loud_198 : decode cL_loud 198 = .ok (.imul, 1) := by decide +kernel
theorem dL_loud_199 : decode cL_loud 199 = .ok (.idiv, 1) := by decide +kernel
theorem dL_loud_200 : decode cL_loud 200 = .ok (.ineg, 1) := by decide +kernel
theorem dL_loud_201 : decode cL_loud 201 = .ok (.goto 18, 3) := by decide +kernel
theorem dL_loud_204 : decode cL_loud 204 = .ok (.iconst 2, 1) := by decide +kernel
theorem dL_loud_205 : decode cL_loud 205 = .ok (.iload 11, 2) := by decide +kernel
theorem dL_loud_207 : decode cL_loud 207 = .ok (.imul, 1) := by decide +kernel
theorem dL_loud_208 : decode cL_loud 208 = .ok (.iload 8, 2) := by decide +kernel
theorem dL_loud_210 : decode cL_loud 210 = .ok (.imul, 1) := by decide +kernel
theorem dL_loud_211 : decode cL_loud 211 = .ok (.iload 10, 2) := by decide +kernel
theorem dL_loud_213 : decode cL_loud 213 = .ok (.iadd, 1) := by decide +kernel
theorem dL_loud_214 : decode cL_loud 214 = .ok (.iconst 2, 1) := by decide +kernel
theorem dL_loud_215 : decode cL_loud 215 = .ok (.iload 10, 2) := by decide +kernel
theorem dL_loud_217 : decode cL_loud 217 = .ok (.imul, 1) := by decide +kernel
theorem dL_loud_218 : decode cL_loud 218 = .ok (.idiv, 1) := by decide +kernel
theorem dL_loud_219 : decode cL_loud 219 = .ok (.istore 13, 2) := by decide +kernel
theorem dL_loud_221 : decode cL_loud 221 = .ok (.iload_n 2, 1) := by decide +kernel
theorem dL_loud_222 : decode cL_loud 222 = .ok (.aload_n 0, 1) := by decide +kernel
theorem dL_loud_223 : decode cL_loud 223 = .ok (.iconst 1, 1) := by decide +kernel
theorem dL_loud_224 : decode cL_loud 224 = .ok (.iaload, 1) := by decide +kernel
theorem dL_loud_225 : decode cL_loud 225 = .ok (.iload 12, 2) := by decide +kernel
theorem dL_loud_227 : decode cL_loud 227 = .ok (.imul, 1) := by decide +kernel
theorem dL_loud_228 : decode cL_loud 228 = .ok (.iadd, 1) := by decide +kernel
theorem dL_loud_229 : decode cL_loud 229 = .ok (.iload 13, 2) := by decide +kernel
theorem dL_loud_231 : decode cL_loud 231 = .ok (.iadd, 1) := by decide +kernel
theorem dL_loud_232 : decode cL_loud 232 = .ok (.istore 14, 2) := by decide +kernel
theorem dL_loud_234 : decode cL_loud 234 = .ok (.iload_n 1, 1) := by decide +kernel
theorem dL_loud_235 : decode cL_loud 235 = .ok (.iconst 2, 1) := by decide +kernel
theorem dL_loud_236 : decode cL_loud 236 = .ok (.if_icmp .ge 42, 3) := by decide +kernel
theorem dL_loud_239 : decode cL_loud 239 = .ok (.aload_n 0, 1) := by decide +kernel
theorem dL_loud_240 : decode cL_loud 240 = .ok (.iconst 3, 1) := by decide +kernel
theorem dL_loud_241 : decode cL_loud 241 = .ok (.iload 14, 2) := by decide +kernel
theorem dL_loud_243 : decode cL_loud 243 = .ok (.iadd, 1) := by decide +kernel
theorem dL_loud_244 : decode cL_loud 244 = .ok (.iaload, 1) := by decide +kernel
theorem dL_loud_245 : decode cL_loud 245 = .ok (.aload_n 0, 1) := by decide +kernel
theorem dL_loud_246 : decode cL_loud 246 = .ok (.iconst 3, 1) := by decide +kernel
theorem dL_loud_247 : decode cL_loud 247 = .ok (.iload_n 2, 1) := by decide +kernel
theorem dL_loud_248 : decode cL_loud 248 = .ok (.iadd, 1) := by decide +kernel
theorem dL_loud_249 : decode cL_loud 249 = .ok (.iaload, 1) := by decide +kernel
theorem dL_loud_250 : decode cL_loud 250 = .ok (.if_icmp .le 28, 3) := by decide +kernel
theorem dL_loud_253 : decode cL_loud 253 = .ok (.aload_n 0, 1) := by decide +kernel
theorem dL_loud_254 : decode cL_loud 254 = .ok (.iconst 3, 1) := by decide +kernel
theorem dL_loud_255 : decode cL_loud 255 = .ok (.iload 14, 2) := by decide +kernel
theorem dL_loud_257 : decode cL_loud 257 = .ok (.iadd, 1) := by decide +kernel
theorem dL_loud_258 : decode cL_loud 258 = .ok (.iaload, 1) := by decide +kernel
theorem dL_loud_259 : decode cL_loud 259 = .ok (.aload_n 0, 1) := by decide +kernel
theorem dL_loud_260 : decode cL_loud 260 = .ok (.iconst 3, 1) := by decide +kernel
theorem dL_loud_261 : decode cL_loud 261 = .ok (.iload 4, 2) := by decide +kernel
theorem dL_loud_263 : decode cL_loud 263 = .ok (.iadd, 1) := by decide +kernel
theorem dL_loud_264 : decode cL_loud 264 = .ok (.iaload, 1) := by decide +kernel
theorem dL_loud_265 : decode cL_loud 265 = .ok (.if_icmp .le 13, 3) := by decide +kernel
theorem dL_loud_268 : decode cL_loud 268 = .ok (.aload 6, 2) := by decide +kernel
theorem dL_loud_270 : decode cL_loud 270 = .ok (.iconst 1, 1) := by decide +kernel
theorem dL_loud_271 : decode cL_loud 271 = .ok (.dup2, 1) := by decide +kernel
theorem dL_loud_272 : decode cL_loud 272 = .ok (.laload, 1) := by decide +kernel
theorem dL_loud_273 : decode cL_loud 273 = .ok (.ldc2_w 39, 3) := by decide +kernel
theorem dL_loud_276 : decode cL_loud 276 = .ok (.lmul, 1) := by decide +kernel
theorem dL_loud_277 : decode cL_loud 277 = .ok (.lastore, 1) := by decide +kernel
theorem dL_loud_278 : decode cL_loud 278 = .ok (.aload_n 0, 1) := by decide +kernel
theorem dL_loud_279 : decode cL_loud 279 = .ok (.bipush 40, 2) := by decide +kernel
theorem dL_loud_281 : decode cL_loud 281 = .ok (.iaload, 1) := by decide +kernel
theorem dL_loud_282 : decode cL_loud 282 = .ok (.iload 14, 2) := by decide +kernel
theorem dL_loud_284 : decode cL_loud 284 = .ok (.ishr, 1) := by decide +kernel
theorem dL_loud_285 : decode cL_loud 285 = .ok (.iconst 1, 1) := by decide +kernel
theorem dL_loud_286 : decode cL_loud 286 = .ok (.iand, 1) := by decide +kernel
theorem dL_loud_287 : decode cL_loud 287 = .ok (.iconst 1, 1) := by decide +kernel
theorem dL_loud_288 : decode cL_loud 288 = .ok (.if_icmp .ne 13, 3) := by decide +kernel
theorem dL_loud_291 : decode cL_loud 291 = .ok (.aload 6, 2) := by decide +kernel
theorem dL_loud_293 : decode cL_loud 293 = .ok (.iconst 1, 1) := by decide +kernel
theorem dL_loud_294 : decode cL_loud 294 = .ok (.dup2, 1) := by decide +kernel
theorem dL_loud_295 : decode cL_loud 295 = .ok (.laload, 1) := by decide +kernel
theorem dL_loud_296 : decode cL_loud 296 = .ok (.ldc2_w 39, 3) := by decide +kernel
theorem dL_loud_299 : decode cL_loud 299 = .ok (.lmul, 1) := by decide +kernel
theorem dL_loud_300 : decode cL_loud 300 = .ok (.lastore, 1) := by decide +kernel
theorem dL_loud_301 : decode cL_loud 301 = .ok (.iinc 11 (-1), 3) := by decide +kernel
theorem dL_loud_304 : decode cL_loud 304 = .ok (.goto (-172), 3) := by decide +kernel
theorem dL_loud_307 : decode cL_loud 307 = .ok (.iload 5, 2) := by decide +kernel
theorem dL_loud_309 : decode cL_loud 309 = .ok (.bipush 10, 2) := by decide +kernel
theorem dL_loud_311 : decode cL_loud 311 = .ok (.idiv, 1) := by decide +kernel
theorem dL_loud_312 : decode cL_loud 312 = .ok (.istore 11, 2) := by decide +kernel
theorem dL_loud_314 : decode cL_loud 314 = .ok (.iload 11, 2) := by decide +kernel
theorem dL_loud_316 : decode cL_loud 316 = .ok (.ifCond .ne 9, 3) := by decide +kernel
theorem dL_loud_319 : decode cL_loud 319 = .ok (.iload 7, 2) := by decide +kernel
theorem dL_loud_321 : decode cL_loud 321 = .ok (.ineg, 1) := by decide +kernel
theorem dL_loud_322 : decode cL_loud 322 = .ok (.goto 28, 3) := by decide +kernel
theorem dL_loud_325 : decode cL_loud 325 = .ok (.iload 11, 2) := by decide +kernel
theorem dL_loud_327 : decode cL_loud 327 = .ok (.iconst 1, 1) := by decide +kernel
theorem dL_loud_328 : decode cL_loud 328 = .ok (.if_icmp .ne 8, 3) := by decide +kernel
theorem dL_loud_331 : decode cL_loud 331 = .ok (.iload 8, 2) := by decide +kernel
theorem dL_loud_333 : decode cL_loud 333 = .ok (.goto 17, 3) := by decide +kernel
theorem dL_loud_336 : decode cL_loud 336 = .ok (.iload 11, 2) := by decide +kernel
theorem dL_loud_338 : decode cL_loud 338 = .ok (.iconst 2, 1) := by decide +kernel
theorem dL_loud_339 : decode cL_loud 339 = .ok (.if_icmp .ne 8, 3) := by decide +kernel
theorem dL_loud_342 : decode cL_loud 342 = .ok (.iload 7, 2) := by decide +kernel
theorem dL_loud_344 : decode cL_loud 344 = .ok (.goto 6, 3) := by decide +kernel
theorem dL_loud_347 : decode cL_loud 347 = .ok (.iload 8, 2) := by decide +kernel
theorem dL_loud_349 : decode cL_loud 349 = .ok (.ineg, 1) := by decide +kernel
theorem dL_loud_350 : decode cL_loud 350 = .ok (.istore 12, 2) := by decide +kernel
theorem dL_loud_352 : decode cL_loud 352 = .ok (.iload 12, 2) := by decide +kernel
theorem dL_loud_354 : decode cL_loud 354 = .ok (.ifCond .ne 4, 3) := by decide +kernel
theorem dL_loud_357 : decode cL_loud 357 = .ok (.return_, 1) := by decide +kernel
theorem dL_loud_358 : decode cL_loud 358 = .ok (.bipush 10, 2) := by decide +kernel
theorem dL_loud_360 : decode cL_loud 360 = .ok (.iload 5, 2) := by decide +kernel
theorem dL_loud_362 : decode cL_loud 362 = .ok (.bipush 10, 2) := by decide +kernel
theorem dL_loud_364 : decode cL_loud 364 = .ok (.irem, 1) := by decide +kernel
theorem dL_loud_365 : decode cL_loud 365 = .ok (.iadd, 1) := by decide +kernel
theorem dL_loud_366 : decode cL_loud 366 = .ok (.istore 13, 2) := by decide +kernel
theorem dL_loud_368 : decode cL_loud 368 = .ok (.aload 6, 2) := by decide +kernel
theorem dL_loud_370 : decode cL_loud 370 = .ok (.iconst 0, 1) := by decide +kernel
theorem dL_loud_371 : decode cL_loud 371 = .ok (.dup2, 1) := by decide +kernel
theorem dL_loud_372 : decode cL_loud 372 = .ok (.laload, 1) := by decide +kernel
theorem dL_loud_373 : decode cL_loud 373 = .ok (.iload 12, 2) := by decide +kernel
theorem dL_loud_375 : decode cL_loud 375 = .ok (.ifCond .le 9, 3) := by decide +kernel
theorem dL_loud_378 : decode cL_loud 378 = .ok (.iload 13, 2) := by decide +kernel
theorem dL_loud_380 : decode cL_loud 380 = .ok (.i2l, 1) := by decide +kernel
theorem dL_loud_381 : decode cL_loud 381 = .ok (.goto 6, 3) := by decide +kernel
theorem dL_loud_384 : decode cL_loud 384 = .ok (.ldc2_w 41, 3) := by decide +kernel
theorem dL_loud_387 : decode cL_loud 387 = .ok (.lmul, 1) := by decide +kernel
theorem dL_loud_388 : decode cL_loud 388 = .ok (.lastore, 1) := by decide +kernel
theorem dL_loud_389 : decode cL_loud 389 = .ok (.aload 6, 2) := by decide +kernel
theorem dL_loud_391 : decode cL_loud 391 = .ok (.iconst 1, 1) := by decide +kernel
theorem dL_loud_392 : decode cL_loud 392 = .ok (.dup2, 1) := by decide +kernel
theorem dL_loud_393 : decode cL_loud 393 = .ok (.laload, 1) := by decide +kernel
theorem dL_loud_394 : decode cL_loud 394 = .ok (.iload 12, 2) := by decide +kernel
theorem dL_loud_396 : decode cL_loud 396 = .ok (.ifCond .le 9, 3) := by decide +kernel
theorem dL_loud_399 : decode cL_loud 399 = .ok (.ldc2_w 41, 3) := by decide +kernel
theorem dL_loud_402 : decode cL_loud 402 = .ok (.goto 6, 3) := by decide +kernel
theorem dL_loud_405 : decode cL_loud 405 = .ok (.iload 13, 2) := by decide +kernel
theorem dL_loud_407 : decode cL_loud 407 = .ok (.i2l, 1) := by decide +kernel
theorem dL_loud_408 : decode cL_loud 408 = .ok (.lmul, 1) := by decide +kernel
theorem dL_loud_409 : decode cL_loud 409 = .ok (.lastore, 1) := by decide +kernel
theorem dL_loud_410 : decode cL_loud 410 = .ok (.return_, 1) := by decide +kernel
theorem dL_hear_0 : decode cL_hear 0 = .ok (.iconst 2, 1) := by decide +kernel
theorem dL_hear_1 : decode cL_hear 1 = .ok (.newarray .long, 2) := by decide +kernel
theorem dL_hear_3 : decode cL_hear 3 = .ok (.astore 4, 2) := by decide +kernel
theorem dL_hear_5 : decode cL_hear 5 = .ok (.iconst 0, 1) := by decide +kernel
theorem dL_hear_6 : decode cL_hear 6 = .ok (.istore 5, 2) := by decide +kernel
theorem dL_hear_8 : decode cL_hear 8 = .ok (.iload 5, 2) := by decide +kernel
theorem dL_hear_10 : decode cL_hear 10 = .ok (.aload_n 0, 1) := by decide +kernel
theorem dL_hear_11 : decode cL_hear 11 = .ok (.bipush 41, 2) := by decide +kernel
theorem dL_hear_13 : decode cL_hear 13 = .ok (.iaload, 1) := by decide +kernel
theorem dL_hear_14 : decode cL_hear 14 = .ok (.if_icmp .ge 57, 3) := by decide +kernel
theorem dL_hear_17 : decode cL_hear 17 = .ok (.aload_n 0, 1) := by decide +kernel
theorem dL_hear_18 : decode cL_hear 18 = .ok (.aload_n 0, 1) := by decide +kernel
theorem dL_hear_19 : decode cL_hear 19 = .ok (.bipush 42, 2) := by decide +kernel
theorem dL_hear_21 : decode cL_hear 21 = .ok (.iload 5, 2) := by decide +kernel
theorem dL_hear_23 : decode cL_hear 23 = .ok (.iadd, 1) := by decide +kernel
theorem dL_hear_24 : decode cL_hear 24 = .ok (.iaload, 1) := by decide +kernel
theorem dL_hear_25 : decode cL_hear 25 = .ok (.aload_n 0, 1) := by decide +kernel
theorem dL_hear_26 : decode cL_hear 26 = .ok (.bipush 48, 2) := by decide +kernel
theorem dL_hear_28 : decode cL_hear 28 = .ok (.iload 5, 2) := by decide +kernel
theorem dL_hear_30 : decode cL_hear 30 = .ok (.iadd, 1) := by decide +kernel
theorem dL_hear_31 : decode cL_hear 31 = .ok (.iaload, 1) := by decide +kernel
theorem dL_hear_32 : decode cL_hear 32 = .ok (.aload_n 0, 1) := by decide +kernel
theorem dL_hear_33 : decode cL_hear 33 = .ok (.bipush 54, 2) := by decide +kernel
theorem dL_hear_35 : decode cL_hear 35 = .ok (.iload 5, 2) := by decide +kernel
theorem dL_hear_37 : decode cL_hear 37 = .ok (.iadd, 1) := by decide +kernel
theorem dL_hear_38 : decode cL_hear 38 = .ok (.iaload, 1) := by decide +kernel
theorem dL_hear_39 : decode cL_hear 39 = .ok (.iload_n 1, 1) := by decide +kernel
theorem dL_hear_40 : decode cL_hear 40 = .ok (.iload_n 2, 1) := by decide +kernel
theorem dL_hear_41 : decode cL_hear 41 = .ok (.aload 4, 2) := by decide +kernel
theorem dL_hear_43 : decode cL_hear 43 = .ok (.invokestatic 43, 3) := by decide +kernel
theorem dL_hear_46 : decode cL_hear 46 = .ok (.aload_n 3, 1) := by decide +kernel
theorem dL_hear_47 : decode cL_hear 47 = .ok (.iload 5, 2) := by decide +kernel
theorem dL_hear_49 : decode cL_hear 49 = .ok (.aload 4, 2) := by decide +kernel
theorem dL_hear_51 : decode cL_hear 51 = .ok (.iconst 0, 1) := by decide +kernel
theorem dL_hear_52 : decode cL_hear 52 = .ok (.laload, 1) := by decide +kernel
theorem dL_hear_53 : decode cL_hear 53 = .ok (.lastore, 1) := by decide +kernel
theorem dL_hear_54 : decode cL_hear 54 = .ok (.aload_n 3, 1) := by decide +kernel
theorem dL_hear_55 : decode cL_hear 55 = .ok (.bipush 8, 2) := by decide +kernel
theorem dL_hear_57 : decode cL_hear 57 = .ok (.iload 5, 2) := by decide +kernel
theorem dL_hear_59 : decode cL_hear 59 = .ok (.iadd, 1) := by decide +kernel
theorem dL_hear_60 : decode cL_hear 60 = .ok (.aload 4, 2) := by decide +kernel
theorem dL_hear_62 : decode cL_hear 62 = .ok (.iconst 1, 1) := by decide +kernel
theorem dL_hear_63 : decode cL_hear 63 = .ok (.laload, 1) := by decide +kernel
theorem dL_hear_64 : decode cL_hear 64 = .ok (.lastore, 1) := by decide +kernel
theorem dL_hear_65 : decode cL_hear 65 = .ok (.iinc 5 1, 3) := by decide +kernel
theorem dL_hear_68 : decode cL_hear 68 = .ok (.goto (-60), 3) := by decide +kernel
theorem dL_hear_71 : decode cL_hear 71 = .ok (.return_, 1) := by decide +kernel
theorem dL_best_0 : decode cL_best 0 = .ok (.iconst 0, 1) := by decide +kernel
theorem dL_best_1 : decode cL_best 1 = .ok (.istore_n 2, 1) := by decide +kernel
theorem dL_best_2 : decode cL_best 2 = .ok (.iconst 0, 1) := by decide +kernel
theorem dL_best_3 : decode cL_best 3 = .ok (.istore_n 3, 1) := by decide +kernel
theorem dL_best_4 : decode cL_best 4 = .ok (.iload_n 3, 1) := by decide +kernel
theorem dL_best_5 : decode cL_best 5 = .ok (.aload_n 0, 1) := by decide +kernel
theorem dL_best_6 : decode cL_best 6 = .ok (.bipush 41, 2) := by decide +kernel
theorem dL_best_8 : decode cL_best 8 = .ok (.iaload, 1) := by decide +kernel
theorem dL_best_9 : decode cL_best 9 = .ok (.if_icmp .ge 109, 3) := by decide +kernel
theorem dL_best_12 : decode cL_best 12 = .ok (.ldc2_w 41, 3) := by decide +kernel
theorem dL_best_15 : decode cL_best 15 = .ok (.aload_n 1, 1) := by decide +kernel
theorem dL_best_16 : decode cL_best 16 = .ok (.iload_n 3, 1) := by decide +kernel
theorem dL_best_17 : decode cL_best 17 = .ok (.laload, 1) := by decide +kernel
theorem dL_best_18 : decode cL_best 18 = .ok (.lmul, 1) := by decide +kernel
theorem dL_best_19 : decode cL_best 19 = .ok (.aload_n 0, 1) := by decide +kernel
theorem dL_best_20 : decode cL_best 20 = .ok (.iconst 2, 1) := by decide +kernel
theorem dL_best_21 : decode cL_best 21 = .ok (.iaload, 1) := by decide +kernel
theorem dL_best_22 : decode cL_best 22 = .ok (.i2l, 1) := by decide +kernel
theorem dL_best_23 : decode cL_best 23 = .ok (.aload_n 1, 1) := by decide +kernel
theorem dL_best_24 : decode cL_best 24 = .ok (.bipush 8, 2) := by decide +kernel
theorem dL_best_26 : decode cL_best 26 = .ok (.iload_n 3, 1) := by decide +kernel
theorem dL_best_27 : decode cL_best 27 = .ok (.iadd, 1) := by decide +kernel
theorem dL_best_28 : decode cL_best 28 = .ok (.laload, 1) := by decide +kernel
theorem dL_best_29 : decode cL_best 29 = .ok (.lmul, 1) := by decide +kernel
theorem dL_best_30 : decode cL_best 30 = .ok (.lcmp, 1) := by decide +kernel
theorem dL_best_31 : decode cL_best 31 = .ok (.ifCond .lt 7, 3) := by decide +kernel
theorem dL_best_34 : decode cL_best 34 = .ok (.iconst 1, 1) := by decide +kernel
theorem dL_best_35 : decode cL_best 35 = .ok (.goto 4, 3) := by decide +kernel
theorem dL_best_38 : decode cL_best 38 = .ok (.iconst 0, 1) := by decide +kernel
theorem dL_best_39 : decode cL_best 39 = .ok (.istore 4, 2) := by decide +kernel
theorem dL_best_41 : decode cL_best 41 = .ok (.iconst 0, 1) := by decide +kernel
theorem dL_best_42 : decode cL_best 42 = .ok (.istore 5, 2) := by decide +kernel
theorem dL_best_44 : decode cL_best 44 = .ok (.iload 5, 2) := by decide +kernel
theorem dL_best_46 : decode cL_best 46 = .ok (.aload_n 0, 1) := by decide +kernel
theorem dL_best_47 : decode cL_best 47 = .ok (.bipush 41, 2) := by decide +kernel
theorem dL_best_49 : decode cL_best 49 = .ok (.iaload, 1) := by decide +kernel
theorem dL_best_50 : decode cL_best 50 = .ok (.if_icmp .ge 47, 3) := by decide +kernel
theorem dL_best_53 : decode cL_best 53 = .ok (.iload 4, 2) := by decide +kernel
theorem dL_best_55 : decode cL_best 55 = .ok (.ifCond .eq 33, 3) := by decide +kernel
theorem dL_best_58 : decode cL_best 58 = .ok (.aload_n 1, 1) := by decide +kernel
theorem dL_best_59 : decode cL_best 59 = .ok (.iload 5, 2) := by decide +kernel
theorem dL_best_61 : decode cL_best 61 = .ok (.laload, 1) := by decide +kernel
theorem dL_best_62 : decode cL_best 62 = .ok (.aload_n 1, 1) := by decide +kernel
theorem dL_best_63 : decode cL_best 63 = .ok (.bipush 8, 2) := by decide +kernel
theorem dL_best_65 : decode cL_best 65 = .ok (.iload_n 3, 1) := by decide +kernel
theorem dL_best_66 : decode cL_best 66 = .ok (.iadd, 1) := by decide +kernel
theorem dL_best_67 : decode cL_best 67 = .ok (.laload, 1) := by decide +kernel
theorem dL_best_68 : decode cL_best 68 = .ok (.lmul, 1) := by decide +kernel
theorem dL_best_69 : decode cL_best 69 = .ok (.aload_n 1, 1) := by decide +kernel
theorem dL_best_70 : decode cL_best 70 = .ok (.iload_n 3, 1) := by decide +kernel
theorem dL_best_71 : decode cL_best 71 = .ok (.laload, 1) := by decide +kernel
theorem dL_best_72 : decode cL_best 72 = .ok (.aload_n 1, 1) := by decide +kernel
theorem dL_best_73 : decode cL_best 73 = .ok (.bipush 8, 2) := by decide +kernel
theorem dL_best_75 : decode cL_best 75 = .ok (.iload 5, 2) := by decide +kernel
theorem dL_best_77 : decode cL_best 77 = .ok (.iadd, 1) := by decide +kernel
theorem dL_best_78 : decode cL_best 78 = .ok (.laload, 1) := by decide +kernel
theorem dL_best_79 : decode cL_best 79 = .ok (.lmul, 1) := by decide +kernel
theorem dL_best_80 : decode cL_best 80 = .ok (.lcmp, 1) := by decide +kernel
theorem dL_best_81 : decode cL_best 81 = .ok (.ifCond .gt 7, 3) := by decide +kernel
theorem dL_best_84 : decode cL_best 84 = .ok (.iconst 1, 1) := by decide +kernel
theorem dL_best_85 : decode cL_best 85 = .ok (.goto 4, 3) := by decide +kernel
theorem dL_best_88 : decode cL_best 88 = .ok (.iconst 0, 1) := by decide +kernel
theorem dL_best_89 : decode cL_best 89 = .ok (.istore 4, 2) := by decide +kernel
theorem dL_best_91 : decode cL_best 91 = .ok (.iinc 5 1, 3) := by decide +kernel
theorem dL_best_94 : decode cL_best 94 = .ok (.goto (-50), 3) := by decide +kernel
theorem dL_best_97 : decode cL_best 97 = .ok (.iload_n 2, 1) := by decide +kernel
theorem dL_best_98 : decode cL_best 98 = .ok (.iload 4, 2) := by decide +kernel
theorem dL_best_100 : decode cL_best 100 = .ok (.ifCond .eq 9, 3) := by decide +kernel
theorem dL_best_103 : decode cL_best 103 = .ok (.iconst 1, 1) := by decide +kernel
theorem dL_best_104 : decode cL_best 104 = .ok (.iload_n 3, 1) := by decide +kernel
theorem dL_best_105 : decode cL_best 105 = .ok (.ishl, 1) := by decide +kernel
theorem dL_best_106 : decode cL_best 106 = .ok (.goto 4, 3) := by decide +kernel
theorem dL_best_109 : decode cL_best 109 = .ok (.iconst 0, 1) := by decide +kernel
theorem dL_best_110 : decode cL_best 110 = .ok (.ior, 1) := by decide +kernel
theorem dL_best_111 : decode cL_best 111 = .ok (.istore_n 2, 1) := by decide +kernel
theorem dL_best_112 : decode cL_best 112 = .ok (.iinc 3 1, 3) := by decide +kernel
theorem dL_best_115 : decode cL_best 115 = .ok (.goto (-111), 3) := by decide +kernel
theorem dL_best_118 : decode cL_best 118 = .ok (.iload_n 2, 1) := by decide +kernel
theorem dL_best_119 : decode cL_best 119 = .ok (.ireturn, 1) := by decide +kernel
theorem dL_whose_0 : decode cL_whose 0 = .ok (.bipush 16, 2) := by decide +kernel
theorem dL_whose_2 : decode cL_whose 2 = .ok (.newarray .long, 2) := by decide +kernel
theorem dL_whose_4 : decode cL_whose 4 = .ok (.astore_n 3, 1) := by decide +kernel
theorem dL_whose_5 : decode cL_whose 5 = .ok (.aload_n 0, 1) := by decide +kernel
theorem dL_whose_6 : decode cL_whose 6 = .ok (.iload_n 1, 1) := by decide +kernel
theorem dL_whose_7 : decode cL_whose 7 = .ok (.iload_n 2, 1) := by decide +kernel
theorem dL_whose_8 : decode cL_whose 8 = .ok (.aload_n 3, 1) := by decide +kernel
theorem dL_whose_9 : decode cL_whose 9 = .ok (.invokestatic 47, 3) := by decide +kernel
theorem dL_whose_12 : decode cL_whose 12 = .ok (.aload_n 0, 1) := by decide +kernel
theorem dL_whose_13 : decode cL_whose 13 = .ok (.aload_n 3, 1) := by decide +kernel
theorem dL_whose_14 : decode cL_whose 14 = .ok (.invokestatic 51, 3) := by decide +kernel
theorem dL_whose_17 : decode cL_whose 17 = .ok (.istore 4, 2) := by decide +kernel
theorem dL_whose_19 : decode cL_whose 19 = .ok (.iload 4, 2) := by decide +kernel
theorem dL_whose_21 : decode cL_whose 21 = .ok (.ifCond .ne 6, 3) := by decide +kernel
theorem dL_whose_24 : decode cL_whose 24 = .ok (.bipush (-6), 2) := by decide +kernel
theorem dL_whose_26 : decode cL_whose 26 = .ok (.ireturn, 1) := by decide +kernel
theorem dL_whose_27 : decode cL_whose 27 = .ok (.iconst 0, 1) := by decide +kernel
theorem dL_whose_28 : decode cL_whose 28 = .ok (.istore 5, 2) := by decide +kernel
theorem dL_whose_30 : decode cL_whose 30 = .ok (.iload 5, 2) := by decide +kernel
theorem dL_whose_32 : decode cL_whose 32 = .ok (.aload_n 0, 1) := by decide +kernel
theorem dL_whose_33 : decode cL_whose 33 = .ok (.bipush 41, 2) := by decide +kernel
theorem dL_whose_35 : decode cL_whose 35 = .ok (.iaload, 1) := by decide +kernel
theorem dL_whose_36 : decode cL_whose 36 = .ok (.if_icmp .ge 21, 3) := by decide +kernel
theorem dL_whose_39 : decode cL_whose 39 = .ok (.iload 4, 2) := by decide +kernel
theorem dL_whose_41 : decode cL_whose 41 = .ok (.iconst 1, 1) := by decide +kernel
theorem dL_whose_42 : decode cL_whose 42 = .ok (.iload 5, 2) := by decide +kernel
theorem dL_whose_44 : decode cL_whose 44 = .ok (.ishl, 1) := by decide +kernel
theorem dL_whose_45 : decode cL_whose 45 = .ok (.if_icmp .ne 6, 3) := by decide +kernel
theorem dL_whose_48 : decode cL_whose 48 = .ok (.iload 5, 2) := by decide +kernel
theorem dL_whose_50 : decode cL_whose 50 = .ok (.ireturn, 1) := by decide +kernel
theorem dL_whose_51 : decode cL_whose 51 = .ok (.iinc 5 1, 3) := by decide +kernel
theorem dL_whose_54 : decode cL_whose 54 = .ok (.goto (-24), 3) := by decide +kernel
theorem dL_whose_57 : decode cL_whose 57 = .ok (.bipush (-5), 2) := by decide +kernel
theorem dL_whose_59 : decode cL_whose 59 = .ok (.ireturn, 1) := by decide +kernel
theorem dL_isAlike_0 : decode cL_isAlike 0 = .ok (.lload_n 0, 1) := by decide +kernel
theorem dL_isAlike_1 : decode cL_isAlike 1 = .ok (.lstore 8, 2) := by decide +kernel
theorem dL_isAlike_3 : decode cL_isAlike 3 = .ok (.lload_n 2, 1) := by decide +kernel
theorem dL_isAlike_4 : decode cL_isAlike 4 = .ok (.lstore 10, 2) := by decide +kernel
theorem dL_isAlike_6 : decode cL_isAlike 6 = .ok (.lload 10, 2) := by decide +kernel
theorem dL_isAlike_8 : decode cL_isAlike 8 = .ok (.lconst 0, 1) := by decide +kernel
theorem dL_isAlike_9 : decode cL_isAlike 9 = .ok (.lcmp, 1) := by decide +kernel
theorem dL_isAlike_10 : decode cL_isAlike 10 = .ok (.ifCond .eq 21, 3) := by decide +kernel
theorem dL_isAlike_13 : decode cL_isAlike 13 = .ok (.lload 8, 2) := by decide +kernel
theorem dL_isAlike_15 : decode cL_isAlike 15 = .ok (.lload 10, 2) := by decide +kernel
theorem dL_isAlike_17 : decode cL_isAlike 17 = .ok (.lrem, 1) := by decide +kernel
theorem dL_isAlike_18 : decode cL_isAlike 18 = .ok (.lstore 12, 2) := by decide +kernel
theorem dL_isAlike_20 : decode cL_isAlike 20 = .ok (.lload 10, 2) := by decide +kernel
theorem dL_isAlike_22 : decode cL_isAlike 22 = .ok (.lstore 8, 2) := by decide +kernel
theorem dL_isAlike_24 : decode cL_isAlike 24 = .ok (.lload 12, 2) := by decide +kernel
theorem dL_isAlike_26 : decode cL_isAlike 26 = .ok (.lstore 10, 2) := by decide +kernel
theorem dL_isAlike_28 : decode cL_isAlike 28 = .ok (.goto (-22), 3) := by decide +kernel
theorem dL_isAlike_31 : decode cL_isAlike 31 = .ok (.lload 8, 2) := by decide +kernel
theorem dL_isAlike_33 : decode cL_isAlike 33 = .ok (.lconst 0, 1) := by decide +kernel
theorem dL_isAlike_34 : decode cL_isAlike 34 = .ok (.lcmp, 1) := by decide +kernel
theorem dL_isAlike_35 : decode cL_isAlike 35 = .ok (.ifCond .le 27, 3) := by decide +kernel
theorem dL_isAlike_38 : decode cL_isAlike 38 = .ok (.lload 4, 2) := by decide +kernel
theorem dL_isAlike_40 : decode cL_isAlike 40 = .ok (.lload_n 0, 1) := by decide +kernel
theorem dL_isAlike_41 : decode cL_isAlike 41 = .ok (.lload 8, 2) := by decide +kernel
theorem dL_isAlike_43 : decode cL_isAlike 43 = .ok (.ldiv, 1) := by decide +kernel
theorem dL_isAlike_44 : decode cL_isAlike 44 = .ok (.lcmp, 1) := by decide +kernel
theorem dL_isAlike_45 : decode cL_isAlike 45 = .ok (.ifCond .ne 17, 3) := by decide +kernel
theorem dL_isAlike_48 : decode cL_isAlike 48 = .ok (.lload 6, 2) := by decide +kernel
theorem dL_isAlike_50 : decode cL_isAlike 50 = .ok (.lload_n 2, 1) := by decide +kernel
theorem dL_isAlike_51 : decode cL_isAlike 51 = .ok (.lload 8, 2) := by decide +kernel
theorem dL_isAlike_53 : decode cL_isAlike 53 = .ok (.ldiv, 1) := by decide +kernel
theorem dL_isAlike_54 : decode cL_isAlike 54 = .ok (.lcmp, 1) := by decide +kernel
theorem dL_isAlike_55 : decode cL_isAlike 55 = .ok (.ifCond .ne 7, 3) := by decide +kernel
theorem dL_isAlike_58 : decode cL_isAlike 58 = .ok (.iconst 1, 1) := by decide +kernel
theorem dL_isAlike_59 : decode cL_isAlike 59 = .ok (.goto 4, 3) := by decide +kernel
theorem dL_isAlike_62 : decode cL_isAlike 62 = .ok (.iconst 0, 1) := by decide +kernel
theorem dL_isAlike_63 : decode cL_isAlike 63 = .ok (.ireturn, 1) := by decide +kernel
theorem dL_law_0 : decode cL_law 0 = .ok (.new 20, 3) := by decide +kernel
theorem dL_law_3 : decode cL_law 3 = .ok (.dup, 1) := by decide +kernel
theorem dL_law_4 : decode cL_law 4 = .ok (.invokespecial 59, 3) := by decide +kernel
theorem dL_law_7 : decode cL_law 7 = .ok (.astore_n 1, 1) := by decide +kernel
theorem dL_law_8 : decode cL_law 8 = .ok (.bipush 60, 2) := by decide +kernel
theorem dL_law_10 : decode cL_law 10 = .ok (.newarray .int, 2) := by decide +kernel
theorem dL_law_12 : decode cL_law 12 = .ok (.astore_n 2, 1) := by decide +kernel
theorem dL_law_13 : decode cL_law 13 = .ok (.aload_n 1, 1) := by decide +kernel
theorem dL_law_14 : decode cL_law 14 = .ok (.aload_n 0, 1) := by decide +kernel
theorem dL_law_15 : decode cL_law 15 = .ok (.iconst 0, 1) := by decide +kernel
theorem dL_law_16 : decode cL_law 16 = .ok (.aload_n 2, 1) := by decide +kernel
theorem dL_law_17 : decode cL_law 17 = .ok (.invokestatic 60, 3) := by decide +kernel
theorem dL_law_20 : decode cL_law 20 = .ok (.istore_n 3, 1) := by decide +kernel
theorem dL_law_21 : decode cL_law 21 = .ok (.aload_n 2, 1) := by decide +kernel
theorem dL_law_22 : decode cL_law 22 = .ok (.iconst 0, 1) := by decide +kernel
theorem dL_law_23 : decode cL_law 23 = .ok (.iaload, 1) := by decide +kernel
theorem dL_law_24 : decode cL_law 24 = .ok (.aload_n 2, 1) := by decide +kernel
theorem dL_law_25 : decode cL_law 25 = .ok (.iconst 1, 1) := by decide +kernel
theorem dL_law_26 : decode cL_law 26 = .ok (.iaload, 1) := by decide +kernel
theorem dL_law_27 : decode cL_law 27 = .ok (.imul, 1) := by decide +kernel
theorem dL_law_28 : decode cL_law 28 = .ok (.istore 4, 2) := by decide +kernel
theorem dL_law_30 : decode cL_law 30 = .ok (.iload_n 3, 1) := by decide +kernel
theorem dL_law_31 : decode cL_law 31 = .ok (.bipush 6, 2) := by decide +kernel
theorem dL_law_33 : decode cL_law 33 = .ok (.if_icmp .lt 28, 3) := by decide +kernel
theorem dL_law_36 : decode cL_law 36 = .ok (.aload_n 1, 1) := by decide +kernel
theorem dL_law_37 : decode cL_law 37 = .ok (.iconst 0, 1) := by decide +kernel
theorem dL_law_38 : decode cL_law 38 = .ok (.iconst 0, 1) := by decide +kernel
theorem dL_law_39 : decode cL_law 39 = .ok (.iconst 0, 1) := by decide +kernel
theorem dL_law_40 : decode cL_law 40 = .ok (.iload_n 3, 1) := by decide +kernel
theorem dL_law_41 : decode cL_law 41 = .ok (.invokevirtual 63, 3) := by decide +kernel
theorem dL_law_44 : decode cL_law 44 = .ok (.iload 4, 2) := by decide +kernel
theorem dL_law_46 : decode cL_law 46 = .ok (.if_icmp .ne 15, 3) := by decide +kernel
theorem dL_law_49 : decode cL_law 49 = .ok (.aload_n 1, 1) := by decide +kernel
theorem dL_law_50 : decode cL_law 50 = .ok (.aload_n 0, 1) := by decide +kernel
theorem dL_law_51 : decode cL_law 51 = .ok (.iconst 4, 1) := by decide +kernel
theorem dL_law_52 : decode cL_law 52 = .ok (.bipush 6, 2) := by decide +kernel
theorem dL_law_54 : decode cL_law 54 = .ok (.aload_n 2, 1) := by decide +kernel
theorem dL_law_55 : decode cL_law 55 = .ok (.invokestatic 67, 3) := by decide +kernel
theorem dL_law_58 : decode cL_law 58 = .ok (.ifCond .ne 5, 3) := by decide +kernel
theorem dL_law_61 : decode cL_law 61 = .ok (.iconst 0, 1) := by decide +kernel
theorem dL_law_62 : decode cL_law 62 = .ok (.ireturn, 1) := by decide +kernel
theorem dL_law_63 : decode cL_law 63 = .ok (.aload_n 2, 1) := by decide +kernel
theorem dL_law_64 : decode cL_law 64 = .ok (.bipush 41, 2) := by decide +kernel
theorem dL_law_66 : decode cL_law 66 = .ok (.iaload, 1) := by decide +kernel
theorem dL_law_67 : decode cL_law 67 = .ok (.istore 5, 2) := by decide +kernel
theorem dL_law_69 : decode cL_law 69 = .ok (.bipush 16, 2) := by decide +kernel
theorem dL_law_71 : decode cL_law 71 = .ok (.newarray .long, 2) := by decide +kernel
theorem dL_law_73 : decode cL_law 73 = .ok (.astore 6, 2) := by decide +kernel
theorem dL_law_75 : decode cL_law 75 = .ok (.iconst 0, 1) := by decide +kernel
theorem dL_law_76 : decode cL_law 76 = .ok (.istore 7, 2) := by decide +kernel
theorem dL_law_78 : decode cL_law 78 = .ok (.iload 7, 2) := by decide +kernel
theorem dL_law_80 : decode cL_law 80 = .ok (.iconst 3, 1) := by decide +kernel
theorem dL_law_81 : decode cL_law 81 = .ok (.if_icmp .ge 422, 3) := by decide +kernel
theorem dL_law_84 : decode cL_law 84 = .ok (.aload_n 0, 1) := by decide +kernel
theorem dL_law_85 : decode cL_law 85 = .ok (.bipush 9, 2) := by decide +kernel
theorem dL_law_87 : decode cL_law 87 = .ok (.iload 7, 2) := by decide +kernel
theorem dL_law_89 : decode cL_law 89 = .ok (.iadd, 1) := by decide +kernel
theorem dL_law_90 : decode cL_law 90 = .ok (.invokestatic 9, 3) := by decide +kernel
theorem dL_law_93 : decode cL_law 93 = .ok (.bipush 40, 2) := by decide +kernel
theorem dL_law_95 : decode cL_law 95 = .ok (.invokestatic 15, 3) := by decide +kernel
theorem dL_law_98 : decode cL_law 98 = .ok (.istore 8, 2) := by decide +kernel
theorem dL_law_100 : decode cL_law 100 = .ok (.bipush 6, 2) := by decide +kernel
theorem dL_law_102 : decode cL_law 102 = .ok (.newarray .int, 2) := by decide +kernel
theorem dL_law_104 : decode cL_law 104 = .ok (.astore 9, 2) := by decide +kernel
theorem dL_law_106 : decode cL_law 106 = .ok (.iconst 0, 1) := by decide +kernel
theorem dL_law_107 : decode cL_law 107 = .ok (.istore 10, 2) := by decide +kernel
theorem dL_law_109 : decode cL_law 109 = .ok (.iload 10, 2) := by decide +kernel
theorem dL_law_111 : decode cL_law 111 = .ok (.iload 4, 2) := by decide +kernel
theorem dL_law_113 : decode cL_law 113 = .ok (.if_icmp .ge 134, 3) := by decide +kernel
theorem dL_law_116 : decode cL_law 116 = .ok (.aload_n 2, 1) := by decide +kernel
theorem dL_law_117 : decode cL_law 117 = .ok (.iload 10, 2) := by decide +kernel
theorem dL_law_119 : decode cL_law 119 = .ok (.iload 8, 2) := by decide +kernel
theorem dL_law_121 : decode cL_law 121 = .ok (.aload 6, 2) := by decide +kernel
theorem dL_law_123 : decode cL_law 123 = .ok (.invokestatic 47, 3) := by decide +kernel
theorem dL_law_126 : decode cL_law 126 = .ok (.aload_n 2, 1) := by decide +kernel
theorem dL_law_127 : decode cL_law 127 = .ok (.aload 6, 2) := by decide +kernel
theorem dL_law_129 : decode cL_law 129 = .ok (.invokestatic 51, 3) := by decide +kernel
theorem dL_law_132 : decode cL_law 132 = .ok (.istore 11, 2) := by decide +kernel
theorem dL_law_134 : decode cL_law 134 = .ok (.iconst 0, 1) := by decide +kernel
theorem dL_law_135 : decode cL_law 135 = .ok (.istore 12, 2) := by decide +kernel
theorem dL_law_137 : decode cL_law 137 = .ok (.iload 12, 2) := by decide +kernel
theorem dL_law_139 : decode cL_law 139 = .ok (.iload 5, 2) := by decide +kernel
theorem dL_law_141 : decode cL_law 141 = .ok (.if_icmp .ge 79, 3) := by decide +kernel
theorem dL_law_144 : decode cL_law 144 = .ok (.aload 6, 2) := by decide +kernel
theorem dL_law_146 : decode cL_law 146 = .ok (.iload 12, 2) := by decide +kernel
theorem dL_law_148 : decode cL_law 148 = .ok (.laload, 1) := by decide +kernel
theorem dL_law_149 : decode cL_law 149 = .ok (.aload 6, 2) := by decide +kernel
theorem dL_law_151 : decode cL_law 151 = .ok (.bipush 8, 2) := by decide +kernel
theorem dL_law_153 : decode cL_law 153 = .ok (.iload 12, 2) := by decide +kernel
theorem dL_law_155 : decode cL_law 155 = .ok (.iadd, 1) := by decide +kernel
theorem dL_law_156 : decode cL_law 156 = .ok (.laload, 1) := by decide +kernel
theorem dL_law_157 : decode cL_law 157 = .ok (.aload_n 1, 1) := by decide +kernel
theorem dL_law_158 : decode cL_law 158 = .ok (.iload 12, 2) := by decide +kernel
theorem dL_law_160 : decode cL_law 160 = .ok (.iload 10, 2) := by decide +kernel
theorem dL_law_162 : decode cL_law 162 = .ok (.iload 8, 2) := by decide +kernel
theorem dL_law_164 : decode cL_law 164 = .ok (.iconst 0, 1) := by decide +kernel
theorem dL_law_165 : decode cL_law 165 = .ok (.invokevirtual 71, 3) := by decide +kernel
theorem dL_law_168 : decode cL_law 168 = .ok (.aload_n 1, 1) := by decide +kernel
theorem dL_law_169 : decode cL_law 169 = .ok (.iload 12, 2) := by decide +kernel
theorem dL_law_171 : decode cL_law 171 = .ok (.iload 10, 2) := by decide +kernel
theorem dL_law_173 : decode cL_law 173 = .ok (.iload 8, 2) := by decide +kernel
theorem dL_law_175 : decode cL_law 175 = .ok (.iconst 1, 1) := by decide +kernel
theorem dL_law_176 : decode cL_law 176 = .ok (.invokevirtual 71, 3) := by decide +kernel
theorem dL_law_179 : decode cL_law 179 = .ok (.invokestatic 74, 3) := by decide +kernel
theorem dL_law_182 : decode cL_law 182 = .ok (.ifCond .ne 5, 3) := by decide +kernel
theorem dL_law_185 : decode cL_law 185 = .ok (.iconst 0, 1) := by decide +kernel
theorem dL_law_186 : decode cL_law 186 = .ok (.ireturn, 1) := by decide +kernel
theorem dL_law_187 : decode cL_law 187 = .ok (.aload 9, 2) := by decide +kernel
theorem dL_law_189 : decode cL_law 189 = .ok (.iload 12, 2) := by decide +kernel
theorem dL_law_191 : decode cL_law 191 = .ok (.dup2, 1) := by decide +kernel
theorem dL_law_192 : decode cL_law 192 = .ok (.iaload, 1) := by decide +kernel
theorem dL_law_193 : decode cL_law 193 = .ok (.iload 11, 2) := by decide +kernel
theorem dL_law_195 : decode cL_law 195 = .ok (.iload 12, 2) := by decide +kernel
theorem dL_law_197 : decode cL_law 197 = .ok (.ishr, 1) := by decide +kernel
theorem dL_law_198 : decode cL_law 198 = .ok (.iconst 1, 1) := by decide +kernel
theorem dL_law_199 : decode cL_law 199 = .ok (.iand, 1) := by decide +kernel
theorem dL_law_200 : decode cL_law 200 = .ok (.iconst 1, 1) := by decide +kernel
theorem dL_law_201 : decode cL_law 201 = .ok (.if_icmp .ne 10, 3) := by decide +kernel
theorem dL_law_204 : decode cL_law 204 = .ok (.iconst 1, 1) := by decide +kernel
theorem dL_law_205 : decode cL_law 205 = .ok (.iload 10, 2) := by decide +kernel
theorem dL_law_207 : decode cL_law 207 = .ok (.ishl, 1) := by decide +kernel
theorem dL_law_208 : decode cL_law 208 = .ok (.goto 4, 3) := by decide +kernel
theorem dL_law_211 : decode cL_law 211 = .ok (.iconst 0, 1) := by decide +kernel
theorem dL_law_212 : decode cL_law 212 = .ok (.ior, 1) := by decide +kernel
theorem dL_law_213 : decode cL_law 213 = .ok (.iastore, 1) := by decide +kernel
theorem dL_law_214 : decode cL_law 214 = .ok (.iinc 12 1, 3) := by decide +kernel
theorem dL_law_217 : decode cL_law 217 = .ok (.goto (-80), 3) := by decide +kernel
theorem dL_law_220 : decode cL_law 220 = .ok (.aload_n 1, 1) := by decide +kernel
theorem dL_law_221 : decode cL_law 221 = .ok (.iload 10, 2) := by decide +kernel
theorem dL_law_223 : decode cL_law 223 = .ok (.iload 8, 2) := by decide +kernel
theorem dL_law_225 : decode cL_law 225 = .ok (.invokevirtual 78, 3) := by decide +kernel
theorem dL_law_228 : decode cL_law 228 = .ok (.aload_n 2, 1) := by decide +kernel
theorem dL_law_229 : decode cL_law 229 = .ok (.iload 10, 2) := by decide +kernel
theorem dL_law_231 : decode cL_law 231 = .ok (.iload 8, 2) := by decide +kernel
theorem dL_law_233 : decode cL_law 233 = .ok (.invokestatic 55, 3) := by decide +kernel
theorem dL_law_236 : decode cL_law 236 = .ok (.if_icmp .eq 5, 3) := by decide +kernel
theorem dL_law_239 : decode cL_law 239 = .ok (.iconst 0, 1) := by decide +kernel
theorem dL_law_240 : decode cL_law 240 = .ok (.ireturn, 1) := by decide +kernel
theorem dL_law_241 : decode cL_law 241 = .ok (.iinc 10 1, 3) := by decide +kernel
theorem dL_law_244 : decode cL_law 244 = .ok (.goto (-135), 3) := by decide +kernel
theorem dL_law_247 : decode cL_law 247 = .ok (.iconst 0, 1) := by decide +kernel
theorem dL_law_248 : decode cL_law 248 = .ok (.istore 10, 2) := by decide +kernel
theorem dL_law_250 : decode cL_law 250 = .ok (.iload 10, 2) := by decide +kernel
theorem dL_law_252 : decode cL_law 252 = .ok (.iload 5, 2) := by decide +kernel
theorem dL_law_254 : decode cL_law 254 = .ok (.if_icmp .ge 27, 3) := by decide +kernel
theorem dL_law_257 : decode cL_law 257 = .ok (.aload_n 1, 1) := by decide +kernel
theorem dL_law_258 : decode cL_law 258 = .ok (.iload 10, 2) := by decide +kernel
theorem dL_law_260 : decode cL_law 260 = .ok (.iload 8, 2) := by decide +kernel
theorem dL_law_262 : decode cL_law 262 = .ok (.invokevirtual 80, 3) := by decide +kernel
theorem dL_law_265 : decode cL_law 265 = .ok (.aload 9, 2) := by decide +kernel
theorem dL_law_267 : decode cL_law 267 = .ok (.iload 10, 2) := by decide +kernel
theorem dL_law_269 : decode cL_law 269 = .ok (.iaload, 1) := by decide +kernel
theorem dL_law_270 : decode cL_law 270 = .ok (.if_icmp .eq 5, 3) := by decide +kernel
theorem dL_law_273 : decode cL_law 273 = .ok (.iconst 0, 1) := by decide +kernel
theorem dL_law_274 : decode cL_law 274 = .ok (.ireturn, 1) := by decide +kernel
theorem dL_law_275 : decode cL_law 275 = .ok (.iinc 10 1, 3) := by decide +kernel
theorem dL_law_278 : decode cL_law 278 = .ok (.goto (-28), 3) := by decide +kernel
theorem dL_law_281 : decode cL_law 281 = .ok (.aload_n 0, 1) := by decide +kernel
theorem dL_law_282 : decode cL_law 282 = .ok (.bipush 9, 2) := by decide +kernel
theorem dL_law_284 : decode cL_law 284 = .ok (.iload 7, 2) := by decide +kernel
theorem dL_law_286 : decode cL_law 286 = .ok (.iadd, 1) := by decide +kernel
theorem dL_law_287 : decode cL_law 287 = .ok (.invokestatic 9, 3) := by decide +kernel
theorem dL_law_290 : decode cL_law 290 = .ok (.bipush 6, 2) := by decide +kernel
theorem dL_law_292 : decode cL_law 292 = .ok (.ishr, 1) := by decide +kernel
theorem dL_law_293 : decode cL_law 293 = .ok (.iload 4, 2) := by decide +kernel
theorem dL_law_295 : decode cL_law 295 = .ok (.invokestatic 15, 3) := by decide +kernel
theorem dL_law_298 : decode cL_law 298 = .ok (.istore 10, 2) := by decide +kernel
theorem dL_law_300 : decode cL_law 300 = .ok (.bipush (-9), 2) := by decide +kernel
theorem dL_law_302 : decode cL_law 302 = .ok (.istore 11, 2) := by decide +kernel
theorem dL_law_304 : decode cL_law 304 = .ok (.bipush (-9), 2) := by decide +kernel
theorem dL_law_306 : decode cL_law 306 = .ok (.istore 12, 2) := by decide +kernel
theorem dL_law_308 : decode cL_law 308 = .ok (.iconst 0, 1) := by decide +kernel
theorem dL_law_309 : decode cL_law 309 = .ok (.istore 13, 2) := by decide +kernel
theorem dL_law_311 : decode cL_law 311 = .ok (.iload 13, 2) := by decide +kernel
theorem dL_law_313 : decode cL_law 313 = .ok (.iload 5, 2) := by decide +kernel
theorem dL_law_315 : decode cL_law 315 = .ok (.if_icmp .ge 152, 3) := by decide +kernel
theorem dL_law_318 : decode cL_law 318 = .ok (.aload_n 2, 1) := by decide +kernel
theorem dL_law_319 : decode cL_law 319 = .ok (.bipush 54, 2) := by decide +kernel
theorem dL_law_321 : decode cL_law 321 = .ok (.iload 13, 2) := by decide +kernel
theorem dL_law_323 : decode cL_law 323 = .ok (.iadd, 1) := by decide +kernel
theorem dL_law_324 : decode cL_law 324 = .ok (.iaload, 1) := by decide +kernel
theorem dL_law_325 : decode cL_law 325 = .ok (.istore 14, 2) := by decide +kernel
theorem dL_law_327 : decode cL_law 327 = .ok (.bipush (-9), 2) := by decide +kernel
theorem dL_law_329 : decode cL_law 329 = .ok (.istore 15, 2) := by decide +kernel
theorem dL_law_331 : decode cL_law 331 = .ok (.bipush 99, 2) := by decide +kernel
theorem dL_law_333 : decode cL_law 333 = .ok (.istore 16, 2) := by decide +kernel
theorem dL_law_335 : decode cL_law 335 = .ok (.iload 16, 2) := by decide +kernel
theorem dL_law_337 : decode cL_law 337 = .ok (.ifCond .le 40, 3) := by decide +kernel
theorem dL_law_340 : decode cL_law 340 = .ok (.aload_n 2, 1) := by decide +kernel
theorem dL_law_341 : decode cL_law 341 = .ok (.bipush 54, 2) := by decide +kernel
theorem dL_law_343 : decode cL_law 343 = .ok (.iload 13, 2) := by decide +kernel
theorem dL_law_345 : decode cL_law 345 = .ok (.iadd, 1) := by decide +kernel
theorem dL_law_346 : decode cL_law 346 = .ok (.iload 16, 2) := by decide +kernel
theorem dL_law_348 : decode cL_law 348 = .ok (.iastore, 1) := by decide +kernel
theorem dL_law_349 : decode cL_law 349 = .ok (.aload_n 2, 1) := by decide +kernel
theorem dL_law_350 : decode cL_law 350 = .ok (.iload 10, 2) := by decide +kernel
theorem dL_law_352 : decode cL_law 352 = .ok (.iload 8, 2) := by decide +kernel
theorem dL_law_354 : decode cL_law 354 = .ok (.invokestatic 55, 3) := by decide +kernel
theorem dL_law_357 : decode cL_law 357 = .ok (.iload 13, 2) := by decide +kernel
theorem dL_law_359 : decode cL_law 359 = .ok (.if_icmp .ne 8, 3) := by decide +kernel
theorem dL_law_362 : decode cL_law 362 = .ok (.iload 16, 2) := by decide +kernel
theorem dL_law_364 : decode cL_law 364 = .ok (.goto 5, 3) := by decide +kernel
theorem dL_law_367 : decode cL_law 367 = .ok (.iload 15, 2) := by decide +kernel
theorem dL_law_369 : decode cL_law 369 = .ok (.istore 15, 2) := by decide +kernel
theorem dL_law_371 : decode cL_law 371 = .ok (.iinc 16 (-1), 3) := by decide +kernel
theorem dL_law_374 : decode cL_law 374 = .ok (.goto (-39), 3) := by decide +kernel
theorem dL_law_377 : decode cL_law 377 = .ok (.aload_n 2, 1) := by decide +kernel
theorem dL_law_378 : decode cL_law 378 = .ok (.bipush 54, 2) := by decide +kernel
theorem dL_law_380 : decode cL_law 380 = .ok (.iload 13, 2) := by decide +kernel
theorem dL_law_382 : decode cL_law 382 = .ok (.iadd, 1) := by decide +kernel
theorem dL_law_383 : decode cL_law 383 = .ok (.iload 14, 2) := by decide +kernel
theorem dL_law_385 : decode cL_law 385 = .ok (.iastore, 1) := by decide +kernel
theorem dL_law_386 : decode cL_law 386 = .ok (.aload_n 1, 1) := by decide +kernel
theorem dL_law_387 : decode cL_law 387 = .ok (.iload 13, 2) := by decide +kernel
theorem dL_law_389 : decode cL_law 389 = .ok (.iload 10, 2) := by decide +kernel
theorem dL_law_391 : decode cL_law 391 = .ok (.iload 8, 2) := by decide +kernel
theorem dL_law_393 : decode cL_law 393 = .ok (.invokevirtual 83, 3) := by decide +kernel
theorem dL_law_396 : decode cL_law 396 = .ok (.iload 15, 2) := by decide +kernel
theorem dL_law_398 : decode cL_law 398 = .ok (.if_icmp .ne 15, 3) := by decide +kernel
theorem dL_law_401 : decode cL_law 401 = .ok (.aload_n 1, 1) := by decide +kernel
theorem dL_law_402 : decode cL_law 402 = .ok (.iload 13, 2) := by decide +kernel
theorem dL_law_404 : decode cL_law 404 = .ok (.iconst 2, 1) := by decide +kernel
theorem dL_law_405 : decode cL_law 405 = .ok (.invokevirtual 86, 3) := by decide +kernel
theorem dL_law_408 : decode cL_law 408 = .ok (.iload 14, 2) := by decide +kernel
theorem dL_law_410 : decode cL_law 410 = .ok (.if_icmp .eq 5, 3) := by decide +kernel
theorem dL_law_413 : decode cL_law 413 = .ok (.iconst 0, 1) := by decide +kernel
theorem dL_law_414 : decode cL_law 414 = .ok (.ireturn, 1) := by decide +kernel
theorem dL_law_415 : decode cL_law 415 = .ok (.iload 15, 2) := by decide +kernel
theorem dL_law_417 : decode cL_law 417 = .ok (.iload 14, 2) := by decide +kernel
theorem dL_law_419 : decode cL_law 419 = .ok (.if_icmp .le 11, 3) := by decide +kernel
theorem dL_law_422 : decode cL_law 422 = .ok (.iload 15, 2) := by decide +kernel
theorem dL_law_424 : decode cL_law 424 = .ok (.iload 14, 2) := by decide +kernel
theorem dL_law_426 : decode cL_law 426 = .ok (.isub, 1) := by decide +kernel
theorem dL_law_427 : decode cL_law 427 = .ok (.goto 4, 3) := by decide +kernel
theorem dL_law_430 : decode cL_law 430 = .ok (.iconst 0, 1) := by decide +kernel
theorem dL_law_431 : decode cL_law 431 = .ok (.istore 16, 2) := by decide +kernel
theorem dL_law_433 : decode cL_law 433 = .ok (.iload 15, 2) := by decide +kernel
theorem dL_law_435 : decode cL_law 435 = .ok (.ifCond .lt 26, 3) := by decide +kernel
theorem dL_law_438 : decode cL_law 438 = .ok (.iload 11, 2) := by decide +kernel
theorem dL_law_440 : decode cL_law 440 = .ok (.ifCond .lt 13, 3) := by decide +kernel
theorem dL_law_443 : decode cL_law 443 = .ok (.iload 16, 2) := by decide +kernel
theorem dL_law_445 : decode cL_law 445 = .ok (.iload 12, 2) := by decide +kernel
theorem dL_law_447 : decode cL_law 447 = .ok (.if_icmp .lt 6, 3) := by decide +kernel
theorem dL_law_450 : decode cL_law 450 = .ok (.goto 11, 3) := by decide +kernel
theorem dL_law_453 : decode cL_law 453 = .ok (.iload 13, 2) := by decide +kernel
theorem dL_law_455 : decode cL_law 455 = .ok (.istore 11, 2) := by decide +kernel
theorem dL_law_457 : decode cL_law 457 = .ok (.iload 16, 2) := by decide +kernel
theorem dL_law_459 : decode cL_law 459 = .ok (.istore 12, 2) := by decide +kernel
theorem dL_law_461 : decode cL_law 461 = .ok (.iinc 13 1, 3) := by decide +kernel
theorem dL_law_464 : decode cL_law 464 = .ok (.goto (-153), 3) := by decide +kernel
theorem dL_law_467 : decode cL_law 467 = .ok (.aload_n 1, 1) := by decide +kernel
theorem dL_law_468 : decode cL_law 468 = .ok (.iload 10, 2) := by decide +kernel
theorem dL_law_470 : decode cL_law 470 = .ok (.iload 8, 2) := by decide +kernel
theorem dL_law_472 : decode cL_law 472 = .ok (.iconst 0, 1) := by decide +kernel
theorem dL_law_473 : decode cL_law 473 = .ok (.invokevirtual 89, 3) := by decide +kernel
theorem dL_law_476 : decode cL_law 476 = .ok (.iload 11, 2) := by decide +kernel
theorem dL_law_478 : decode cL_law 478 = .ok (.if_icmp .ne 17, 3) := by decide +kernel
theorem dL_law_481 : decode cL_law 481 = .ok (.aload_n 1, 1) := by decide +kernel
theorem dL_law_482 : decode cL_law 482 = .ok (.iload 10, 2) := by decide +kernel
theorem dL_law_484 : decode cL_law 484 = .ok (.iload 8, 2) := by decide +kernel
theorem dL_law_486 : decode cL_law 486 = .ok (.iconst 1, 1) := by decide +kernel
theorem dL_law_487 : decode cL_law 487 = .ok (.invokevirtual 89, 3) := by decide +kernel
theorem dL_law_490 : decode cL_law 490 = .ok (.iload 12, 2) := by decide +kernel
theorem dL_law_492 : decode cL_law 492 = .ok (.if_icmp .eq 5, 3) := by decide +kernel
theorem dL_law_495 : decode cL_law 495 = .ok (.iconst 0, 1) := by decide +kernel
theorem dL_law_496 : decode cL_law 496 = .ok (.ireturn, 1) := by decide +kernel
theorem dL_law_497 : decode cL_law 497 = .ok (.iinc 7 1, 3) := by decide +kernel
theorem dL_law_500 : decode cL_law 500 = .ok (.goto (-422), 3) := by decide +kernel
theorem dL_law_503 : decode cL_law 503 = .ok (.aload_n 0, 1) := by decide +kernel
theorem dL_law_504 : decode cL_law 504 = .ok (.bipush 12, 2) := by decide +kernel
theorem dL_law_506 : decode cL_law 506 = .ok (.invokestatic 9, 3) := by decide +kernel
theorem dL_law_509 : decode cL_law 509 = .ok (.iconst 5, 1) := by decide +kernel
theorem dL_law_510 : decode cL_law 510 = .ok (.invokestatic 15, 3) := by decide +kernel
theorem dL_law_513 : decode cL_law 513 = .ok (.istore 7, 2) := by decide +kernel
theorem dL_law_515 : decode cL_law 515 = .ok (.aload_n 1, 1) := by decide +kernel
theorem dL_law_516 : decode cL_law 516 = .ok (.iconst 1, 1) := by decide +kernel
theorem dL_law_517 : decode cL_law 517 = .ok (.iconst 1, 1) := by decide +kernel
theorem dL_law_518 : decode cL_law 518 = .ok (.bipush 6, 2) := by decide +kernel
theorem dL_law_520 : decode cL_law 520 = .ok (.invokevirtual 19, 3) := by decide +kernel
theorem dL_law_523 : decode cL_law 523 = .ok (.iconst 1, 1) := by decide +kernel
theorem dL_law_524 : decode cL_law 524 = .ok (.if_icmp .eq 5, 3) := by decide +kernel
theorem dL_law_527 : decode cL_law 527 = .ok (.iconst 0, 1) := by decide +kernel
theorem dL_law_528 : decode cL_law 528 = .ok (.ireturn, 1) := by decide +kernel
theorem dL_law_529 : decode cL_law 529 = .ok (.bipush 6, 2) := by decide +kernel
theorem dL_law_531 : decode cL_law 531 = .ok (.newarray .long, 2) := by decide +kernel
theorem dL_law_533 : decode cL_law 533 = .ok (.astore 8, 2) := by decide +kernel
theorem dL_law_535 : decode cL_law 535 = .ok (.iconst 0, 1) := by decide +kernel
theorem dL_law_536 : decode cL_law 536 = .ok (.istore 9, 2) := by decide +kernel
theorem dL_law_538 : decode cL_law 538 = .ok (.iload 9, 2) := by decide +kernel
theorem dL_law_540 : decode cL_law 540 = .ok (.iload 7, 2) := by decide +kernel
theorem dL_law_542 : decode cL_law 542 = .ok (.if_icmp .ge 165, 3) := by decide +kernel
theorem dL_law_545 : decode cL_law 545 = .ok (.aload_n 0, 1) := by decide +kernel
theorem dL_law_546 : decode cL_law 546 = .ok (.bipush 13, 2) := by decide +kernel
theorem dL_law_548 : decode cL_law 548 = .ok (.invokestatic 9, 3) := by decide +kernel
theorem dL_law_551 : decode cL_law 551 = .ok (.bipush 6, 2) := by decide +kernel
theorem dL_law_553 : decode cL_law 553 = .ok (.iload 9, 2) := by decide +kernel
theorem dL_law_555 : decode cL_law 555 = .ok (.imul, 1) := by decide +kernel
theorem dL_law_556 : decode cL_law 556 = .ok (.ishr, 1) := by decide +kernel
theorem dL_law_557 : decode cL_law 557 = .ok (.bipush 40, 2) := by decide +kernel
theorem dL_law_559 : decode cL_law 559 = .ok (.invokestatic 15, 3) := by decide +kernel
theorem dL_law_562 : decode cL_law 562 = .ok (.istore 10, 2) := by decide +kernel
theorem dL_law_564 : decode cL_law 564 = .ok (.aload_n 1, 1) := by decide +kernel
theorem dL_law_565 : decode cL_law 565 = .ok (.iconst 1, 1) := by decide +kernel
theorem dL_law_566 : decode cL_law 566 = .ok (.iconst 1, 1) := by decide +kernel
theorem dL_law_567 : decode cL_law 567 = .ok (.iload 9, 2) := by decide +kernel
theorem dL_law_569 : decode cL_law 569 = .ok (.iadd, 1) := by decide +kernel
theorem dL_law_570 : decode cL_law 570 = .ok (.iload 10, 2) := by decide +kernel
theorem dL_law_572 : decode cL_law 572 = .ok (.invokevirtual 25, 3) := by decide +kernel
theorem dL_law_575 : decode cL_law 575 = .ok (.iconst 1, 1) := by decide +kernel
theorem dL_law_576 : decode cL_law 576 = .ok (.if_icmp .eq 5, 3) := by decide +kernel
theorem dL_law_579 : decode cL_law 579 = .ok (.iconst 0, 1) := by decide +kernel
theorem dL_law_580 : decode cL_law 580 = .ok (.ireturn, 1) := by decide +kernel
theorem dL_law_581 : decode cL_law 581 = .ok (.iconst 0, 1) := by decide +kernel
theorem dL_law_582 : decode cL_law 582 = .ok (.istore 11, 2) := by decide +kernel
theorem dL_law_584 : decode cL_law 584 = .ok (.iload 11, 2) := by decide +kernel
theorem dL_law_586 : decode cL_law 586 = .ok (.iload 4, 2) := by decide +kernel
theorem dL_law_588 : decode cL_law 588 = .ok (.if_icmp .ge 113, 3) := by decide +kernel
theorem dL_law_591 : decode cL_law 591 = .ok (.aload_n 2, 1) := by decide +kernel
theorem dL_law_592 : decode cL_law 592 = .ok (.iload 11, 2) := by decide +kernel
theorem dL_law_594 : decode cL_law 594 = .ok (.iload 10, 2) := by decide +kernel
theorem dL_law_596 : decode cL_law 596 = .ok (.aload 6, 2) := by decide +kernel
theorem dL_law_598 : decode cL_law 598 = .ok (.invokestatic 47, 3) := by decide +kernel
theorem dL_law_601 : decode cL_law 601 = .ok (.aload_n 2, 1) := by decide +kernel
theorem dL_law_602 : decode cL_law 602 = .ok (.aload 6, 2) := by decide +kernel
theorem dL_law_604 : decode cL_law 604 = .ok (.invokestatic 51, 3) := by decide +kernel
theorem dL_law_607 : decode cL_law 607 = .ok (.istore 12, 2) := by decide +kernel
theorem dL_law_609 : decode cL_law 609 = .ok (.iconst 0, 1) := by decide +kernel
theorem dL_law_610 : decode cL_law 610 = .ok (.istore 13, 2) := by decide +kernel
theorem dL_law_612 : decode cL_law 612 = .ok (.iconst 0, 1) := by decide +kernel
theorem dL_law_613 : decode cL_law 613 = .ok (.istore 14, 2) := by decide +kernel
theorem dL_law_615 : decode cL_law 615 = .ok (.iload 14, 2) := by decide +kernel
theorem dL_law_617 : decode cL_law 617 = .ok (.iload 5, 2) := by decide +kernel
theorem dL_law_619 : decode cL_law 619 = .ok (.if_icmp .ge 21, 3) := by decide +kernel
theorem dL_law_622 : decode cL_law 622 = .ok (.iload 13, 2) := by decide +kernel
theorem dL_law_624 : decode cL_law 624 = .ok (.iload 12, 2) := by decide +kernel
theorem dL_law_626 : decode cL_law 626 = .ok (.iload 14, 2) := by decide +kernel
theorem dL_law_628 : decode cL_law 628 = .ok (.ishr, 1) := by decide +kernel
theorem dL_law_629 : decode cL_law 629 = .ok (.iconst 1, 1) := by decide +kernel
theorem dL_law_630 : decode cL_law 630 = .ok (.iand, 1) := by decide +kernel
theorem dL_law_631 : decode cL_law 631 = .ok (.iadd, 1) := by decide +kernel
theorem dL_law_632 : decode cL_law 632 = .ok (.istore 13, 2) := by decide +kernel
theorem dL_law_634 : decode cL_law 634 = .ok (.iinc 14 1, 3) := by decide +kernel
theorem dL_law_637 : decode cL_law 637 = .ok (.goto (-22), 3) := by decide +kernel
theorem dL_law_640 : decode cL_law 640 = .ok (.iconst 0, 1) := by decide +kernel
theorem dL_law_641 : decode cL_law 641 = .ok (.istore 14, 2) := by decide +kernel
theorem dL_law_643 : decode cL_law 643 = .ok (.iload 14, 2) := by decide +kernel
theorem dL_law_645 : decode cL_law 645 = .ok (.iload 5, 2) := by decide +kernel
theorem dL_law_647 : decode cL_law 647 = .ok (.if_icmp .ge 48, 3) := by decide +kernel
theorem dL_law_650 : decode cL_law 650 = .ok (.aload 8, 2) := by decide +kernel
theorem dL_law_652 : decode cL_law 652 = .ok (.iload 14, 2) := by decide +kernel
theorem dL_law_654 : decode cL_law 654 = .ok (.dup2, 1) := by decide +kernel
theorem dL_law_655 : decode cL_law 655 = .ok (.laload, 1) := by decide +kernel
theorem dL_law_656 : decode cL_law 656 = .ok (.iload 12, 2) := by decide +kernel
theorem dL_law_658 : decode cL_law 658 = .ok (.iload 14, 2) := by decide +kernel
theorem dL_law_660 : decode cL_law 660 = .ok (.ishr, 1) := by decide +kernel
theorem dL_law_661 : decode cL_law 661 = .ok (.iconst 1, 1) := by decide +kernel
theorem dL_law_662 : decode cL_law 662 = .ok (.iand, 1) := by decide +kernel
theorem dL_law_663 : decode cL_law 663 = .ok (.iconst 1, 1) := by decide +kernel
theorem dL_law_664 : decode cL_law 664 = .ok (.if_icmp .ne 22, 3) := by decide +kernel
theorem dL_law_667 : decode cL_law 667 = .ok (.bipush 10, 2) := by decide +kernel
theorem dL_law_669 : decode cL_law 669 = .ok (.aload_n 2, 1) := by decide +kernel
theorem dL_law_670 : decode cL_law 670 = .ok (.iconst 3, 1) := by decide +kernel
theorem dL_law_671 : decode cL_law 671 = .ok (.iload 11, 2) := by decide +kernel
theorem dL_law_673 : decode cL_law 673 = .ok (.iadd, 1) := by decide +kernel
theorem dL_law_674 : decode cL_law 674 = .ok (.iaload, 1) := by decide +kernel
theorem dL_law_675 : decode cL_law 675 = .ok (.isub, 1) := by decide +kernel
theorem dL_law_676 : decode cL_law 676 = .ok (.bipush 60, 2) := by decide +kernel
theorem dL_law_678 : decode cL_law 678 = .ok (.imul, 1) := by decide +kernel
theorem dL_law_679 : decode cL_law 679 = .ok (.iload 13, 2) := by decide +kernel
theorem dL_law_681 : decode cL_law 681 = .ok (.idiv, 1) := by decide +kernel
theorem dL_law_682 : decode cL_law 682 = .ok (.i2l, 1) := by decide +kernel
theorem dL_law_683 : decode cL_law 683 = .ok (.goto 4, 3) := by decide +kernel
theorem dL_law_686 : decode cL_law 686 = .ok (.lconst 0, 1) := by decide +kernel
theorem dL_law_687 : decode cL_law 687 = .ok (.ladd, 1) := by decide +kernel
theorem dL_law_688 : decode cL_law 688 = .ok (.lastore, 1) := by decide +kernel
theorem dL_law_689 : decode cL_law 689 = .ok (.iinc 14 1, 3) := by decide +kernel
theorem dL_law_692 : decode cL_law 692 = .ok (.goto (-49), 3) := by decide +kernel
theorem dL_law_695 : decode cL_law 695 = .ok (.iinc 11 1, 3) := by decide +kernel
theorem dL_law_698 : decode cL_law 698 = .ok (.goto (-114), 3) := by decide +kernel
theorem dL_law_701 : decode cL_law 701 = .ok (.iinc 9 1, 3) := by decide +kernel
theorem dL_law_704 : decode cL_law 704 = .ok (.goto (-166), 3) := by decide +kernel
theorem dL_law_707 : decode cL_law 707 = .ok (.iconst 0, 1) := by decide +kernel
theorem dL_law_708 : decode cL_law 708 = .ok (.istore 9, 2) := by decide +kernel
theorem dL_law_710 : decode cL_law 710 = .ok (.iload 9, 2) := by decide +kernel
theorem dL_law_712 : decode cL_law 712 = .ok (.iload 5, 2) := by decide +kernel
theorem dL_law_714 : decode cL_law 714 = .ok (.if_icmp .ge 49, 3) := by decide +kernel
theorem dL_law_717 : decode cL_law 717 = .ok (.aload 8, 2) := by decide +kernel
theorem dL_law_719 : decode cL_law 719 = .ok (.iload 9, 2) := by decide +kernel
theorem dL_law_721 : decode cL_law 721 = .ok (.laload, 1) := by decide +kernel
theorem dL_law_722 : decode cL_law 722 = .ok (.ldc2_w 92, 3) := by decide +kernel
theorem dL_law_725 : decode cL_law 725 = .ok (.aload_n 1, 1) := by decide +kernel
theorem dL_law_726 : decode cL_law 726 = .ok (.iload 9, 2) := by decide +kernel
theorem dL_law_728 : decode cL_law 728 = .ok (.iconst 1, 1) := by decide +kernel
theorem dL_law_729 : decode cL_law 729 = .ok (.iconst 1, 1) := by decide +kernel
theorem dL_law_730 : decode cL_law 730 = .ok (.iconst 1, 1) := by decide +kernel
theorem dL_law_731 : decode cL_law 731 = .ok (.iload 7, 2) := by decide +kernel
theorem dL_law_733 : decode cL_law 733 = .ok (.iconst 0, 1) := by decide +kernel
theorem dL_law_734 : decode cL_law 734 = .ok (.invokevirtual 94, 3) := by decide +kernel
theorem dL_law_737 : decode cL_law 737 = .ok (.aload_n 1, 1) := by decide +kernel
theorem dL_law_738 : decode cL_law 738 = .ok (.iload 9, 2) := by decide +kernel
theorem dL_law_740 : decode cL_law 740 = .ok (.iconst 1, 1) := by decide +kernel
theorem dL_law_741 : decode cL_law 741 = .ok (.iconst 1, 1) := by decide +kernel
theorem dL_law_742 : decode cL_law 742 = .ok (.iconst 1, 1) := by decide +kernel
theorem dL_law_743 : decode cL_law 743 = .ok (.iload 7, 2) := by decide +kernel
theorem dL_law_745 : decode cL_law 745 = .ok (.iconst 1, 1) := by decide +kernel
theorem dL_law_746 : decode cL_law 746 = .ok (.invokevirtual 94, 3) := by decide +kernel
theorem dL_law_749 : decode cL_law 749 = .ok (.invokestatic 74, 3) := by decide +kernel
theorem dL_law_752 : decode cL_law 752 = .ok (.ifCond .ne 5, 3) := by decide +kernel
theorem dL_law_755 : decode cL_law 755 = .ok (.iconst 0, 1) := by decide +kernel
theorem dL_law_756 : decode cL_law 756 = .ok (.ireturn, 1) := by decide +kernel
theorem dL_law_757 : decode cL_law 757 = .ok (.iinc 9 1, 3) := by decide +kernel
theorem dL_law_760 : decode cL_law 760 = .ok (.goto (-50), 3) := by decide +kernel
theorem dL_law_763 : decode cL_law 763 = .ok (.aload_n 1, 1) := by decide +kernel
theorem dL_law_764 : decode cL_law 764 = .ok (.iload 5, 2) := by decide +kernel
theorem dL_law_766 : decode cL_law 766 = .ok (.iconst 0, 1) := by decide +kernel
theorem dL_law_767 : decode cL_law 767 = .ok (.iconst 0, 1) := by decide +kernel
theorem dL_law_768 : decode cL_law 768 = .ok (.iconst 0, 1) := by decide +kernel
theorem dL_law_769 : decode cL_law 769 = .ok (.invokevirtual 71, 3) := by decide +kernel
theorem dL_law_772 : decode cL_law 772 = .ok (.ldc2_w 98, 3) := by decide +kernel
theorem dL_law_775 : decode cL_law 775 = .ok (.lcmp, 1) := by decide +kernel
theorem dL_law_776 : decode cL_law 776 = .ok (.ifCond .ne 310, 3) := by decide +kernel
theorem dL_law_779 : decode cL_law 779 = .ok (.aload_n 1, 1) := by decide +kernel
theorem dL_law_780 : decode cL_law 780 = .ok (.iconst 0, 1) := by decide +kernel
theorem dL_law_781 : decode cL_law 781 = .ok (.iload 4, 2) := by decide +kernel
theorem dL_law_783 : decode cL_law 783 = .ok (.iconst 0, 1) := by decide +kernel
theorem dL_law_784 : decode cL_law 784 = .ok (.iconst 0, 1) := by decide +kernel
theorem dL_law_785 : decode cL_law 785 = .ok (.invokevirtual 71, 3) := by decide +kernel
theorem dL_law_788 : decode cL_law 788 = .ok (.ldc2_w 98, 3) := by decide +kernel
theorem dL_law_791 : decode cL_law 791 = .ok (.lcmp, 1) := by decide +kernel
theorem dL_law_792 : decode cL_law 792 = .ok (.ifCond .ne 294, 3) := by decide +kernel
theorem dL_law_795 : decode cL_law 795 = .ok (.aload_n 1, 1) := by decide +kernel
theorem dL_law_796 : decode cL_law 796 = .ok (.iconst 0, 1) := by decide +kernel
theorem dL_law_797 : decode cL_law 797 = .ok (.iconst 0, 1) := by decide +kernel
theorem dL_law_798 : decode cL_law 798 = .ok (.bipush 40, 2) := by decide +kernel
theorem dL_law_800 : decode cL_law 800 = .ok (.iconst 0, 1) := by decide +kernel
theorem dL_law_801 : decode cL_law 801 = .ok (.invokevirtual 71, 3) := by decide +kernel
theorem dL_law_804 : decode cL_law 804 = .ok (.ldc2_w 98, 3) := by decide +kernel
theorem dL_law_807 : decode cL_law 807 = .ok (.lcmp, 1) := by decide +kernel
theorem dL_law_808 : decode cL_law 808 = .ok (.ifCond .ne 278, 3) := by decide +kernel
theorem dL_law_811 : decode cL_law 811 = .ok (.aload_n 1, 1) := by decide +kernel
theorem dL_law_812 : decode cL_law 812 = .ok (.iconst 0, 1) := by decide +kernel
theorem dL_law_813 : decode cL_law 813 = .ok (.iconst 0, 1) := by decide +kernel
theorem dL_law_814 : decode cL_law 814 = .ok (.iconst 0, 1) := by decide +kernel
theorem dL_law_815 : decode cL_law 815 = .ok (.iconst 2, 1) := by decide +kernel
theorem dL_law_816 : decode cL_law 816 = .ok (.invokevirtual 71, 3) := by decide +kernel
theorem dL_law_819 : decode cL_law 819 = .ok (.ldc2_w 98, 3) := by decide +kernel
theorem dL_law_822 : decode cL_law 822 = .ok (.lcmp, 1) := by decide +kernel
theorem dL_law_823 : decode cL_law 823 = .ok (.ifCond .ne 263, 3) := by decide +kernel
theorem dL_law_826 : decode cL_law 826 = .ok (.aload_n 1, 1) := by decide +kernel
theorem dL_law_827 : decode cL_law 827 = .ok (.iload 4, 2) := by decide +kernel
theorem dL_law_829 : decode cL_law 829 = .ok (.iconst 0, 1) := by decide +kernel
theorem dL_law_830 : decode cL_law 830 = .ok (.invokevirtual 78, 3) := by decide +kernel
theorem dL_law_833 : decode cL_law 833 = .ok (.iconst (-1), 1) := by decide +kernel
theorem dL_law_834 : decode cL_law 834 = .ok (.if_icmp .ne 252, 3) := by decide +kernel
theorem dL_law_837 : decode cL_law 837 = .ok (.aload_n 1, 1) := by decide +kernel
theorem dL_law_838 : decode cL_law 838 = .ok (.iconst 0, 1) := by decide +kernel
theorem dL_law_839 : decode cL_law 839 = .ok (.bipush 40, 2) := by decide +kernel
theorem dL_law_841 : decode cL_law 841 = .ok (.invokevirtual 78, 3) := by decide +kernel
theorem dL_law_844 : decode cL_law 844 = .ok (.bipush (-2), 2) := by decide +kernel
theorem dL_law_846 : decode cL_law 846 = .ok (.if_icmp .ne 240, 3) := by decide +kernel
theorem dL_law_849 : decode cL_law 849 = .ok (.aload_n 1, 1) := by decide +kernel
theorem dL_law_850 : decode cL_law 850 = .ok (.iload 5, 2) := by decide +kernel
theorem dL_law_852 : decode cL_law 852 = .ok (.iconst 0, 1) := by decide +kernel
theorem dL_law_853 : decode cL_law 853 = .ok (.invokevirtual 80, 3) := by decide +kernel
theorem dL_law_856 : decode cL_law 856 = .ok (.iconst (-1), 1) := by decide +kernel
theorem dL_law_857 : decode cL_law 857 = .ok (.if_icmp .ne 229, 3) := by decide +kernel
theorem dL_law_860 : decode cL_law 860 = .ok (.aload_n 1, 1) := by decide +kernel
theorem dL_law_861 : decode cL_law 861 = .ok (.iconst 0, 1) := by decide +kernel
theorem dL_law_862 : decode cL_law 862 = .ok (.iconst (-1), 1) := by decide +kernel
theorem dL_law_863 : decode cL_law 863 = .ok (.invokevirtual 80, 3) := by decide +kernel
theorem dL_law_866 : decode cL_law 866 = .ok (.bipush (-2), 2) := by decide +kernel
theorem dL_law_868 : decode cL_law 868 = .ok (.if_icmp .ne 218, 3) := by decide +kernel
theorem dL_law_871 : decode cL_law 871 = .ok (.aload_n 1, 1) := by decide +kernel
theorem dL_law_872 : decode cL_law 872 = .ok (.iload 5, 2) := by decide +kernel
theorem dL_law_874 : decode cL_law 874 = .ok (.iconst 0, 1) := by decide +kernel
theorem dL_law_875 : decode cL_law 875 = .ok (.iconst 0, 1) := by decide +kernel
theorem dL_law_876 : decode cL_law 876 = .ok (.invokevirtual 83, 3) := by decide +kernel
theorem dL_law_879 : decode cL_law 879 = .ok (.iconst (-1), 1) := by decide +kernel
theorem dL_law_880 : decode cL_law 880 = .ok (.if_icmp .ne 206, 3) := by decide +kernel
theorem dL_law_883 : decode cL_law 883 = .ok (.aload_n 1, 1) := by decide +kernel
theorem dL_law_884 : decode cL_law 884 = .ok (.iconst 0, 1) := by decide +kernel
theorem dL_law_885 : decode cL_law 885 = .ok (.iload 4, 2) := by decide +kernel
theorem dL_law_887 : decode cL_law 887 = .ok (.iconst 0, 1) := by decide +kernel
theorem dL_law_888 : decode cL_law 888 = .ok (.invokevirtual 83, 3) := by decide +kernel
theorem dL_law_891 : decode cL_law 891 = .ok (.iconst (-1), 1) := by decide +kernel
theorem dL_law_892 : decode cL_law 892 = .ok (.if_icmp .ne 194, 3) := by decide +kernel
theorem dL_law_895 : decode cL_law 895 = .ok (.aload_n 1, 1) := by decide +kernel
theorem dL_law_896 : decode cL_law 896 = .ok (.iconst 0, 1) := by decide +kernel
theorem dL_law_897 : decode cL_law 897 = .ok (.iconst 0, 1) := by decide +kernel
theorem dL_law_898 : decode cL_law 898 = .ok (.bipush 40, 2) := by decide +kernel
theorem dL_law_900 : decode cL_law 900 = .ok (.invokevirtual 83, 3) := by decide +kernel
theorem dL_law_903 : decode cL_law 903 = .ok (.bipush (-2), 2) := by decide +kernel
theorem dL_law_905 : decode cL_law 905 = .ok (.if_icmp .ne 181, 3) := by decide +kernel
theorem dL_law_908 : decode cL_law 908 = .ok (.aload_n 1, 1) := by decide +kernel
theorem dL_law_909 : decode cL_law 909 = .ok (.iload 4, 2) := by decide +kernel
theorem dL_law_911 : decode cL_law 911 = .ok (.iconst 0, 1) := by decide +kernel
theorem dL_law_912 : decode cL_law 912 = .ok (.iconst 0, 1) := by decide +kernel
theorem dL_law_913 : decode cL_law 913 = .ok (.invokevirtual 89, 3) := by decide +kernel
theorem dL_law_916 : decode cL_law 916 = .ok (.iconst (-1), 1) := by decide +kernel
theorem dL_law_917 : decode cL_law 917 = .ok (.if_icmp .ne 169, 3) := by decide +kernel
theorem dL_law_920 : decode cL_law 920 = .ok (.aload_n 1, 1) := by decide +kernel
theorem dL_law_921 : decode cL_law 921 = .ok (.iconst 0, 1) := by decide +kernel
theorem dL_law_922 : decode cL_law 922 = .ok (.bipush 40, 2) := by decide +kernel
theorem dL_law_924 : decode cL_law 924 = .ok (.iconst 0, 1) := by decide +kernel
theorem dL_law_925 : decode cL_law 925 = .ok (.invokevirtual 89, 3) := by decide +kernel
theorem dL_law_928 : decode cL_law 928 = .ok (.bipush (-2), 2) := by decide +kernel
theorem dL_law_930 : decode cL_law 930 = .ok (.if_icmp .ne 156, 3) := by decide +kernel
theorem dL_law_933 : decode cL_law 933 = .ok (.aload_n 1, 1) := by decide +kernel
theorem dL_law_934 : decode cL_law 934 = .ok (.iconst 0, 1) := by decide +kernel
theorem dL_law_935 : decode cL_law 935 = .ok (.iconst 0, 1) := by decide +kernel
theorem dL_law_936 : decode cL_law 936 = .ok (.iconst 2, 1) := by decide +kernel
theorem dL_law_937 : decode cL_law 937 = .ok (.invokevirtual 89, 3) := by decide +kernel
theorem dL_law_940 : decode cL_law 940 = .ok (.bipush (-2), 2) := by decide +kernel
theorem dL_law_942 : decode cL_law 942 = .ok (.if_icmp .ne 144, 3) := by decide +kernel
theorem dL_law_945 : decode cL_law 945 = .ok (.aload_n 1, 1) := by decide +kernel
theorem dL_law_946 : decode cL_law 946 = .ok (.iconst 1, 1) := by decide +kernel
theorem dL_law_947 : decode cL_law 947 = .ok (.iconst 0, 1) := by decide +kernel
theorem dL_law_948 : decode cL_law 948 = .ok (.bipush 40, 2) := by decide +kernel
theorem dL_law_950 : decode cL_law 950 = .ok (.invokevirtual 25, 3) := by decide +kernel
theorem dL_law_953 : decode cL_law 953 = .ok (.iconst 1, 1) := by decide +kernel
theorem dL_law_954 : decode cL_law 954 = .ok (.if_icmp .ne 132, 3) := by decide +kernel
theorem dL_law_957 : decode cL_law 957 = .ok (.aload_n 1, 1) := by decide +kernel
theorem dL_law_958 : decode cL_law 958 = .ok (.iconst 0, 1) := by decide +kernel
theorem dL_law_959 : decode cL_law 959 = .ok (.iconst 1, 1) := by decide +kernel
theorem dL_law_960 : decode cL_law 960 = .ok (.iconst 1, 1) := by decide +kernel
theorem dL_law_961 : decode cL_law 961 = .ok (.iconst 0, 1) := by decide +kernel
theorem dL_law_962 : decode cL_law 962 = .ok (.iconst 1, 1) := by decide +kernel
theorem dL_law_963 : decode cL_law 963 = .ok (.iconst 0, 1) := by decide +kernel
theorem dL_law_964 : decode cL_law 964 = .ok (.invokevirtual 94, 3) := by decide +kernel
theorem dL_law_967 : decode cL_law 967 = .ok (.ldc2_w 98, 3) := by decide +kernel
theorem dL_law_970 : decode cL_law 970 = .ok (.lcmp, 1) := by decide +kernel
theorem dL_law_971 : decode cL_law 971 = .ok (.ifCond .ne 115, 3) := by decide +kernel
theorem dL_law_974 : decode cL_law 974 = .ok (.aload_n 1, 1) := by decide +kernel
theorem dL_law_975 : decode cL_law 975 = .ok (.invokevirtual 100, 3) := by decide +kernel
theorem dL_law_978 : decode cL_law 978 = .ok (.ifCond .ne 108, 3) := by decide +kernel
theorem dL_law_981 : decode cL_law 981 = .ok (.aload_n 1, 1) := by decide +kernel
theorem dL_law_982 : decode cL_law 982 = .ok (.iconst 0, 1) := by decide +kernel
theorem dL_law_983 : decode cL_law 983 = .ok (.iconst 1, 1) := by decide +kernel
theorem dL_law_984 : decode cL_law 984 = .ok (.iconst 1, 1) := by decide +kernel
theorem dL_law_985 : decode cL_law 985 = .ok (.iconst 0, 1) := by decide +kernel
theorem dL_law_986 : decode cL_law 986 = .ok (.bipush 7, 2) := by decide +kernel
theorem dL_law_988 : decode cL_law 988 = .ok (.iconst 0, 1) := by decide +kernel
theorem dL_law_989 : decode cL_law 989 = .ok (.invokevirtual 94, 3) := by decide +kernel
theorem dL_law_992 : decode cL_law 992 = .ok (.ldc2_w 98, 3) := by decide +kernel
theorem dL_law_995 : decode cL_law 995 = .ok (.lcmp, 1) := by decide +kernel
theorem dL_law_996 : decode cL_law 996 = .ok (.ifCond .ne 90, 3) := by decide +kernel
theorem dL_law_999 : decode cL_law 999 = .ok (.aload_n 1, 1) := by decide +kernel
theorem dL_law_1000 : decode cL_law 1000 = .ok (.invokevirtual 100, 3) := by decide +kernel
theorem dL_law_1003 : decode cL_law 1003 = .ok (.iconst 3, 1) := by decide +kernel
theorem dL_law_1004 : decode cL_law 1004 = .ok (.if_icmp .ne 82, 3) := by decide +kernel
theorem dL_law_1007 : decode cL_law 1007 = .ok (.aload_n 1, 1) := by decide +kernel
theorem dL_law_1008 : decode cL_law 1008 = .ok (.iconst 0, 1) := by decide +kernel
theorem dL_law_1009 : decode cL_law 1009 = .ok (.iconst 1, 1) := by decide +kernel
theorem dL_law_1010 : decode cL_law 1010 = .ok (.iconst 2, 1) := by decide +kernel
theorem dL_law_1011 : decode cL_law 1011 = .ok (.iconst 0, 1) := by decide +kernel
theorem dL_law_1012 : decode cL_law 1012 = .ok (.iconst 1, 1) := by decide +kernel
theorem dL_law_1013 : decode cL_law 1013 = .ok (.iconst 0, 1) := by decide +kernel
theorem dL_law_1014 : decode cL_law 1014 = .ok (.invokevirtual 94, 3) := by decide +kernel
theorem dL_law_1017 : decode cL_law 1017 = .ok (.ldc2_w 98, 3) := by decide +kernel
theorem dL_law_1020 : decode cL_law 1020 = .ok (.lcmp, 1) := by decide +kernel
theorem dL_law_1021 : decode cL_law 1021 = .ok (.ifCond .ne 65, 3) := by decide +kernel
theorem dL_law_1024 : decode cL_law 1024 = .ok (.aload_n 1, 1) := by decide +kernel
theorem dL_law_1025 : decode cL_law 1025 = .ok (.invokevirtual 100, 3) := by decide +kernel
theorem dL_law_1028 : decode cL_law 1028 = .ok (.iconst 2, 1) := by decide +kernel
theorem dL_law_1029 : decode cL_law 1029 = .ok (.if_icmp .ne 57, 3) := by decide +kernel
theorem dL_law_1032 : decode cL_law 1032 = .ok (.aload_n 1, 1) := by decide +kernel
theorem dL_law_1033 : decode cL_law 1033 = .ok (.iconst 0, 1) := by decide +kernel
theorem dL_law_1034 : decode cL_law 1034 = .ok (.iconst 1, 1) := by decide +kernel
theorem dL_law_1035 : decode cL_law 1035 = .ok (.iconst 1, 1) := by decide +kernel
theorem dL_law_1036 : decode cL_law 1036 = .ok (.iconst 0, 1) := by decide +kernel
theorem dL_law_1037 : decode cL_law 1037 = .ok (.iconst (-1), 1) := by decide +kernel
theorem dL_law_1038 : decode cL_law 1038 = .ok (.iconst 0, 1) := by decide +kernel
theorem dL_law_1039 : decode cL_law 1039 = .ok (.invokevirtual 94, 3) := by decide +kernel
theorem dL_law_1042 : decode cL_law 1042 = .ok (.ldc2_w 98, 3) := by decide +kernel
theorem dL_law_1045 : decode cL_law 1045 = .ok (.lcmp, 1) := by decide +kernel
theorem dL_law_1046 : decode cL_law 1046 = .ok (.ifCond .ne 40, 3) := by decide +kernel
theorem dL_law_1049 : decode cL_law 1049 = .ok (.aload_n 1, 1) := by decide +kernel
theorem dL_law_1050 : decode cL_law 1050 = .ok (.invokevirtual 100, 3) := by decide +kernel
theorem dL_law_1053 : decode cL_law 1053 = .ok (.iconst 4, 1) := by decide +kernel
theorem dL_law_1054 : decode cL_law 1054 = .ok (.if_icmp .ne 32, 3) := by decide +kernel
theorem dL_law_1057 : decode cL_law 1057 = .ok (.aload_n 1, 1) := by decide +kernel
theorem dL_law_1058 : decode cL_law 1058 = .ok (.iload 5, 2) := by decide +kernel
theorem dL_law_1060 : decode cL_law 1060 = .ok (.iconst 1, 1) := by decide +kernel
theorem dL_law_1061 : decode cL_law 1061 = .ok (.iconst 1, 1) := by decide +kernel
theorem dL_law_1062 : decode cL_law 1062 = .ok (.iconst 1, 1) := by decide +kernel
theorem dL_law_1063 : decode cL_law 1063 = .ok (.iconst 0, 1) := by decide +kernel
theorem dL_law_1064 : decode cL_law 1064 = .ok (.iconst 0, 1) := by decide +kernel
theorem dL_law_1065 : decode cL_law 1065 = .ok (.invokevirtual 94, 3) := by decide +kernel
theorem dL_law_1068 : decode cL_law 1068 = .ok (.ldc2_w 98, 3) := by decide +kernel
theorem dL_law_1071 : decode cL_law 1071 = .ok (.lcmp, 1) := by decide +kernel
theorem dL_law_1072 : decode cL_law 1072 = .ok (.ifCond .ne 14, 3) := by decide +kernel
theorem dL_law_1075 : decode cL_law 1075 = .ok (.aload_n 1, 1) := by decide +kernel
theorem dL_law_1076 : decode cL_law 1076 = .ok (.invokevirtual 100, 3) := by decide +kernel
theorem dL_law_1079 : decode cL_law 1079 = .ok (.ifCond .ne 7, 3) := by decide +kernel
theorem dL_law_1082 : decode cL_law 1082 = .ok (.iconst 1, 1) := by decide +kernel
theorem dL_law_1083 : decode cL_law 1083 = .ok (.goto 4, 3) := by decide +kernel
theorem dL_law_1086 : decode cL_law 1086 = .ok (.iconst 0, 1) := by decide +kernel
theorem dL_law_1087 : decode cL_law 1087 = .ok (.ireturn, 1) := by decide +kernel
end
section
/-! numbers: an int, a long is told by the whole number that it stands for -/
abbrev zHp : Type := Int → Int → Int
def w32 (x : Int) : Int := (x + 2147483648) % 4294967296 - 2147483648
def w64 (x : Int) : Int := (x + 9223372036854775808) % 18446744073709551616 - 9223372036854775808
def r32 (x : Int) : Prop := -2147483648 ≤ x ∧ x < 2147483648
def r64 (x : Int) : Prop := -9223372036854775808 ≤ x ∧ x < 9223372036854775808
theorem w32_r (x : Int) : r32 (w32 x) := by unfold r32 w32; omega
theorem w64_r (x : Int) : r64 (w64 x) := by unfold r64 w64; omega
theorem w32_id {x : Int} (h : r32 x) : w32 x = x := by unfold r32 at h; unfold w32; omega
theorem w64_id {x : Int} (h : r64 x) : w64 x = x := by unfold r64 at h; unfold w64; omega
theorem z32_ti {x : Int} (h : r32 x) : (Int32.ofInt x).toInt = x := Int32.toInt_ofInt_of_le h.1 h.2
theorem z64_ti {x : Int} (h : r64 x) : (Int64.ofInt x).toInt = x := Int64.toInt_ofInt_of_le h.1 h.2
theorem z32_rt (x : Int32) : r32 x.toInt := ⟨x.le_toInt, x.toInt_lt⟩
theorem z64_rt (x : Int64) : r64 x.toInt := ⟨x.le_toInt, x.toInt_lt⟩
theorem z32_w (x : Int) : Int32.ofInt (w32 x) = Int32.ofInt x := by
  apply Int32.toInt_inj.mp
  rw [Int32.toInt_ofInt, Int32.toInt_ofInt]
  show Int.bmod _ 4294967296 = Int.bmod _ 4294967296
  unfold w32
  simp only [Int.bmod_def]
  omega
theorem z64_w (x : Int) : Int64.ofInt (w64 x) = Int64.ofInt x := by
  apply Int64.toInt_inj.mp
  rw [Int64.toInt_ofInt, Int64.toInt_ofInt]
  show Int.bmod _ 18446744073709551616 = Int.bmod _ 18446744073709551616
  unfold w64
  simp only [Int.bmod_def]
  omega
theorem z32_lt {x y : Int} (hx : r32 x) (hy : r32 y) : Int32.ofInt x < Int32.ofInt y ↔ x < y := by
  rw [Int32.lt_iff_toInt_lt, z32_ti hx, z32_ti hy]
theorem z32_le {x y : Int} (hx : r32 x) (hy : r32 y) : Int32.ofInt x ≤ Int32.ofInt y ↔ x ≤ y := by
  rw [Int32.le_iff_toInt_le, z32_ti hx, z32_ti hy]
theorem z32_eq {x y : Int} (hx : r32 x) (hy : r32 y) : Int32.ofInt x = Int32.ofInt y ↔ x = y := by
  rw [← Int32.toInt_inj, z32_ti hx, z32_ti hy]
theorem z64_lt {x y : Int} (hx : r64 x) (hy : r64 y) : Int64.ofInt x < Int64.ofInt y ↔ x < y := by
  rw [Int64.lt_iff_toInt_lt, z64_ti hx, z64_ti hy]
theorem z64_eq {x y : Int} (hx : r64 x) (hy : r64 y) : Int64.ofInt x = Int64.ofInt y ↔ x = y := by
  rw [← Int64.toInt_inj, z64_ti hx, z64_ti hy]
theorem z32_in {x : Int} {n : Nat} (h0 : 0 ≤ x) (h1 : x < n) (hn : n < 2147483648) : vp_in (Int32.ofInt x) n ∧ (Int32.ofInt x).toNatClampNeg = x.toNat := by
  have hr : r32 x := ⟨by omega, by omega⟩
  have e : (Int32.ofInt x).toNatClampNeg = x.toNat := Int32.toNatClampNeg_ofInt_of_le hr.1 hr.2
  refine ⟨?_, e⟩
  unfold vp_in
  rw [e]
  rintro (h | h)
  · rw [show (0 : Int32) = Int32.ofInt 0 from rfl, z32_lt hr ⟨by omega, by omega⟩] at h
    omega
  · omega
/-! kinds of values: 0 int, 1 long, 3 the script, 4 true or false, 5 a sheet, 6 a sheet's row, 7 a row of weights, 10 and o: cell o (2: a place that holds a cell) -/
def inR (t : Nat) (x : Int) : Prop := match t with
  | 0 => r32 x
  | 1 => r64 x
  | 2 => 0 ≤ x ∧ x < 43
  | 3 => True
  | 4 => x = 0 ∨ x = 1
  | 5 => x = 29 ∨ x = 31 ∨ x = 33 ∨ x = 35
  | 6 => x = 30 ∨ x = 32 ∨ x = 34 ∨ x = 36
  | 7 => x = 9 ∨ x = 26
  | t => x = (t : Int) - 10 ∧ 0 ≤ x ∧ x < 43
def zV (ad : Nat → Nat) (b : Nat) (t : Nat) (x : Int) : Value := match t with
  | 0 => .int (Int32.ofInt x)
  | 1 => .long (Int64.ofInt x)
  | 3 => .ref b
  | 4 => .int (Int32.ofInt x)
  | _ => .ref (ad x.toNat)
def zcat (t : Nat) : Nat := match t with
  | 1 => 2
  | _ => 1
theorem zV_cat (ad : Nat → Nat) (b t : Nat) (x : Int) : (zV ad b t x).category = zcat t := by
  by_cases h1 : t = 1
  · subst h1; rfl
  · have hz : zcat t = 1 := by unfold zcat; split <;> first | rfl | exact absurd rfl h1
    rw [hz]
    unfold zV
    split <;> first | rfl | exact absurd rfl h1
/-! the world: cells by number. what each is (a made thing of a sort, or a row: 100 int, 101 long, 102 of sheets, 103 boolean), how long -/
def zOC : List Nat := [8, 3, 100, 100, 100, 100, 1, 100, 100, 100, 0, 101, 101, 101, 4, 100, 100, 100, 100, 7, 101, 100, 5, 100, 100, 2, 100, 101, 102, 6, 100, 6, 100, 6, 100, 6, 100, 100, 101, 100, 101, 101, 101]
def zON : List Nat := [10, 8, 30, 30, 30, 10, 4, 6, 6, 6, 7, 180, 180, 30, 7, 10, 10, 10, 10, 7, 6, 6, 4, 6, 6, 6, 6, 201, 4, 4, 60, 4, 60, 4, 60, 4, 60, 60, 16, 6, 6, 16, 2]
/-- the kinds of the fields of a sort -/
def zFT : List (List Nat) := [[2, 2, 0, 2, 2, 1, 2], [0, 2, 2, 2], [2, 2, 2, 2, 0, 0], [0, 0, 0, 0, 2, 2, 2, 2], [2, 2, 0, 2, 2, 2, 2], [2, 2, 2, 2], [2, 4, 0, 0], [2, 2, 2, 2, 2, 0, 0], [2, 2, 2, 2, 2, 2, 2, 2, 0, 0]]
/-- where a cell's place that holds a cell points to -/
def zSH : List (List Nat) := [[1, 6, 10, 14, 19, 22, 25, 28, 0, 0], [0, 0, 0, 0, 2, 3, 4, 5], [], [], [], [], [0, 7, 8, 9], [], [], [], [1, 6, 0, 11, 12, 0, 13], [], [], [], [6, 10, 0, 15, 16, 17, 18], [], [], [], [], [1, 6, 10, 20, 21, 0, 0], [], [], [6, 10, 23, 24], [], [], [6, 10, 26, 27, 0, 0], [], [], [29, 31, 33, 35], [30, 0, 0, 0], [], [32, 0, 0, 0], [], [34, 0, 0, 0], [], [36, 0, 0, 0], [], [], [], [], [], [], []]
def zoc (o : Nat) : Nat := zOC.getD o 999
def zon (o : Nat) : Nat := zON.getD o 0
def zft (ci k : Nat) : Nat := (zFT.getD ci []).getD k 0
def zsh (o k : Nat) : Nat := (zSH.getD o []).getD k 0
theorem zsh_lt (o k : Nat) : zsh o k < 37 := by
  have h : ∀ l ∈ zSH, ∀ x ∈ l, x < 37 := by decide +kernel
  unfold zsh
  rw [List.getD_eq_getElem?_getD, List.getD_eq_getElem?_getD]
  cases h1 : zSH[o]? with
  | none => simp
  | some l =>
    simp only [Option.getD_some]
    cases h2 : l[k]? with
    | none => simp
    | some x => exact h l (List.mem_of_getElem? h1) x (List.mem_of_getElem? h2)
/-- the kind of what stands in a place -/
def zst (o k : Nat) : Nat := if zoc o = 100 then 0 else if zoc o = 101 then 1 else if zoc o = 102 then 3 else if zft (zoc o) k = 2 then 3 else zft (zoc o) k
abbrev zCs : Type := ClassId × ClassId × ClassId
abbrev zty (cs : zCs) : List (ClassId × FieldType) := [(cs.1, .int), (cs.2.1, .long), (cs.2.2, .object RX6)]
def zfv (ad : Nat → Nat) (σ : zHp) (o k : Nat) : Value := if zft (zoc o) k = 2 then .ref (ad (zsh o k)) else zV ad 0 (zft (zoc o) k) (σ o k)
def zcell (cs : zCs) (ad : Nat → Nat) (σ : zHp) (o : Nat) : va_E :=
  if zoc o = 100 then .inl (cs.1, zon o, .inl (fun j => Int32.ofInt (σ o j)))
  else if zoc o = 101 then .inl (cs.2.1, zon o, .inr (.inl (fun j => Int64.ofInt (σ o j))))
  else if zoc o = 102 then .inl (cs.2.2, zon o, .inr (.inr (.inr (.inr (fun j => some (ad (zsh o j)))))))
  else .inr (zoc o, (List.range (zon o)).map (zfv ad σ o))
def zW (cs : zCs) (ad : Nat → Nat) (σ : zHp) (ns : List Nat) : va_W := ns.map (fun o => (ad o, zcell cs ad σ o))
/-- the count of the cells made -/
def zct (σ : zHp) : Int := σ (-1) 0
def zcap : Int := 100000
def zOk (σ : zHp) : Prop := (∀ o k : Nat, inR (zst o k) (σ o k)) ∧ 0 ≤ zct σ ∧ zct σ ≤ zcap
theorem zidx {l : List Nat} (hn : l.Nodup) {i o : Nat} (h : l[i]? = some o) : l.idxOf o = i := by
  obtain ⟨hl, rfl⟩ := List.getElem?_eq_some_iff.mp h
  exact hn.idxOf_getElem i hl
/-- a world's cells: no one twice, the class's among them -/
def zNs (ns : List Nat) : Prop := ns.Nodup ∧ ∀ o : Nat, o < 37 → o ∈ ns
def zInj (ns : List Nat) (ad : Nat → Nat) : Prop := ∀ i j : Nat, i ∈ ns → j ∈ ns → ad i = ad j → i = j
def zA (ns : List Nat) (ad : Nat → Nat) (sz : Nat) : Nat → Prop := fun q => (∃ i, i ∈ ns ∧ q = ad i) ∨ sz ≤ q
def zput (σ : zHp) (o i v : Int) : zHp := fun a b => if a = o ∧ b = i then v else σ a b
theorem zW_get (cs : zCs) (ad : Nat → Nat) (σ : zHp) {ns : List Nat} {o : Nat} (h : o ∈ ns) : (zW cs ad σ ns)[ns.idxOf o]? = some (ad o, zcell cs ad σ o) := by
  have h1 : ns[ns.idxOf o]? = some o := by
    rw [List.getElem?_eq_getElem (List.idxOf_lt_length_of_mem h), List.getElem_idxOf]
  simp [zW, List.getElem?_map, h1]
theorem zW_of {cs : zCs} {ad : Nat → Nat} {σ : zHp} {ns : List Nat} {k : Nat} {q : Nat × va_E} (h : (zW cs ad σ ns)[k]? = some q) : ∃ o : Nat, ns[k]? = some o ∧ o ∈ ns ∧ q = (ad o, zcell cs ad σ o) := by
  unfold zW at h
  rw [List.getElem?_map] at h
  cases h1 : ns[k]? with
  | none => rw [h1] at h; cases h
  | some o =>
    rw [h1] at h
    exact ⟨o, rfl, List.mem_of_getElem? h1, (Option.some.inj h).symm⟩
theorem zcell_eq {cs : zCs} {ad : Nat → Nat} {σ τ : zHp} {o : Nat} (h : ∀ k : Int, τ o k = σ o k) : zcell cs ad τ o = zcell cs ad σ o := by
  have e : τ (o : Int) = σ (o : Int) := funext h
  unfold zcell zfv
  simp only [e]
theorem zW_set {cs : zCs} {ad : Nat → Nat} {σ τ : zHp} {ns : List Nat} {o : Nat} {e : va_E} (hn : ns.Nodup) (ho : o ∈ ns) (he : zcell cs ad τ o = e) (hk : ∀ q : Nat, q ≠ o → ∀ k : Int, τ q k = σ q k) : (zW cs ad σ ns).set (ns.idxOf o) (ad o, e) = zW cs ad τ ns := by
  have hl := List.idxOf_lt_length_of_mem ho
  apply List.ext_getElem?
  intro i
  by_cases hi : i = ns.idxOf o
  · subst hi
    rw [List.getElem?_set_self (by simpa [zW] using hl), zW_get _ _ _ ho, he]
  · rw [List.getElem?_set_ne (Ne.symm hi)]
    unfold zW
    rw [List.getElem?_map, List.getElem?_map]
    cases h1 : ns[i]? with
    | none => rfl
    | some q =>
      have hq : q ≠ o := by
        rintro rfl
        exact hi (zidx hn h1).symm
      simp only [Option.map_some, zcell_eq (hk q hq)]
theorem zput_self (σ : zHp) (o i v : Int) : zput σ o i v o i = v := by simp [zput]
theorem zput_o {σ : zHp} {o i v a : Int} (h : a ≠ o) (b : Int) : zput σ o i v a b = σ a b := by simp [zput, h]
theorem zput_i {σ : zHp} {o i v b : Int} (h : b ≠ i) (a : Int) : zput σ o i v a b = σ a b := by simp [zput, h]
theorem zput_on {σ : zHp} {o : Nat} {i v : Int} : ∀ q : Nat, q ≠ o → ∀ k : Int, zput σ o i v q k = σ q k := fun q h k => zput_o (by omega) k
theorem zct_put {σ : zHp} {o : Nat} {i v : Int} : zct (zput σ o i v) = zct σ := zput_o (by omega) 0
theorem zOk_put {σ : zHp} {o i : Nat} {v : Int} (h : zOk σ) (hv : inR (zst o i) v) : zOk (zput σ o i v) := by
  refine ⟨fun a b => ?_, by rw [zct_put]; exact h.2⟩
  by_cases hh : a = o ∧ b = i
  · obtain ⟨rfl, rfl⟩ := hh
    rw [zput_self]; exact hv
  · have : zput σ o i v a b = σ a b := by
      unfold zput
      rw [if_neg]
      omega
    rw [this]; exact h.1 a b
theorem zD {A : Nat → Prop} {cs : zCs} {ad : Nat → Nat} {ns : List Nat} (σ : zHp) (hn : ns.Nodup) (hi : zInj ns ad) (hA : ∀ i : Nat, i ∈ ns → A (ad i)) : va_D A (zW cs ad σ ns) := by
  refine ⟨fun i j p q hp hq e => ?_, fun k q hq => ?_⟩
  · obtain ⟨o1, a1, b1, rfl⟩ := zW_of hp
    obtain ⟨o2, a2, b2, rfl⟩ := zW_of hq
    have := hi o1 o2 b1 b2 e
    subst this
    exact (zidx hn a1).symm.trans (zidx hn a2)
  · obtain ⟨o1, a1, b1, rfl⟩ := zW_of hq
    exact hA o1 b1
theorem zA_va {cs : zCs} {ad : Nat → Nat} {ns : List Nat} (σ : zHp) (sz : Nat) : ∀ q, va_A (zW cs ad σ ns) sz q → zA ns ad sz q := by
  rintro q (⟨k, e, h⟩ | h)
  · obtain ⟨o, h1, h2, h3⟩ := zW_of h
    exact Or.inl ⟨o, h2, congrArg Prod.fst h3⟩
  · exact Or.inr h
/-- what a cell is once a place is written -/
theorem zcell_i {cs : zCs} {ad : Nat → Nat} {σ : zHp} {o : Nat} (h : zoc o = 100) : zcell cs ad σ o = .inl (cs.1, zon o, .inl (fun j => Int32.ofInt (σ o j))) := by simp [zcell, h]
theorem zcell_l {cs : zCs} {ad : Nat → Nat} {σ : zHp} {o : Nat} (h : zoc o = 101) : zcell cs ad σ o = .inl (cs.2.1, zon o, .inr (.inl (fun j => Int64.ofInt (σ o j)))) := by simp [zcell, h]
theorem zcell_q {cs : zCs} {ad : Nat → Nat} {σ : zHp} {o : Nat} (h : zoc o = 102) : zcell cs ad σ o = .inl (cs.2.2, zon o, .inr (.inr (.inr (.inr (fun j => some (ad (zsh o j))))))) := by simp [zcell, h]
theorem zcell_o {cs : zCs} {ad : Nat → Nat} {σ : zHp} {o : Nat} (h : zoc o < 100) : zcell cs ad σ o = .inr (zoc o, (List.range (zon o)).map (zfv ad σ o)) := by
  unfold zcell
  rw [if_neg (by omega), if_neg (by omega), if_neg (by omega)]
theorem zcell_iput {cs : zCs} {ad : Nat → Nat} {σ : zHp} {o : Nat} (h : zoc o = 100) (i : Nat) (v : Int) : zcell cs ad (zput σ o i v) o = .inl (cs.1, zon o, .inl (upd (fun j => Int32.ofInt (σ o j)) i (Int32.ofInt v))) := by
  rw [zcell_i h]
  congr 4
  funext j
  by_cases hj : j = i
  · subst hj; simp [upd, zput_self]
  · simp only [upd, if_neg hj]; rw [zput_i (by omega)]
theorem zcell_lput {cs : zCs} {ad : Nat → Nat} {σ : zHp} {o : Nat} (h : zoc o = 101) (i : Nat) (v : Int) : zcell cs ad (zput σ o i v) o = .inl (cs.2.1, zon o, .inr (.inl (vp_updL (fun j => Int64.ofInt (σ o j)) i (Int64.ofInt v)))) := by
  rw [zcell_l h]
  congr 5
  funext j
  by_cases hj : j = i
  · subst hj; simp [vp_updL, zput_self]
  · simp only [vp_updL, if_neg hj]; rw [zput_i (by omega)]
theorem zcell_oput {cs : zCs} {ad : Nat → Nat} {σ : zHp} {o : Nat} (h : zoc o < 100) {k : Nat} (hk : k < zon o) (hf : zft (zoc o) k ≠ 2) (v : Int) : zcell cs ad (zput σ o k v) o = .inr (zoc o, ((List.range (zon o)).map (zfv ad σ o)).set k (zV ad 0 (zft (zoc o) k) v)) := by
  rw [zcell_o h]
  congr 2
  apply List.ext_getElem?
  intro i
  by_cases hi : i = k
  · subst hi
    rw [List.getElem?_set_self (by simpa using hk)]
    simp [List.getElem?_range, hk, zfv, hf, zput_self]
  · rw [List.getElem?_set_ne (Ne.symm hi)]
    by_cases hl : i < zon o
    · simp only [List.getElem?_map, List.getElem?_range hl, Option.map_some, zfv]
      rw [zput_i (by omega)]
    · rw [List.getElem?_eq_none (by simp; omega), List.getElem?_eq_none (by simp; omega)]
/-- what sort of cell a kind of value is, and how long -/
def zcl (t : Nat) : Nat := if 10 ≤ t then zoc (t - 10) else if t = 5 then 6 else if t = 6 ∨ t = 7 then 100 else 999
def zln (t : Nat) : Nat := if 10 ≤ t then zon (t - 10) else if t = 5 then 4 else if t = 6 then 60 else if t = 7 then 6 else 0
theorem zcl_ok {t : Nat} {x : Int} (ht : 5 ≤ t) (h7 : t ≤ 7 ∨ 10 ≤ t) (h : inR t x) : ∃ o : Nat, o < 43 ∧ x = (o : Int) ∧ zoc o = zcl t ∧ zon o = zln t := by
  rcases h7 with h7 | h7
  · rcases (show t = 5 ∨ t = 6 ∨ t = 7 by omega) with rfl | rfl | rfl
    · rcases h with rfl | rfl | rfl | rfl
      · exact ⟨29, by decide, rfl, rfl, rfl⟩
      · exact ⟨31, by decide, rfl, rfl, rfl⟩
      · exact ⟨33, by decide, rfl, rfl, rfl⟩
      · exact ⟨35, by decide, rfl, rfl, rfl⟩
    · rcases h with rfl | rfl | rfl | rfl
      · exact ⟨30, by decide, rfl, rfl, rfl⟩
      · exact ⟨32, by decide, rfl, rfl, rfl⟩
      · exact ⟨34, by decide, rfl, rfl, rfl⟩
      · exact ⟨36, by decide, rfl, rfl, rfl⟩
    · rcases h with rfl | rfl
      · exact ⟨9, by decide, rfl, rfl, rfl⟩
      · exact ⟨26, by decide, rfl, rfl, rfl⟩
  · obtain ⟨n, rfl⟩ : ∃ n, t = n + 10 := ⟨t - 10, by omega⟩
    have h2 : x = ((n + 10 : Nat) : Int) - 10 ∧ 0 ≤ x ∧ x < 43 := h
    refine ⟨n, by omega, by omega, ?_, ?_⟩
    · unfold zcl; rw [if_pos (by omega)]; simp
    · unfold zln; rw [if_pos (by omega)]; simp
theorem zon_lt (o : Nat) : zon o < 2147483648 := by
  have h : ∀ x ∈ zON, x < 2147483648 := by decide +kernel
  unfold zon
  rw [List.getD_eq_getElem?_getD]
  cases h1 : zON[o]? with
  | none => simp
  | some x => exact h x (List.mem_of_getElem? h1)
end
section
/-- a method: owner, code, locals, words, frames, locals' room, the script, kind of answer (9: none), what it has to come to -/
abbrev zM : Type := String × ByteArray × Nat × List Cond × Nat × Nat × Option (Nat × (Nat → Int32)) × Nat × List Nat × List Nat × Int × (Int → zHp → Prop)
abbrev zown (M : zM) : String := M.1
abbrev zcc (M : zM) : ByteArray := M.2.1
abbrev znl (M : zM) : Nat := M.2.2.1
abbrev zTs (M : zM) : List Cond := M.2.2.2.1
abbrev zfr (M : zM) : Nat := M.2.2.2.2.1
abbrev zlo (M : zM) : Nat := M.2.2.2.2.2.1
abbrev zsc (M : zM) : Option (Nat × (Nat → Int32)) := M.2.2.2.2.2.2.1
abbrev zrt (M : zM) : Nat := M.2.2.2.2.2.2.2.1
/-- the cells that the caller has, those that are there now -/
abbrev zn0 (M : zM) : List Nat := M.2.2.2.2.2.2.2.2.1
abbrev zns (M : zM) : List Nat := M.2.2.2.2.2.2.2.2.2.1
abbrev zcp (M : zM) : Int := M.2.2.2.2.2.2.2.2.2.2.1
abbrev zpo (M : zM) : Int → zHp → Prop := M.2.2.2.2.2.2.2.2.2.2.2
def zrv (t : Nat) (v : Int) : List Value := match t with
  | 1 => [.long (Int64.ofInt v)]
  | 9 => []
  | _ => [.int (Int32.ofInt v)]
def zri (t : Nat) (cc : ByteArray) (pc : Nat) : Prop := match t with
  | 1 => decode cc pc = .ok (.lreturn, 1)
  | 9 => decode cc pc = .ok (.return_, 1)
  | _ => decode cc pc = .ok (.ireturn, 1)
def zrr (t : Nat) (v : Int) : Prop := t = 9 ∨ inR t v
def zg (e : List Int) (k : Nat) : Int := e.getD k 0
def zLs (ad : Nat → Nat) (b : Nat) (Γ : List (Nat × Nat)) (e : List Int) : List (Nat × Value) := Γ.map (fun q => (q.1, zV ad b q.2 (zg e q.1)))
def zsv (ad : Nat → Nat) (b : Nat) (st : List (Nat × Int)) : List Value := st.map (fun q => zV ad b q.1 q.2)
def zwt (st : List (Nat × Int)) : Nat := (st.map (fun q => zcat q.1)).sum
def zE (M : zM) (Γ : List (Nat × Nat)) (e : List Int) : Prop := e.length = znl M ∧ ∀ q ∈ Γ, inR q.2 (zg e q.1)
/-- what holds around a body that is walked -/
def zKx (M : zM) (p : Program) (R : Room) (s : State) (m : MethodId) (args : Array Value) (c : Code) (D : va_G) (cs : zCs) (ad : Nat → Nat) (A : Nat → Prop) (b : Nat) : Prop :=
  p.tables.exec = Jvm.exec ∧ c.code = zcc M ∧ c.maxLocals = znl M ∧ s.vm.findClass (zown M) = some m.cls ∧ (∀ w ∈ zTs M, w.before args s = true) ∧ va_K D vwCl (zty cs) s ∧ zInj (zns M) ad ∧ (∀ i : Nat, i ∈ zns M → A (ad i)) ∧ (∀ q : Nat, s.heap.size ≤ q → A q) ∧ zfr M ≤ R.frames ∧ zlo M ≤ R.locals ∧ (∀ (L : Nat) (xs : Nat → Int32), zsc M = some (L, xs) → L < 2147483648 ∧ va_X b L xs s s.heap ∧ b < s.heap.size ∧ ¬ A b) ∧ zNs (zns M) ∧ ∀ k ∈ zn0 M, k ∈ zns M
def zRo (M : zM) (R : Room) (cells slots : Nat) (σ : zHp) : Prop := (cells : Int) + (zcp M - zct σ) ≤ R.cells ∧ (slots : Int) + 16 * (zcp M - zct σ) ≤ R.slots
/-- from here, with these locals, this stack and this world, the body comes to its end as it has to -/
def zRb (M : zM) (pc : Nat) (Γ : List (Nat × Nat)) (e : List Int) (st : List (Nat × Int)) (σ : zHp) : Prop :=
  ∀ (p : Program) (l : Launch) (en : Env) (R : Room) (s : State) (m : MethodId) (args : Array Value) (below : List Frame) (meth : Method) (c : Code) (cells slots : Nat) (Q : State → Prop) (D : va_G) (cs : zCs) (ad : Nat → Nat) (A : Nat → Prop) (b : Nat) (H : Heap) (locs : List Loc) (ls : Array Slot),
    zKx M p R s m args c D cs ad A b → zRo M R cells slots σ →
    (∀ (v : Int) (τ : zHp) (H : Heap) (locs : List Loc) (ls : Array Slot) (pc cells slots : Nat), zpo M v τ → zrr (zrt M) v → zOk τ → zct τ ≤ zcp M → zRo M R cells slots τ → va_P D vwCl (zW cs ad τ (zn0 M)) H → va_S A s.heap H locs → zri (zrt M) (zcc M) pc → W p l en R s m args below meth c H locs cells slots Q (F0 m pc ls (zrv (zrt M) v))) →
    zOk σ → va_P D vwCl (zW cs ad σ (zns M)) H → va_S A s.heap H locs → lv_has ls (znl M) (zLs ad b Γ e) → W p l en R s m args below meth c H locs cells slots Q (F0 m pc ls (zsv ad b st))
/-- .. and the cells made don't pass the method's own -/
def zRn (M : zM) (pc : Nat) (Γ : List (Nat × Nat)) (e : List Int) (st : List (Nat × Int)) (σ : zHp) : Prop := zct σ ≤ zcp M ∧ zRb M pc Γ e st σ
theorem zW_sub {D : va_G} {cs : zCs} {ad : Nat → Nat} {σ : zHp} {ns n0 : List Nat} {H : Heap} (h : ∀ k ∈ n0, k ∈ ns) (hP : va_P D vwCl (zW cs ad σ ns) H) : va_P D vwCl (zW cs ad σ n0) H := by
  intro k q hq
  obtain ⟨o, h1, h2, rfl⟩ := zW_of hq
  exact hP _ _ (zW_get cs ad σ (h o h2))
theorem zsv_cat (ad : Nat → Nat) (b : Nat) (st : List (Nat × Int)) : ((zsv ad b st).map fun v => v.category).sum = zwt st := by
  unfold zsv zwt
  rw [List.map_map]
  congr 1
  apply List.map_congr_left
  intro q _
  exact zV_cat ad b q.1 q.2
theorem zLs_at {ad : Nat → Nat} {b nL k t : Nat} {Γ : List (Nat × Nat)} {e : List Int} {ls : Array Slot} (h : lv_has ls nL (zLs ad b Γ e)) (hm : (k, t) ∈ Γ) : ls[k]? = some (.val (zV ad b t (zg e k))) :=
  h.2.2 (k, zV ad b t (zg e k)) (List.mem_map.mpr ⟨(k, t), hm, rfl⟩)
section ZR
variable {M : zM} {Γ : List (Nat × Nat)} {e : List Int} {st : List (Nat × Int)} {σ τ : zHp} {pc pc2 : Nat}
/-- a step that leaves world and locals -/
theorem zr_a {st2 : List (Nat × Int)} (k : zRn M pc2 Γ e st2 σ)
    (h : ∀ (p : Program) (l : Launch) (en : Env) (R : Room) (s : State) (m : MethodId) (args : Array Value) (below : List Frame) (meth : Method) (c : Code) (cells slots : Nat) (Q : State → Prop) (D : va_G) (cs : zCs) (ad : Nat → Nat) (A : Nat → Prop) (b : Nat) (H : Heap) (locs : List Loc) (ls : Array Slot),
      zKx M p R s m args c D cs ad A b → cells ≤ R.cells ∧ slots ≤ R.slots → zOk σ → va_P D vwCl (zW cs ad σ (zns M)) H → va_S A s.heap H locs → lv_has ls (znl M) (zLs ad b Γ e) →
      W p l en R s m args below meth c H locs cells slots Q (F0 m pc2 ls (zsv ad b st2)) → W p l en R s m args below meth c H locs cells slots Q (F0 m pc ls (zsv ad b st))) : zRn M pc Γ e st σ := by
  refine ⟨k.1, ?_⟩
  intro p l en R s m args below meth c cells slots Q D cs ad A b H locs ls K hc hr ho hP hS hl
  have k1 := k.1
  have hc2 := hc
  unfold zRo at hc2
  exact h p l en R s m args below meth c cells slots Q D cs ad A b H locs ls K (by omega) ho hP hS hl (k.2 p l en R s m args below meth c cells slots Q D cs ad A b H locs ls K hc hr ho hP hS hl)
/-- a step that writes the world -/
theorem zr_w {st2 : List (Nat × Int)} (ht : zOk σ → zOk τ) (hq : zct τ = zct σ) (k : zRn M pc2 Γ e st2 τ)
    (h : ∀ (p : Program) (l : Launch) (en : Env) (R : Room) (s : State) (m : MethodId) (args : Array Value) (below : List Frame) (meth : Method) (c : Code) (cells slots : Nat) (Q : State → Prop) (D : va_G) (cs : zCs) (ad : Nat → Nat) (A : Nat → Prop) (b : Nat) (H : Heap) (locs : List Loc) (ls : Array Slot),
      zKx M p R s m args c D cs ad A b → cells ≤ R.cells ∧ slots ≤ R.slots → zOk σ → va_P D vwCl (zW cs ad σ (zns M)) H → va_D A (zW cs ad σ (zns M)) → va_S A s.heap H locs → lv_has ls (znl M) (zLs ad b Γ e) →
      (∀ (H1 : Heap) (locs1 : List Loc), va_P D vwCl (zW cs ad τ (zns M)) H1 → va_S A s.heap H1 locs1 → W p l en R s m args below meth c H1 locs1 cells slots Q (F0 m pc2 ls (zsv ad b st2))) → W p l en R s m args below meth c H locs cells slots Q (F0 m pc ls (zsv ad b st))) : zRn M pc Γ e st σ := by
  refine ⟨by rw [← hq]; exact k.1, ?_⟩
  intro p l en R s m args below meth c cells slots Q D cs ad A b H locs ls K hc hr ho hP hS hl
  have k1 := k.1
  have hc2 := hc
  unfold zRo at hc2
  exact h p l en R s m args below meth c cells slots Q D cs ad A b H locs ls K (by omega) ho hP (zD σ K.2.2.2.2.2.2.2.2.2.2.2.2.1.1 K.2.2.2.2.2.2.1 K.2.2.2.2.2.2.2.1) hS hl (fun H1 locs1 hP1 hS1 => k.2 p l en R s m args below meth c cells slots Q D cs ad A b H1 locs1 ls K (by unfold zRo; rw [hq]; exact hc) hr (ht ho) hP1 hS1 hl)
/-- a step that writes a local -/
theorem zr_l {st2 : List (Nat × Int)} {Γ2 : List (Nat × Nat)} {e2 : List Int} (k : zRn M pc2 Γ2 e2 st2 σ)
    (h : ∀ (p : Program) (l : Launch) (en : Env) (R : Room) (s : State) (m : MethodId) (args : Array Value) (below : List Frame) (meth : Method) (c : Code) (cells slots : Nat) (Q : State → Prop) (ad : Nat → Nat) (b : Nat) (H : Heap) (locs : List Loc) (ls : Array Slot),
      p.tables.exec = Jvm.exec → c.code = zcc M → lv_has ls (znl M) (zLs ad b Γ e) →
      (∀ ls2 : Array Slot, lv_has ls2 (znl M) (zLs ad b Γ2 e2) → W p l en R s m args below meth c H locs cells slots Q (F0 m pc2 ls2 (zsv ad b st2))) → W p l en R s m args below meth c H locs cells slots Q (F0 m pc ls (zsv ad b st))) : zRn M pc Γ e st σ := by
  refine ⟨k.1, ?_⟩
  intro p l en R s m args below meth c cells slots Q D cs ad A b H locs ls K hc hr ho hP hS hl
  exact h p l en R s m args below meth c cells slots Q ad b H locs ls K.1 K.2.1 hl (fun ls2 hl2 => k.2 p l en R s m args below meth c cells slots Q D cs ad A b H locs ls2 K hc hr ho hP hS hl2)

theorem zr_iconst {n v : Int} (hd : decode (zcc M) pc = .ok (.iconst n, 1)) (hv : n = v) (k : zRn M (pc + 1) Γ e ((0, v) :: st) σ) : zRn M pc Γ e st σ := by
  refine zr_a k (fun p l en R s m args below meth c cells slots Q D cs ad A b H locs ls K hc ho hP hS hl kk => ?_)
  exact lv_iconst K.1 K.2.1 hd (by rw [hv]) kk
theorem zr_bipush {n v : Int} (hd : decode (zcc M) pc = .ok (.bipush n, 2)) (hv : (Int8.ofInt n).toInt32 = Int32.ofInt v) (k : zRn M (pc + 2) Γ e ((0, v) :: st) σ) : zRn M pc Γ e st σ := by
  refine zr_a k (fun p l en R s m args below meth c cells slots Q D cs ad A b H locs ls K hc ho hP hS hl kk => ?_)
  exact lv_bipush K.1 K.2.1 hd hv kk
theorem zr_sipush {n v : Int} (hd : decode (zcc M) pc = .ok (.sipush n, 3)) (hv : (Int16.ofInt n).toInt32 = Int32.ofInt v) (k : zRn M (pc + 3) Γ e ((0, v) :: st) σ) : zRn M pc Γ e st σ := by
  refine zr_a k (fun p l en R s m args below meth c cells slots Q D cs ad A b H locs ls K hc ho hP hS hl kk => ?_)
  exact lv_sipush K.1 K.2.1 hd hv kk
theorem zr_lconst {n : Fin 2} {v : Int} (hd : decode (zcc M) pc = .ok (.lconst n, 1)) (hv : Int64.ofNat (n : Nat) = Int64.ofInt v) (k : zRn M (pc + 1) Γ e ((1, v) :: st) σ) : zRn M pc Γ e st σ := by
  refine zr_a k (fun p l en R s m args below meth c cells slots Q D cs ad A b H locs ls K hc ho hP hS hl kk => ?_)
  exact lv_lconst K.1 K.2.1 hd hv kk
theorem zr_ldc2 {index : Nat} {x : Int64} {v : Int} (hd : decode (zcc M) pc = .ok (.ldc2_w index, 3)) (hw : Cond.constantLong (zown M) index x ∈ zTs M) (hv : x = Int64.ofInt v) (k : zRn M (pc + 3) Γ e ((1, v) :: st) σ) : zRn M pc Γ e st σ := by
  refine zr_a k (fun p l en R s m args below meth c cells slots Q D cs ad A b H locs ls K hc ho hP hS hl kk => ?_)
  subst hv
  exact lv_ldc2 K.1 K.2.1 K.2.2.2.1 (K.2.2.2.2.1 _ hw) hd kk
theorem zr_ldc {index : Nat} {x : Int32} {v : Int} (hd : decode (zcc M) pc = .ok (.ldc index, 2)) (hw : Cond.constant (zown M) index x ∈ zTs M) (hv : x = Int32.ofInt v) (k : zRn M (pc + 2) Γ e ((0, v) :: st) σ) : zRn M pc Γ e st σ := by
  refine zr_a k (fun p l en R s m args below meth c cells slots Q D cs ad A b H locs ls K hc ho hP hS hl kk => ?_)
  subst hv
  exact lv_ldc K.1 K.2.1 K.2.2.2.1 (K.2.2.2.2.1 _ hw) hd kk
theorem zr_ldcw {index : Nat} {x : Int32} {v : Int} (hd : decode (zcc M) pc = .ok (.ldc_w index, 3)) (hw : Cond.constant (zown M) index x ∈ zTs M) (hv : x = Int32.ofInt v) (k : zRn M (pc + 3) Γ e ((0, v) :: st) σ) : zRn M pc Γ e st σ := by
  refine zr_a k (fun p l en R s m args below meth c cells slots Q D cs ad A b H locs ls K hc ho hP hS hl kk => ?_)
  subst hv
  exact lv_ldcw K.1 K.2.1 K.2.2.2.1 (K.2.2.2.2.1 _ hw) hd kk
theorem zr_iload_n {k : Fin 4} {i : Nat} (hd : decode (zcc M) pc = .ok (.iload_n k, 1)) (hi : (k : Nat) = i) (hm : (i, 0) ∈ Γ) (kn : zRn M (pc + 1) Γ e ((0, zg e i) :: st) σ) : zRn M pc Γ e st σ := by
  refine zr_a kn (fun p l en R s m args below meth c cells slots Q D cs ad A b H locs ls K hc ho hP hS hl kk => ?_)
  exact lv_iload_n K.1 K.2.1 hd hi (zLs_at hl hm) kk
theorem zr_iload {i : Nat} (hd : decode (zcc M) pc = .ok (.iload i, 2)) (hm : (i, 0) ∈ Γ) (kn : zRn M (pc + 2) Γ e ((0, zg e i) :: st) σ) : zRn M pc Γ e st σ := by
  refine zr_a kn (fun p l en R s m args below meth c cells slots Q D cs ad A b H locs ls K hc ho hP hS hl kk => ?_)
  exact lv_iload K.1 K.2.1 hd (zLs_at hl hm) kk
theorem zr_lload_n {k : Fin 4} {i : Nat} (hd : decode (zcc M) pc = .ok (.lload_n k, 1)) (hi : (k : Nat) = i) (hm : (i, 1) ∈ Γ) (kn : zRn M (pc + 1) Γ e ((1, zg e i) :: st) σ) : zRn M pc Γ e st σ := by
  refine zr_a kn (fun p l en R s m args below meth c cells slots Q D cs ad A b H locs ls K hc ho hP hS hl kk => ?_)
  exact lv_lload_n K.1 K.2.1 hd hi (zLs_at hl hm) kk
theorem zr_lload {i : Nat} (hd : decode (zcc M) pc = .ok (.lload i, 2)) (hm : (i, 1) ∈ Γ) (kn : zRn M (pc + 2) Γ e ((1, zg e i) :: st) σ) : zRn M pc Γ e st σ := by
  refine zr_a kn (fun p l en R s m args below meth c cells slots Q D cs ad A b H locs ls K hc ho hP hS hl kk => ?_)
  exact lv_lload K.1 K.2.1 hd (zLs_at hl hm) kk
theorem zr_zload_n {k : Fin 4} {i : Nat} (hd : decode (zcc M) pc = .ok (.iload_n k, 1)) (hi : (k : Nat) = i) (hm : (i, 4) ∈ Γ) (kn : zRn M (pc + 1) Γ e ((4, zg e i) :: st) σ) : zRn M pc Γ e st σ := by
  refine zr_a kn (fun p l en R s m args below meth c cells slots Q D cs ad A b H locs ls K hc ho hP hS hl kk => ?_)
  exact lv_iload_n K.1 K.2.1 hd hi (zLs_at hl hm) kk
theorem zr_zload {i : Nat} (hd : decode (zcc M) pc = .ok (.iload i, 2)) (hm : (i, 4) ∈ Γ) (kn : zRn M (pc + 2) Γ e ((4, zg e i) :: st) σ) : zRn M pc Γ e st σ := by
  refine zr_a kn (fun p l en R s m args below meth c cells slots Q D cs ad A b H locs ls K hc ho hP hS hl kk => ?_)
  exact lv_iload K.1 K.2.1 hd (zLs_at hl hm) kk
theorem zV_ref {ad : Nat → Nat} {b t : Nat} {x : Int} (ht : 5 ≤ t) : zV ad b t x = .ref (ad x.toNat) := by
  unfold zV
  split <;> first | rfl | omega
theorem zr_aload_n {k : Fin 4} {i t : Nat} (hd : decode (zcc M) pc = .ok (.aload_n k, 1)) (hi : (k : Nat) = i) (ht : 5 ≤ t) (hm : (i, t) ∈ Γ) (kn : zRn M (pc + 1) Γ e ((t, zg e i) :: st) σ) : zRn M pc Γ e st σ := by
  refine zr_a kn (fun p l en R s m args below meth c cells slots Q D cs ad A b H locs ls K hc ho hP hS hl kk => ?_)
  have h1 := zLs_at hl hm
  rw [zV_ref ht] at h1
  refine lv_aload_n K.1 K.2.1 hd hi h1 ?_
  rw [show (Value.ref (ad (zg e i).toNat)) :: zsv ad b st = zsv ad b ((t, zg e i) :: st) by simp [zsv, zV_ref ht]]
  exact kk
theorem zr_aload {i t : Nat} (hd : decode (zcc M) pc = .ok (.aload i, 2)) (ht : 5 ≤ t) (hm : (i, t) ∈ Γ) (kn : zRn M (pc + 2) Γ e ((t, zg e i) :: st) σ) : zRn M pc Γ e st σ := by
  refine zr_a kn (fun p l en R s m args below meth c cells slots Q D cs ad A b H locs ls K hc ho hP hS hl kk => ?_)
  have h1 := zLs_at hl hm
  rw [zV_ref ht] at h1
  refine lv_aload K.1 K.2.1 hd h1 ?_
  rw [show (Value.ref (ad (zg e i).toNat)) :: zsv ad b st = zsv ad b ((t, zg e i) :: st) by simp [zsv, zV_ref ht]]
  exact kk
theorem zr_saload_n {k : Fin 4} {i : Nat} (hd : decode (zcc M) pc = .ok (.aload_n k, 1)) (hi : (k : Nat) = i) (hm : (i, 3) ∈ Γ) (kn : zRn M (pc + 1) Γ e ((3, 0) :: st) σ) : zRn M pc Γ e st σ := by
  refine zr_a kn (fun p l en R s m args below meth c cells slots Q D cs ad A b H locs ls K hc ho hP hS hl kk => ?_)
  exact lv_aload_n K.1 K.2.1 hd hi (zLs_at hl hm) kk
def zset1 (i t : Nat) (Γ : List (Nat × Nat)) : List (Nat × Nat) := (i, t) :: Γ.filter (fun q => !(q.1 == i) && !(q.1 + 1 == i && zcat q.2 == 2))
def zset2 (i t : Nat) (Γ : List (Nat × Nat)) : List (Nat × Nat) := (i, t) :: Γ.filter (fun q => !(q.1 == i) && (!(q.1 == i + 1) && !(q.1 + 1 == i && zcat q.2 == 2)))
theorem zg_set_self {e : List Int} {i : Nat} {v : Int} (h : i < e.length) : zg (e.set i v) i = v := by
  simp [zg, h]
theorem zg_set_ne {e : List Int} {i j : Nat} {v : Int} (h : j ≠ i) : zg (e.set i v) j = zg e j := by
  simp [zg, List.getElem?_set, Ne.symm h]
theorem zfilter_map {α β : Type} (f : α → β) (P : β → Bool) (P2 : α → Bool) (g : α → β) : ∀ l : List α, (∀ a, P (f a) = P2 a) → (∀ a, P2 a = true → f a = g a) → (l.map f).filter P = (l.filter P2).map g
  | [], _, _ => rfl
  | a :: l, h1, h2 => by
    have ih := zfilter_map f P P2 g l h1 h2
    simp only [List.map_cons, List.filter_cons, h1 a]
    by_cases h : P2 a = true
    · simp [h, ih, h2 a h]
    · simp [h, ih]
theorem zLs_zset1 {ad : Nat → Nat} {b i t : Nat} {Γ : List (Nat × Nat)} {e : List Int} {v : Int} {w : Value} (hi : i < e.length) (hw : zV ad b t v = w) : (i, w) :: (zLs ad b Γ e).filter (fun q => !(q.1 == i) && !(q.1 + 1 == i && q.2.category == 2)) = zLs ad b (zset1 i t Γ) (e.set i v) := by
  unfold zset1 zLs
  rw [List.map_cons, zg_set_self hi, hw]
  congr 1
  refine zfilter_map _ _ _ _ Γ (fun q => ?_) (fun q hq => ?_)
  · simp only [zV_cat]
  · simp only [Bool.and_eq_true, Bool.not_eq_true', beq_eq_false_iff_ne, ne_eq] at hq
    rw [zg_set_ne hq.1]
theorem zLs_zset2 {ad : Nat → Nat} {b i t : Nat} {Γ : List (Nat × Nat)} {e : List Int} {v : Int} {w : Value} (hi : i < e.length) (hw : zV ad b t v = w) : (i, w) :: (zLs ad b Γ e).filter (fun q => !(q.1 == i) && (!(q.1 == i + 1) && !(q.1 + 1 == i && q.2.category == 2))) = zLs ad b (zset2 i t Γ) (e.set i v) := by
  unfold zset2 zLs
  rw [List.map_cons, zg_set_self hi, hw]
  congr 1
  refine zfilter_map _ _ _ _ Γ (fun q => ?_) (fun q hq => ?_)
  · simp only [zV_cat]
  · simp only [Bool.and_eq_true, Bool.not_eq_true', beq_eq_false_iff_ne, ne_eq] at hq
    rw [zg_set_ne hq.1]
theorem zE_set1 {i t : Nat} {v : Int} (h : zE M Γ e) (hi : i < znl M) (hv : inR t v) : zE M (zset1 i t Γ) (e.set i v) := by
  refine ⟨by rw [List.length_set]; exact h.1, fun q hq => ?_⟩
  rcases List.mem_cons.mp hq with rfl | hq
  · rw [zg_set_self (by rw [h.1]; exact hi)]; exact hv
  · obtain ⟨h1, h2⟩ := List.mem_filter.mp hq
    simp only [Bool.and_eq_true, Bool.not_eq_true', beq_eq_false_iff_ne, ne_eq] at h2
    rw [zg_set_ne h2.1]; exact h.2 q h1
theorem zE_set2 {i t : Nat} {v : Int} (h : zE M Γ e) (hi : i < znl M) (hv : inR t v) : zE M (zset2 i t Γ) (e.set i v) := by
  refine ⟨by rw [List.length_set]; exact h.1, fun q hq => ?_⟩
  rcases List.mem_cons.mp hq with rfl | hq
  · rw [zg_set_self (by rw [h.1]; exact hi)]; exact hv
  · obtain ⟨h1, h2⟩ := List.mem_filter.mp hq
    simp only [Bool.and_eq_true, Bool.not_eq_true', beq_eq_false_iff_ne, ne_eq] at h2
    rw [zg_set_ne h2.1]; exact h.2 q h1
theorem zr_istore_n {k : Fin 4} {i : Nat} {v : Int} (hd : decode (zcc M) pc = .ok (.istore_n k, 1)) (hi : (k : Nat) = i) (hn : i < znl M) (he : e.length = znl M) (kn : zRn M (pc + 1) (zset1 i 0 Γ) (e.set i v) st σ) : zRn M pc Γ e ((0, v) :: st) σ := by
  refine zr_l kn (fun p l en R s m args below meth c cells slots Q ad b H locs ls hx hb hl kk => ?_)
  exact lv_istore_n hx hb hd hi hl hn (zLs_zset1 (by omega) (rfl)) kk
theorem zr_istore {i : Nat} {v : Int} (hd : decode (zcc M) pc = .ok (.istore i, 2)) (hn : i < znl M) (he : e.length = znl M) (kn : zRn M (pc + 2) (zset1 i 0 Γ) (e.set i v) st σ) : zRn M pc Γ e ((0, v) :: st) σ := by
  refine zr_l kn (fun p l en R s m args below meth c cells slots Q ad b H locs ls hx hb hl kk => ?_)
  exact lv_istore hx hb hd hl hn (zLs_zset1 (by omega) (rfl)) kk
theorem zr_zstore_n {k : Fin 4} {i : Nat} {v : Int} (hd : decode (zcc M) pc = .ok (.istore_n k, 1)) (hi : (k : Nat) = i) (hn : i < znl M) (he : e.length = znl M) (kn : zRn M (pc + 1) (zset1 i 4 Γ) (e.set i v) st σ) : zRn M pc Γ e ((4, v) :: st) σ := by
  refine zr_l kn (fun p l en R s m args below meth c cells slots Q ad b H locs ls hx hb hl kk => ?_)
  exact lv_istore_n hx hb hd hi hl hn (zLs_zset1 (by omega) (rfl)) kk
theorem zr_zstore {i : Nat} {v : Int} (hd : decode (zcc M) pc = .ok (.istore i, 2)) (hn : i < znl M) (he : e.length = znl M) (kn : zRn M (pc + 2) (zset1 i 4 Γ) (e.set i v) st σ) : zRn M pc Γ e ((4, v) :: st) σ := by
  refine zr_l kn (fun p l en R s m args below meth c cells slots Q ad b H locs ls hx hb hl kk => ?_)
  exact lv_istore hx hb hd hl hn (zLs_zset1 (by omega) (rfl)) kk
theorem zr_lstore_n {k : Fin 4} {i : Nat} {v : Int} (hd : decode (zcc M) pc = .ok (.lstore_n k, 1)) (hi : (k : Nat) = i) (hn : i + 1 < znl M) (he : e.length = znl M) (kn : zRn M (pc + 1) (zset2 i 1 Γ) (e.set i v) st σ) : zRn M pc Γ e ((1, v) :: st) σ := by
  refine zr_l kn (fun p l en R s m args below meth c cells slots Q ad b H locs ls hx hb hl kk => ?_)
  exact lv_lstore_n hx hb hd hi hl hn (zLs_zset2 (by omega) (rfl)) kk
theorem zr_lstore {i : Nat} {v : Int} (hd : decode (zcc M) pc = .ok (.lstore i, 2)) (hn : i + 1 < znl M) (he : e.length = znl M) (kn : zRn M (pc + 2) (zset2 i 1 Γ) (e.set i v) st σ) : zRn M pc Γ e ((1, v) :: st) σ := by
  refine zr_l kn (fun p l en R s m args below meth c cells slots Q ad b H locs ls hx hb hl kk => ?_)
  exact lv_lstore hx hb hd hl hn (zLs_zset2 (by omega) (rfl)) kk
theorem zr_astore_n {k : Fin 4} {i t : Nat} {v : Int} (hd : decode (zcc M) pc = .ok (.astore_n k, 1)) (hi : (k : Nat) = i) (ht : 5 ≤ t) (hn : i < znl M) (he : e.length = znl M) (kn : zRn M (pc + 1) (zset1 i t Γ) (e.set i v) st σ) : zRn M pc Γ e ((t, v) :: st) σ := by
  refine zr_l kn (fun p l en R s m args below meth c cells slots Q ad b H locs ls hx hb hl kk => ?_)
  rw [show zsv ad b ((t, v) :: st) = (Value.ref (ad v.toNat)) :: zsv ad b st by simp [zsv, zV_ref ht]]
  exact lv_astore_n hx hb hd hi hl hn (zLs_zset1 (by omega) (zV_ref ht)) kk
theorem zr_astore {i t : Nat} {v : Int} (hd : decode (zcc M) pc = .ok (.astore i, 2)) (ht : 5 ≤ t) (hn : i < znl M) (he : e.length = znl M) (kn : zRn M (pc + 2) (zset1 i t Γ) (e.set i v) st σ) : zRn M pc Γ e ((t, v) :: st) σ := by
  refine zr_l kn (fun p l en R s m args below meth c cells slots Q ad b H locs ls hx hb hl kk => ?_)
  rw [show zsv ad b ((t, v) :: st) = (Value.ref (ad v.toNat)) :: zsv ad b st by simp [zsv, zV_ref ht]]
  exact lv_astore hx hb hd hl hn (zLs_zset1 (by omega) (zV_ref ht)) kk
theorem zLs_i {ad : Nat → Nat} {b i t : Nat} {e : List Int} : ∀ {Γ : List (Nat × Nat)}, (i, t) ∈ Γ → ∃ k : Nat, (zLs ad b Γ e)[k]? = some (i, zV ad b t (zg e i)) := fun {Γ} h =>
  List.getElem?_of_mem (List.mem_map.mpr ⟨(i, t), h, rfl⟩)
theorem zr_iinc {i : Nat} {n : Int} (hd : decode (zcc M) pc = .ok (.iinc i n, 3)) (hm : (i, 0) ∈ Γ) (hn : i < znl M) (he : e.length = znl M) (kn : zRn M (pc + 3) (zset1 i 0 Γ) (e.set i (w32 (zg e i + n))) st σ) : zRn M pc Γ e st σ := by
  refine zr_l kn (fun p l en R s m args below meth c cells slots Q ad b H locs ls hx hb hl kk => ?_)
  obtain ⟨k, hk⟩ := zLs_i (ad := ad) (b := b) (e := e) hm
  refine lv_iinc hx hb hd hl hk (v := Int32.ofInt (w32 (zg e i + n))) (by rw [z32_w, Int32.ofInt_add]) hn (zLs_zset1 (t := 0) (by omega) rfl) kk
theorem zr_iadd {x y : Int} (hd : decode (zcc M) pc = .ok (.iadd, 1)) (k : zRn M (pc + 1) Γ e ((0, w32 (x + y)) :: st) σ) : zRn M pc Γ e ((0, y) :: (0, x) :: st) σ := by
  refine zr_a k (fun p l en R s m args below meth c cells slots Q D cs ad A b H locs ls K hc ho hP hS hl kk => ?_)
  have h : Int32.ofInt x + Int32.ofInt y = Int32.ofInt (w32 (x + y)) := by rw [z32_w, Int32.ofInt_add]
  show W p l en R s m args below meth c H locs cells slots Q (F0 m pc ls (Value.int (Int32.ofInt y) :: Value.int (Int32.ofInt x) :: zsv ad b st))
  refine lv_iadd K.1 K.2.1 hd ?_
  (try rw [h])
  exact kk
theorem zr_isub {x y : Int} (hd : decode (zcc M) pc = .ok (.isub, 1)) (k : zRn M (pc + 1) Γ e ((0, w32 (x - y)) :: st) σ) : zRn M pc Γ e ((0, y) :: (0, x) :: st) σ := by
  refine zr_a k (fun p l en R s m args below meth c cells slots Q D cs ad A b H locs ls K hc ho hP hS hl kk => ?_)
  have h : Int32.ofInt x - Int32.ofInt y = Int32.ofInt (w32 (x - y)) := by rw [z32_w, Int32.ofInt_sub]
  show W p l en R s m args below meth c H locs cells slots Q (F0 m pc ls (Value.int (Int32.ofInt y) :: Value.int (Int32.ofInt x) :: zsv ad b st))
  refine lv_isub K.1 K.2.1 hd ?_
  (try rw [h])
  exact kk
theorem zr_imul {x y : Int} (hd : decode (zcc M) pc = .ok (.imul, 1)) (k : zRn M (pc + 1) Γ e ((0, w32 (x * y)) :: st) σ) : zRn M pc Γ e ((0, y) :: (0, x) :: st) σ := by
  refine zr_a k (fun p l en R s m args below meth c cells slots Q D cs ad A b H locs ls K hc ho hP hS hl kk => ?_)
  have h : Int32.ofInt x * Int32.ofInt y = Int32.ofInt (w32 (x * y)) := by rw [z32_w, Int32.ofInt_mul]
  show W p l en R s m args below meth c H locs cells slots Q (F0 m pc ls (Value.int (Int32.ofInt y) :: Value.int (Int32.ofInt x) :: zsv ad b st))
  refine lv_imul K.1 K.2.1 hd ?_
  (try rw [h])
  exact kk
theorem zr_ladd {x y : Int} (hd : decode (zcc M) pc = .ok (.ladd, 1)) (k : zRn M (pc + 1) Γ e ((1, w64 (x + y)) :: st) σ) : zRn M pc Γ e ((1, y) :: (1, x) :: st) σ := by
  refine zr_a k (fun p l en R s m args below meth c cells slots Q D cs ad A b H locs ls K hc ho hP hS hl kk => ?_)
  have h : Int64.ofInt x + Int64.ofInt y = Int64.ofInt (w64 (x + y)) := by rw [z64_w, Int64.ofInt_add]
  show W p l en R s m args below meth c H locs cells slots Q (F0 m pc ls (Value.long (Int64.ofInt y) :: Value.long (Int64.ofInt x) :: zsv ad b st))
  refine lv_ladd K.1 K.2.1 hd ?_
  (try rw [h])
  exact kk
theorem zr_lsub {x y : Int} (hd : decode (zcc M) pc = .ok (.lsub, 1)) (k : zRn M (pc + 1) Γ e ((1, w64 (x - y)) :: st) σ) : zRn M pc Γ e ((1, y) :: (1, x) :: st) σ := by
  refine zr_a k (fun p l en R s m args below meth c cells slots Q D cs ad A b H locs ls K hc ho hP hS hl kk => ?_)
  have h : Int64.ofInt x - Int64.ofInt y = Int64.ofInt (w64 (x - y)) := by rw [z64_w, Int64.ofInt_sub]
  show W p l en R s m args below meth c H locs cells slots Q (F0 m pc ls (Value.long (Int64.ofInt y) :: Value.long (Int64.ofInt x) :: zsv ad b st))
  refine lv_lsub K.1 K.2.1 hd ?_
  (try rw [h])
  exact kk
theorem zr_lmul {x y : Int} (hd : decode (zcc M) pc = .ok (.lmul, 1)) (k : zRn M (pc + 1) Γ e ((1, w64 (x * y)) :: st) σ) : zRn M pc Γ e ((1, y) :: (1, x) :: st) σ := by
  refine zr_a k (fun p l en R s m args below meth c cells slots Q D cs ad A b H locs ls K hc ho hP hS hl kk => ?_)
  have h : Int64.ofInt x * Int64.ofInt y = Int64.ofInt (w64 (x * y)) := by rw [z64_w, Int64.ofInt_mul]
  show W p l en R s m args below meth c H locs cells slots Q (F0 m pc ls (Value.long (Int64.ofInt y) :: Value.long (Int64.ofInt x) :: zsv ad b st))
  refine lv_lmul K.1 K.2.1 hd ?_
  (try rw [h])
  exact kk
def zAnd (x y : Int) : Int := (Int32.ofInt x &&& Int32.ofInt y).toInt
def zOr (x y : Int) : Int := (Int32.ofInt x ||| Int32.ofInt y).toInt
def zXor (x y : Int) : Int := (Int32.ofInt x ^^^ Int32.ofInt y).toInt
def zShl (x y : Int) : Int := (Int32.ofInt x <<< (Int32.ofInt y &&& 31)).toInt
def zShr (x y : Int) : Int := (Int32.ofInt x >>> (Int32.ofInt y &&& 31)).toInt
def zUshr (x y : Int) : Int := ((Int32.ofInt x).toUInt32 >>> ((Int32.ofInt y).toUInt32 &&& Int32.toUInt32 31)).toInt32.toInt
def zLshr (x y : Int) : Int := (Int64.ofInt x >>> ((Int32.ofInt y).toInt64 &&& 63)).toInt
theorem zr_iand {x y : Int} (hd : decode (zcc M) pc = .ok (.iand, 1)) (k : zRn M (pc + 1) Γ e ((0, zAnd x y) :: st) σ) : zRn M pc Γ e ((0, y) :: (0, x) :: st) σ := by
  refine zr_a k (fun p l en R s m args below meth c cells slots Q D cs ad A b H locs ls K hc ho hP hS hl kk => ?_)
  have h : Int32.ofInt x &&& Int32.ofInt y = Int32.ofInt (zAnd x y) := by unfold zAnd; rw [Int32.ofInt_toInt]
  show W p l en R s m args below meth c H locs cells slots Q (F0 m pc ls (Value.int (Int32.ofInt y) :: Value.int (Int32.ofInt x) :: zsv ad b st))
  refine lv_iand K.1 K.2.1 hd ?_
  (try rw [h])
  exact kk
theorem zr_ior {x y : Int} (hd : decode (zcc M) pc = .ok (.ior, 1)) (k : zRn M (pc + 1) Γ e ((0, zOr x y) :: st) σ) : zRn M pc Γ e ((0, y) :: (0, x) :: st) σ := by
  refine zr_a k (fun p l en R s m args below meth c cells slots Q D cs ad A b H locs ls K hc ho hP hS hl kk => ?_)
  have h : Int32.ofInt x ||| Int32.ofInt y = Int32.ofInt (zOr x y) := by unfold zOr; rw [Int32.ofInt_toInt]
  show W p l en R s m args below meth c H locs cells slots Q (F0 m pc ls (Value.int (Int32.ofInt y) :: Value.int (Int32.ofInt x) :: zsv ad b st))
  refine lv_ior K.1 K.2.1 hd ?_
  (try rw [h])
  exact kk
theorem zr_ixor {x y : Int} (hd : decode (zcc M) pc = .ok (.ixor, 1)) (k : zRn M (pc + 1) Γ e ((0, zXor x y) :: st) σ) : zRn M pc Γ e ((0, y) :: (0, x) :: st) σ := by
  refine zr_a k (fun p l en R s m args below meth c cells slots Q D cs ad A b H locs ls K hc ho hP hS hl kk => ?_)
  have h : Int32.ofInt x ^^^ Int32.ofInt y = Int32.ofInt (zXor x y) := by unfold zXor; rw [Int32.ofInt_toInt]
  show W p l en R s m args below meth c H locs cells slots Q (F0 m pc ls (Value.int (Int32.ofInt y) :: Value.int (Int32.ofInt x) :: zsv ad b st))
  refine lv_ixor K.1 K.2.1 hd ?_
  (try rw [h])
  exact kk
theorem zr_ishl {x y : Int} (hd : decode (zcc M) pc = .ok (.ishl, 1)) (k : zRn M (pc + 1) Γ e ((0, zShl x y) :: st) σ) : zRn M pc Γ e ((0, y) :: (0, x) :: st) σ := by
  refine zr_a k (fun p l en R s m args below meth c cells slots Q D cs ad A b H locs ls K hc ho hP hS hl kk => ?_)
  have h : Int32.ofInt x <<< (Int32.ofInt y &&& 31) = Int32.ofInt (zShl x y) := by unfold zShl; rw [Int32.ofInt_toInt]
  show W p l en R s m args below meth c H locs cells slots Q (F0 m pc ls (Value.int (Int32.ofInt y) :: Value.int (Int32.ofInt x) :: zsv ad b st))
  refine lv_ishl K.1 K.2.1 hd ?_
  (try rw [h])
  exact kk
theorem zr_ishr {x y : Int} (hd : decode (zcc M) pc = .ok (.ishr, 1)) (k : zRn M (pc + 1) Γ e ((0, zShr x y) :: st) σ) : zRn M pc Γ e ((0, y) :: (0, x) :: st) σ := by
  refine zr_a k (fun p l en R s m args below meth c cells slots Q D cs ad A b H locs ls K hc ho hP hS hl kk => ?_)
  have h : Int32.ofInt x >>> (Int32.ofInt y &&& 31) = Int32.ofInt (zShr x y) := by unfold zShr; rw [Int32.ofInt_toInt]
  show W p l en R s m args below meth c H locs cells slots Q (F0 m pc ls (Value.int (Int32.ofInt y) :: Value.int (Int32.ofInt x) :: zsv ad b st))
  refine lv_ishr K.1 K.2.1 hd ?_
  (try rw [h])
  exact kk
theorem zr_iushr {x y : Int} (hd : decode (zcc M) pc = .ok (.iushr, 1)) (k : zRn M (pc + 1) Γ e ((0, zUshr x y) :: st) σ) : zRn M pc Γ e ((0, y) :: (0, x) :: st) σ := by
  refine zr_a k (fun p l en R s m args below meth c cells slots Q D cs ad A b H locs ls K hc ho hP hS hl kk => ?_)
  show W p l en R s m args below meth c H locs cells slots Q (F0 m pc ls (Value.int (Int32.ofInt y) :: Value.int (Int32.ofInt x) :: zsv ad b st))
  exact lv_iushr K.1 K.2.1 hd (v := Int32.ofInt (zUshr x y)) (by unfold zUshr; rw [Int32.ofInt_toInt]) kk
theorem zr_lshr {x y : Int} (hd : decode (zcc M) pc = .ok (.lshr, 1)) (k : zRn M (pc + 1) Γ e ((1, zLshr x y) :: st) σ) : zRn M pc Γ e ((0, y) :: (1, x) :: st) σ := by
  refine zr_a k (fun p l en R s m args below meth c cells slots Q D cs ad A b H locs ls K hc ho hP hS hl kk => ?_)
  show W p l en R s m args below meth c H locs cells slots Q (F0 m pc ls (Value.int (Int32.ofInt y) :: Value.long (Int64.ofInt x) :: zsv ad b st))
  exact lv_lshr K.1 K.2.1 hd (v := Int64.ofInt (zLshr x y)) (by unfold zLshr; rw [Int64.ofInt_toInt]) kk
def zdiv (x y : Int) : Int := w32 (x.tdiv y)
def zmod (x y : Int) : Int := x.tmod y
def zldiv (x y : Int) : Int := w64 (x.tdiv y)
theorem z_idiv {x y : Int} (hx : r32 x) (hy : r32 y) : Int32.ofInt x / Int32.ofInt y = Int32.ofInt (zdiv x y) := by
  apply Int32.toInt_inj.mp
  rw [Int32.toInt_div, z32_ti hx, z32_ti hy, zdiv, z32_w, Int32.toInt_ofInt]
theorem z_ldiv {x y : Int} (hx : r64 x) (hy : r64 y) : Int64.ofInt x / Int64.ofInt y = Int64.ofInt (zldiv x y) := by
  apply Int64.toInt_inj.mp
  rw [Int64.toInt_div, z64_ti hx, z64_ti hy, zldiv, z64_w, Int64.toInt_ofInt]
theorem z_irem {x y : Int} (hx : r32 x) (hy : r32 y) : Int32.ofInt x % Int32.ofInt y = Int32.ofInt (zmod x y) := by
  rw [← Int32.ofInt_toInt (Int32.ofInt x % Int32.ofInt y), Int32.toInt_mod, z32_ti hx, z32_ti hy]; rfl
theorem z_irem2 {x y : Int} (hx : r32 x) (hy : r32 y) : Int32.ofInt x - Int32.ofInt x / Int32.ofInt y * Int32.ofInt y = Int32.ofInt (zmod x y) := by
  rw [z_idiv hx hy, zdiv, z32_w, ← Int32.ofInt_mul, ← Int32.ofInt_sub]
  congr 1
  have := Int.tdiv_mul_add_tmod x y
  unfold zmod
  omega
theorem z_lrem2 {x y : Int} (hx : r64 x) (hy : r64 y) : Int64.ofInt x - Int64.ofInt x / Int64.ofInt y * Int64.ofInt y = Int64.ofInt (zmod x y) := by
  rw [z_ldiv hx hy, zldiv, z64_w, ← Int64.ofInt_mul, ← Int64.ofInt_sub]
  congr 1
  have := Int.tdiv_mul_add_tmod x y
  unfold zmod
  omega
theorem z_lrem {x y : Int} (hx : r64 x) (hy : r64 y) : Int64.ofInt x % Int64.ofInt y = Int64.ofInt (zmod x y) := by
  rw [← Int64.ofInt_toInt (Int64.ofInt x % Int64.ofInt y), Int64.toInt_mod, z64_ti hx, z64_ti hy]; rfl
theorem z32_n0 {y : Int} (hy : r32 y) (h : y ≠ 0) : ¬ Int32.ofInt y = 0 := fun q => h ((z32_eq hy (by unfold r32; omega)).mp q)
theorem z64_n0 {y : Int} (hy : r64 y) (h : y ≠ 0) : ¬ Int64.ofInt y = 0 := fun q => h ((z64_eq hy (by unfold r64; omega)).mp q)
theorem zr_idiv {x y : Int} (hx : r32 x) (hy : r32 y) (h0 : y ≠ 0) (hd : decode (zcc M) pc = .ok (.idiv, 1)) (k : zRn M (pc + 1) Γ e ((0, zdiv x y) :: st) σ) : zRn M pc Γ e ((0, y) :: (0, x) :: st) σ := by
  refine zr_a k (fun p l en R s m args below meth c cells slots Q D cs ad A b H locs ls K hc ho hP hS hl kk => ?_)
  show W p l en R s m args below meth c H locs cells slots Q (F0 m pc ls (Value.int (Int32.ofInt y) :: Value.int (Int32.ofInt x) :: zsv ad b st))
  refine lv_idiv K.1 K.2.1 hd (z32_n0 hy h0) ?_
  rw [z_idiv hx hy]
  exact kk
theorem zr_irem {x y : Int} (hx : r32 x) (hy : r32 y) (h0 : y ≠ 0) (hd : decode (zcc M) pc = .ok (.irem, 1)) (k : zRn M (pc + 1) Γ e ((0, zmod x y) :: st) σ) : zRn M pc Γ e ((0, y) :: (0, x) :: st) σ := by
  refine zr_a k (fun p l en R s m args below meth c cells slots Q D cs ad A b H locs ls K hc ho hP hS hl kk => ?_)
  show W p l en R s m args below meth c H locs cells slots Q (F0 m pc ls (Value.int (Int32.ofInt y) :: Value.int (Int32.ofInt x) :: zsv ad b st))
  refine lv_irem K.1 K.2.1 hd (z32_n0 hy h0) ?_
  rw [z_irem2 hx hy]
  exact kk
theorem zr_ldiv {x y : Int} (hx : r64 x) (hy : r64 y) (h0 : y ≠ 0) (hd : decode (zcc M) pc = .ok (.ldiv, 1)) (k : zRn M (pc + 1) Γ e ((1, zldiv x y) :: st) σ) : zRn M pc Γ e ((1, y) :: (1, x) :: st) σ := by
  refine zr_a k (fun p l en R s m args below meth c cells slots Q D cs ad A b H locs ls K hc ho hP hS hl kk => ?_)
  show W p l en R s m args below meth c H locs cells slots Q (F0 m pc ls (Value.long (Int64.ofInt y) :: Value.long (Int64.ofInt x) :: zsv ad b st))
  refine lv_ldiv K.1 K.2.1 hd (z64_n0 hy h0) ?_
  rw [z_ldiv hx hy]
  exact kk
theorem zr_lrem {x y : Int} (hx : r64 x) (hy : r64 y) (h0 : y ≠ 0) (hd : decode (zcc M) pc = .ok (.lrem, 1)) (k : zRn M (pc + 1) Γ e ((1, zmod x y) :: st) σ) : zRn M pc Γ e ((1, y) :: (1, x) :: st) σ := by
  refine zr_a k (fun p l en R s m args below meth c cells slots Q D cs ad A b H locs ls K hc ho hP hS hl kk => ?_)
  show W p l en R s m args below meth c H locs cells slots Q (F0 m pc ls (Value.long (Int64.ofInt y) :: Value.long (Int64.ofInt x) :: zsv ad b st))
  refine lv_lrem K.1 K.2.1 hd (z64_n0 hy h0) ?_
  rw [z_lrem2 hx hy]
  exact kk
def zneg (x : Int) : Int := w32 (-x)
theorem zr_ineg {x : Int} (hd : decode (zcc M) pc = .ok (.ineg, 1)) (k : zRn M (pc + 1) Γ e ((0, zneg x) :: st) σ) : zRn M pc Γ e ((0, x) :: st) σ := by
  refine zr_a k (fun p l en R s m args below meth c cells slots Q D cs ad A b H locs ls K hc ho hP hS hl kk => ?_)
  have h : -Int32.ofInt x = Int32.ofInt (zneg x) := by unfold zneg; rw [z32_w, Int32.ofInt_neg]
  show W p l en R s m args below meth c H locs cells slots Q (F0 m pc ls (Value.int (Int32.ofInt x) :: zsv ad b st))
  refine lv_ineg K.1 K.2.1 hd ?_
  (first | rw [h] | rw [show 0 - Int32.ofInt x = Int32.ofInt (zneg x) by rw [← h]; simp])
  exact kk
theorem zr_i2l {x : Int} (hx : r32 x) (hd : decode (zcc M) pc = .ok (.i2l, 1)) (k : zRn M (pc + 1) Γ e ((1, x) :: st) σ) : zRn M pc Γ e ((0, x) :: st) σ := by
  refine zr_a k (fun p l en R s m args below meth c cells slots Q D cs ad A b H locs ls K hc ho hP hS hl kk => ?_)
  exact lv_i2l K.1 K.2.1 hd (v := Int64.ofInt x) (by apply Int64.toInt_inj.mp; rw [Int32.toInt_toInt64, z32_ti hx, z64_ti ⟨by have := hx.1; omega, by have := hx.2; omega⟩]) kk
def zi2b (x : Int) : Int := (Int32.ofInt x).toInt8.toInt
def zi2s (x : Int) : Int := (Int32.ofInt x).toInt16.toInt
theorem zr_i2b {x : Int} (hd : decode (zcc M) pc = .ok (.i2b, 1)) (k : zRn M (pc + 1) Γ e ((0, zi2b x) :: st) σ) : zRn M pc Γ e ((0, x) :: st) σ := by
  refine zr_a k (fun p l en R s m args below meth c cells slots Q D cs ad A b H locs ls K hc ho hP hS hl kk => ?_)
  exact lv_i2b K.1 K.2.1 hd (v := Int32.ofInt (zi2b x)) (by apply Int32.toInt_inj.mp; rw [Int8.toInt_toInt32]; unfold zi2b; rw [z32_ti]; have h1 := (Int32.ofInt x).toInt8.le_toInt; have h2 := (Int32.ofInt x).toInt8.toInt_lt; unfold r32; omega) kk
theorem zr_i2s {x : Int} (hd : decode (zcc M) pc = .ok (.i2s, 1)) (k : zRn M (pc + 1) Γ e ((0, zi2s x) :: st) σ) : zRn M pc Γ e ((0, x) :: st) σ := by
  refine zr_a k (fun p l en R s m args below meth c cells slots Q D cs ad A b H locs ls K hc ho hP hS hl kk => ?_)
  exact lv_i2s K.1 K.2.1 hd (v := Int32.ofInt (zi2s x)) (by apply Int32.toInt_inj.mp; rw [Int16.toInt_toInt32]; unfold zi2s; rw [z32_ti]; have h1 := (Int32.ofInt x).toInt16.le_toInt; have h2 := (Int32.ofInt x).toInt16.toInt_lt; unfold r32; omega) kk
theorem zr_pop {t : Nat} {x : Int} (ht : zcat t = 1) (hd : decode (zcc M) pc = .ok (.pop, 1)) (k : zRn M (pc + 1) Γ e st σ) : zRn M pc Γ e ((t, x) :: st) σ := by
  refine zr_a k (fun p l en R s m args below meth c cells slots Q D cs ad A b H locs ls K hc ho hP hS hl kk => ?_)
  exact lv_pop K.1 K.2.1 hd (by rw [zV_cat, ht]) kk
theorem zr_pop2 {t : Nat} {x : Int} (ht : zcat t = 2) (hd : decode (zcc M) pc = .ok (.pop2, 1)) (k : zRn M (pc + 1) Γ e st σ) : zRn M pc Γ e ((t, x) :: st) σ := by
  refine zr_a k (fun p l en R s m args below meth c cells slots Q D cs ad A b H locs ls K hc ho hP hS hl kk => ?_)
  exact lv_pop2_2 K.1 K.2.1 hd (by rw [zV_cat, ht]) kk
theorem zr_dup {t : Nat} {x : Int} (ht : zcat t = 1) (hd : decode (zcc M) pc = .ok (.dup, 1)) (k : zRn M (pc + 1) Γ e ((t, x) :: (t, x) :: st) σ) : zRn M pc Γ e ((t, x) :: st) σ := by
  refine zr_a k (fun p l en R s m args below meth c cells slots Q D cs ad A b H locs ls K hc ho hP hS hl kk => ?_)
  exact lv_dup K.1 K.2.1 hd (by rw [zV_cat, ht]) kk
theorem zr_dup2 {t t2 : Nat} {x y : Int} (ht : zcat t = 1) (ht2 : zcat t2 = 1) (hd : decode (zcc M) pc = .ok (.dup2, 1)) (k : zRn M (pc + 1) Γ e ((t, x) :: (t2, y) :: (t, x) :: (t2, y) :: st) σ) : zRn M pc Γ e ((t, x) :: (t2, y) :: st) σ := by
  refine zr_a k (fun p l en R s m args below meth c cells slots Q D cs ad A b H locs ls K hc ho hP hS hl kk => ?_)
  exact lv_dup2_11 K.1 K.2.1 hd (by rw [zV_cat, ht]) (by rw [zV_cat, ht2]) kk
theorem zr_goto {off : Int} {tgt : Nat} (hd : decode (zcc M) pc = .ok (.goto off, 3)) (ht : (pc : Int) + off = (tgt : Int)) (k : zRn M tgt Γ e st σ) : zRn M pc Γ e st σ := by
  refine zr_a k (fun p l en R s m args below meth c cells slots Q D cs ad A b H locs ls K hc ho hP hS hl kk => ?_)
  exact lv_goto K.1 K.2.1 hd ht kk
theorem zr_br {st2 : List (Nat × Int)} {P : Prop} (h1 : P → zRn M pc2 Γ e st2 σ) {pc3 : Nat} (h2 : ¬ P → zRn M pc3 Γ e st2 σ)
    (h : ∀ (p : Program) (l : Launch) (en : Env) (R : Room) (s : State) (m : MethodId) (args : Array Value) (below : List Frame) (meth : Method) (c : Code) (cells slots : Nat) (Q : State → Prop) (ad : Nat → Nat) (b : Nat) (H : Heap) (locs : List Loc) (ls : Array Slot),
      p.tables.exec = Jvm.exec → c.code = zcc M →
      (P → W p l en R s m args below meth c H locs cells slots Q (F0 m pc2 ls (zsv ad b st2))) → (¬ P → W p l en R s m args below meth c H locs cells slots Q (F0 m pc3 ls (zsv ad b st2))) → W p l en R s m args below meth c H locs cells slots Q (F0 m pc ls (zsv ad b st))) : zRn M pc Γ e st σ := by
  refine ⟨by
    by_cases q : P
    · exact (h1 q).1
    · exact (h2 q).1, ?_⟩
  intro p l en R s m args below meth c cells slots Q D cs ad A b H locs ls K hc hr ho hP hS hl
  exact h p l en R s m args below meth c cells slots Q ad b H locs ls K.1 K.2.1 (fun q => (h1 q).2 p l en R s m args below meth c cells slots Q D cs ad A b H locs ls K hc hr ho hP hS hl) (fun q => (h2 q).2 p l en R s m args below meth c cells slots Q D cs ad A b H locs ls K hc hr ho hP hS hl)
theorem z32_00 : r32 0 := by unfold r32; omega
theorem zr_icmp_eq {x y off : Int} {tgt : Nat} (hx : r32 x) (hy : r32 y) (hd : decode (zcc M) pc = .ok (.if_icmp .eq off, 3)) (ht : (pc : Int) + off = (tgt : Int)) (h1 : x = y → zRn M tgt Γ e st σ) (h2 : ¬ (x = y) → zRn M (pc + 3) Γ e st σ) : zRn M pc Γ e ((0, y) :: (0, x) :: st) σ := by
  refine zr_br h1 h2 (fun p l en R s m args below meth c cells slots Q ad b H locs ls hex hb k1 k2 => ?_)
  show W p l en R s m args below meth c H locs cells slots Q (F0 m pc ls (Value.int (Int32.ofInt y) :: Value.int (Int32.ofInt x) :: zsv ad b st))
  have i := z32_eq hx hy
  exact lv_icmp_eq hex hb hd ht (fun q => k1 (i.mp q)) (fun q => k2 (fun z => q (i.mpr z)))
theorem zr_if_eq {x off : Int} {tgt : Nat} (hx : r32 x) (hd : decode (zcc M) pc = .ok (.ifCond .eq off, 3)) (ht : (pc : Int) + off = (tgt : Int)) (h1 : x = 0 → zRn M tgt Γ e st σ) (h2 : ¬ (x = 0) → zRn M (pc + 3) Γ e st σ) : zRn M pc Γ e ((0, x) :: st) σ := by
  refine zr_br h1 h2 (fun p l en R s m args below meth c cells slots Q ad b H locs ls hex hb k1 k2 => ?_)
  show W p l en R s m args below meth c H locs cells slots Q (F0 m pc ls (Value.int (Int32.ofInt x) :: zsv ad b st))
  have i := z32_eq hx z32_00
  exact lv_if_eq hex hb hd ht (fun q => k1 (i.mp q)) (fun q => k2 (fun z => q (i.mpr z)))
theorem z64_le {x y : Int} (hx : r64 x) (hy : r64 y) : Int64.ofInt x ≤ Int64.ofInt y ↔ x ≤ y := by
  rw [Int64.le_iff_toInt_le, z64_ti hx, z64_ti hy]
theorem zr_lcmp_eq {x y off : Int} {tgt : Nat} (hx : r64 x) (hy : r64 y) (hd0 : decode (zcc M) pc = .ok (.lcmp, 1)) (hd : decode (zcc M) (pc + 1) = .ok (.ifCond .eq off, 3)) (ht : ((pc + 1 : Nat) : Int) + off = (tgt : Int)) (h1 : x = y → zRn M tgt Γ e st σ) (h2 : ¬ (x = y) → zRn M (pc + 4) Γ e st σ) : zRn M pc Γ e ((1, y) :: (1, x) :: st) σ := by
  refine zr_br h1 h2 (fun p l en R s m args below meth c cells slots Q ad b H locs ls hex hb k1 k2 => ?_)
  show W p l en R s m args below meth c H locs cells slots Q (F0 m pc ls (Value.long (Int64.ofInt y) :: Value.long (Int64.ofInt x) :: zsv ad b st))
  have i := (lg_cmp_eq (Int64.ofInt x) (Int64.ofInt y)).trans (z64_eq hx hy)
  refine W.lcmp hex hb hd0 ?_
  exact lv_if_eq hex hb hd ht (fun q => k1 (i.mp q)) (fun q => k2 (fun z => q (i.mpr z)))
theorem zr_icmp_ne {x y off : Int} {tgt : Nat} (hx : r32 x) (hy : r32 y) (hd : decode (zcc M) pc = .ok (.if_icmp .ne off, 3)) (ht : (pc : Int) + off = (tgt : Int)) (h1 : ¬ x = y → zRn M tgt Γ e st σ) (h2 : ¬ (¬ x = y) → zRn M (pc + 3) Γ e st σ) : zRn M pc Γ e ((0, y) :: (0, x) :: st) σ := by
  refine zr_br h1 h2 (fun p l en R s m args below meth c cells slots Q ad b H locs ls hex hb k1 k2 => ?_)
  show W p l en R s m args below meth c H locs cells slots Q (F0 m pc ls (Value.int (Int32.ofInt y) :: Value.int (Int32.ofInt x) :: zsv ad b st))
  have i := not_congr (z32_eq hx hy)
  exact lv_icmp_ne hex hb hd ht (fun q => k1 (i.mp q)) (fun q => k2 (fun z => (i.mpr z) q))
theorem zr_if_ne {x off : Int} {tgt : Nat} (hx : r32 x) (hd : decode (zcc M) pc = .ok (.ifCond .ne off, 3)) (ht : (pc : Int) + off = (tgt : Int)) (h1 : ¬ x = 0 → zRn M tgt Γ e st σ) (h2 : ¬ (¬ x = 0) → zRn M (pc + 3) Γ e st σ) : zRn M pc Γ e ((0, x) :: st) σ := by
  refine zr_br h1 h2 (fun p l en R s m args below meth c cells slots Q ad b H locs ls hex hb k1 k2 => ?_)
  show W p l en R s m args below meth c H locs cells slots Q (F0 m pc ls (Value.int (Int32.ofInt x) :: zsv ad b st))
  have i := not_congr (z32_eq hx z32_00)
  exact lv_if_ne hex hb hd ht (fun q => k1 (i.mp q)) (fun q => k2 (fun z => (i.mpr z) q))
theorem zr_lcmp_ne {x y off : Int} {tgt : Nat} (hx : r64 x) (hy : r64 y) (hd0 : decode (zcc M) pc = .ok (.lcmp, 1)) (hd : decode (zcc M) (pc + 1) = .ok (.ifCond .ne off, 3)) (ht : ((pc + 1 : Nat) : Int) + off = (tgt : Int)) (h1 : ¬ x = y → zRn M tgt Γ e st σ) (h2 : ¬ (¬ x = y) → zRn M (pc + 4) Γ e st σ) : zRn M pc Γ e ((1, y) :: (1, x) :: st) σ := by
  refine zr_br h1 h2 (fun p l en R s m args below meth c cells slots Q ad b H locs ls hex hb k1 k2 => ?_)
  show W p l en R s m args below meth c H locs cells slots Q (F0 m pc ls (Value.long (Int64.ofInt y) :: Value.long (Int64.ofInt x) :: zsv ad b st))
  have i := not_congr ((lg_cmp_eq (Int64.ofInt x) (Int64.ofInt y)).trans (z64_eq hx hy))
  refine W.lcmp hex hb hd0 ?_
  exact lv_if_ne hex hb hd ht (fun q => k1 (i.mp q)) (fun q => k2 (fun z => (i.mpr z) q))
theorem zr_icmp_lt {x y off : Int} {tgt : Nat} (hx : r32 x) (hy : r32 y) (hd : decode (zcc M) pc = .ok (.if_icmp .lt off, 3)) (ht : (pc : Int) + off = (tgt : Int)) (h1 : x < y → zRn M tgt Γ e st σ) (h2 : ¬ (x < y) → zRn M (pc + 3) Γ e st σ) : zRn M pc Γ e ((0, y) :: (0, x) :: st) σ := by
  refine zr_br h1 h2 (fun p l en R s m args below meth c cells slots Q ad b H locs ls hex hb k1 k2 => ?_)
  show W p l en R s m args below meth c H locs cells slots Q (F0 m pc ls (Value.int (Int32.ofInt y) :: Value.int (Int32.ofInt x) :: zsv ad b st))
  have i := z32_lt hx hy
  exact lv_icmp_lt hex hb hd ht (fun q => k1 (i.mp q)) (fun q => k2 (fun z => q (i.mpr z)))
theorem zr_if_lt {x off : Int} {tgt : Nat} (hx : r32 x) (hd : decode (zcc M) pc = .ok (.ifCond .lt off, 3)) (ht : (pc : Int) + off = (tgt : Int)) (h1 : x < 0 → zRn M tgt Γ e st σ) (h2 : ¬ (x < 0) → zRn M (pc + 3) Γ e st σ) : zRn M pc Γ e ((0, x) :: st) σ := by
  refine zr_br h1 h2 (fun p l en R s m args below meth c cells slots Q ad b H locs ls hex hb k1 k2 => ?_)
  show W p l en R s m args below meth c H locs cells slots Q (F0 m pc ls (Value.int (Int32.ofInt x) :: zsv ad b st))
  have i := z32_lt hx z32_00
  exact lv_if_lt hex hb hd ht (fun q => k1 (i.mp q)) (fun q => k2 (fun z => q (i.mpr z)))
theorem zr_lcmp_lt {x y off : Int} {tgt : Nat} (hx : r64 x) (hy : r64 y) (hd0 : decode (zcc M) pc = .ok (.lcmp, 1)) (hd : decode (zcc M) (pc + 1) = .ok (.ifCond .lt off, 3)) (ht : ((pc + 1 : Nat) : Int) + off = (tgt : Int)) (h1 : x < y → zRn M tgt Γ e st σ) (h2 : ¬ (x < y) → zRn M (pc + 4) Γ e st σ) : zRn M pc Γ e ((1, y) :: (1, x) :: st) σ := by
  refine zr_br h1 h2 (fun p l en R s m args below meth c cells slots Q ad b H locs ls hex hb k1 k2 => ?_)
  show W p l en R s m args below meth c H locs cells slots Q (F0 m pc ls (Value.long (Int64.ofInt y) :: Value.long (Int64.ofInt x) :: zsv ad b st))
  have i := (lg_cmp_lt (Int64.ofInt x) (Int64.ofInt y)).trans (z64_lt hx hy)
  refine W.lcmp hex hb hd0 ?_
  exact lv_if_lt hex hb hd ht (fun q => k1 (i.mp q)) (fun q => k2 (fun z => q (i.mpr z)))
theorem zr_icmp_ge {x y off : Int} {tgt : Nat} (hx : r32 x) (hy : r32 y) (hd : decode (zcc M) pc = .ok (.if_icmp .ge off, 3)) (ht : (pc : Int) + off = (tgt : Int)) (h1 : x ≥ y → zRn M tgt Γ e st σ) (h2 : ¬ (x ≥ y) → zRn M (pc + 3) Γ e st σ) : zRn M pc Γ e ((0, y) :: (0, x) :: st) σ := by
  refine zr_br h1 h2 (fun p l en R s m args below meth c cells slots Q ad b H locs ls hex hb k1 k2 => ?_)
  show W p l en R s m args below meth c H locs cells slots Q (F0 m pc ls (Value.int (Int32.ofInt y) :: Value.int (Int32.ofInt x) :: zsv ad b st))
  have i := z32_le hy hx
  exact lv_icmp_ge hex hb hd ht (fun q => k1 (i.mp q)) (fun q => k2 (fun z => q (i.mpr z)))
theorem zr_if_ge {x off : Int} {tgt : Nat} (hx : r32 x) (hd : decode (zcc M) pc = .ok (.ifCond .ge off, 3)) (ht : (pc : Int) + off = (tgt : Int)) (h1 : x ≥ 0 → zRn M tgt Γ e st σ) (h2 : ¬ (x ≥ 0) → zRn M (pc + 3) Γ e st σ) : zRn M pc Γ e ((0, x) :: st) σ := by
  refine zr_br h1 h2 (fun p l en R s m args below meth c cells slots Q ad b H locs ls hex hb k1 k2 => ?_)
  show W p l en R s m args below meth c H locs cells slots Q (F0 m pc ls (Value.int (Int32.ofInt x) :: zsv ad b st))
  have i := z32_le z32_00 hx
  exact lv_if_ge hex hb hd ht (fun q => k1 (i.mp q)) (fun q => k2 (fun z => q (i.mpr z)))
theorem zr_lcmp_ge {x y off : Int} {tgt : Nat} (hx : r64 x) (hy : r64 y) (hd0 : decode (zcc M) pc = .ok (.lcmp, 1)) (hd : decode (zcc M) (pc + 1) = .ok (.ifCond .ge off, 3)) (ht : ((pc + 1 : Nat) : Int) + off = (tgt : Int)) (h1 : x ≥ y → zRn M tgt Γ e st σ) (h2 : ¬ (x ≥ y) → zRn M (pc + 4) Γ e st σ) : zRn M pc Γ e ((1, y) :: (1, x) :: st) σ := by
  refine zr_br h1 h2 (fun p l en R s m args below meth c cells slots Q ad b H locs ls hex hb k1 k2 => ?_)
  show W p l en R s m args below meth c H locs cells slots Q (F0 m pc ls (Value.long (Int64.ofInt y) :: Value.long (Int64.ofInt x) :: zsv ad b st))
  have i := (lg_cmp_ge (Int64.ofInt x) (Int64.ofInt y)).trans (z64_le hy hx)
  refine W.lcmp hex hb hd0 ?_
  exact lv_if_ge hex hb hd ht (fun q => k1 (i.mp q)) (fun q => k2 (fun z => q (i.mpr z)))
theorem zr_icmp_gt {x y off : Int} {tgt : Nat} (hx : r32 x) (hy : r32 y) (hd : decode (zcc M) pc = .ok (.if_icmp .gt off, 3)) (ht : (pc : Int) + off = (tgt : Int)) (h1 : x > y → zRn M tgt Γ e st σ) (h2 : ¬ (x > y) → zRn M (pc + 3) Γ e st σ) : zRn M pc Γ e ((0, y) :: (0, x) :: st) σ := by
  refine zr_br h1 h2 (fun p l en R s m args below meth c cells slots Q ad b H locs ls hex hb k1 k2 => ?_)
  show W p l en R s m args below meth c H locs cells slots Q (F0 m pc ls (Value.int (Int32.ofInt y) :: Value.int (Int32.ofInt x) :: zsv ad b st))
  have i := z32_lt hy hx
  exact lv_icmp_gt hex hb hd ht (fun q => k1 (i.mp q)) (fun q => k2 (fun z => q (i.mpr z)))
theorem zr_if_gt {x off : Int} {tgt : Nat} (hx : r32 x) (hd : decode (zcc M) pc = .ok (.ifCond .gt off, 3)) (ht : (pc : Int) + off = (tgt : Int)) (h1 : x > 0 → zRn M tgt Γ e st σ) (h2 : ¬ (x > 0) → zRn M (pc + 3) Γ e st σ) : zRn M pc Γ e ((0, x) :: st) σ := by
  refine zr_br h1 h2 (fun p l en R s m args below meth c cells slots Q ad b H locs ls hex hb k1 k2 => ?_)
  show W p l en R s m args below meth c H locs cells slots Q (F0 m pc ls (Value.int (Int32.ofInt x) :: zsv ad b st))
  have i := z32_lt z32_00 hx
  exact lv_if_gt hex hb hd ht (fun q => k1 (i.mp q)) (fun q => k2 (fun z => q (i.mpr z)))
theorem zr_lcmp_gt {x y off : Int} {tgt : Nat} (hx : r64 x) (hy : r64 y) (hd0 : decode (zcc M) pc = .ok (.lcmp, 1)) (hd : decode (zcc M) (pc + 1) = .ok (.ifCond .gt off, 3)) (ht : ((pc + 1 : Nat) : Int) + off = (tgt : Int)) (h1 : x > y → zRn M tgt Γ e st σ) (h2 : ¬ (x > y) → zRn M (pc + 4) Γ e st σ) : zRn M pc Γ e ((1, y) :: (1, x) :: st) σ := by
  refine zr_br h1 h2 (fun p l en R s m args below meth c cells slots Q ad b H locs ls hex hb k1 k2 => ?_)
  show W p l en R s m args below meth c H locs cells slots Q (F0 m pc ls (Value.long (Int64.ofInt y) :: Value.long (Int64.ofInt x) :: zsv ad b st))
  have i := (lg_cmp_gt (Int64.ofInt x) (Int64.ofInt y)).trans (z64_lt hy hx)
  refine W.lcmp hex hb hd0 ?_
  exact lv_if_gt hex hb hd ht (fun q => k1 (i.mp q)) (fun q => k2 (fun z => q (i.mpr z)))
theorem zr_icmp_le {x y off : Int} {tgt : Nat} (hx : r32 x) (hy : r32 y) (hd : decode (zcc M) pc = .ok (.if_icmp .le off, 3)) (ht : (pc : Int) + off = (tgt : Int)) (h1 : x ≤ y → zRn M tgt Γ e st σ) (h2 : ¬ (x ≤ y) → zRn M (pc + 3) Γ e st σ) : zRn M pc Γ e ((0, y) :: (0, x) :: st) σ := by
  refine zr_br h1 h2 (fun p l en R s m args below meth c cells slots Q ad b H locs ls hex hb k1 k2 => ?_)
  show W p l en R s m args below meth c H locs cells slots Q (F0 m pc ls (Value.int (Int32.ofInt y) :: Value.int (Int32.ofInt x) :: zsv ad b st))
  have i := z32_le hx hy
  exact lv_icmp_le hex hb hd ht (fun q => k1 (i.mp q)) (fun q => k2 (fun z => q (i.mpr z)))
theorem zr_if_le {x off : Int} {tgt : Nat} (hx : r32 x) (hd : decode (zcc M) pc = .ok (.ifCond .le off, 3)) (ht : (pc : Int) + off = (tgt : Int)) (h1 : x ≤ 0 → zRn M tgt Γ e st σ) (h2 : ¬ (x ≤ 0) → zRn M (pc + 3) Γ e st σ) : zRn M pc Γ e ((0, x) :: st) σ := by
  refine zr_br h1 h2 (fun p l en R s m args below meth c cells slots Q ad b H locs ls hex hb k1 k2 => ?_)
  show W p l en R s m args below meth c H locs cells slots Q (F0 m pc ls (Value.int (Int32.ofInt x) :: zsv ad b st))
  have i := z32_le hx z32_00
  exact lv_if_le hex hb hd ht (fun q => k1 (i.mp q)) (fun q => k2 (fun z => q (i.mpr z)))
theorem zr_lcmp_le {x y off : Int} {tgt : Nat} (hx : r64 x) (hy : r64 y) (hd0 : decode (zcc M) pc = .ok (.lcmp, 1)) (hd : decode (zcc M) (pc + 1) = .ok (.ifCond .le off, 3)) (ht : ((pc + 1 : Nat) : Int) + off = (tgt : Int)) (h1 : x ≤ y → zRn M tgt Γ e st σ) (h2 : ¬ (x ≤ y) → zRn M (pc + 4) Γ e st σ) : zRn M pc Γ e ((1, y) :: (1, x) :: st) σ := by
  refine zr_br h1 h2 (fun p l en R s m args below meth c cells slots Q ad b H locs ls hex hb k1 k2 => ?_)
  show W p l en R s m args below meth c H locs cells slots Q (F0 m pc ls (Value.long (Int64.ofInt y) :: Value.long (Int64.ofInt x) :: zsv ad b st))
  have i := (lg_cmp_le (Int64.ofInt x) (Int64.ofInt y)).trans (z64_le hx hy)
  refine W.lcmp hex hb hd0 ?_
  exact lv_if_le hex hb hd ht (fun q => k1 (i.mp q)) (fun q => k2 (fun z => q (i.mpr z)))
end ZR
end
section
/-- the array that a value of kind t stands for is in the world -/
def zpr (M : zM) (t : Nat) : Prop := t ≤ 7 ∨ (10 ≤ t ∧ t < 47) ∨ (47 ≤ t ∧ t - 10 ∈ zns M)
theorem zp_a {M : zM} {t : Nat} (h : t ≤ 7 ∨ 10 ≤ t ∧ t < 47) : zpr M t := h.elim Or.inl (fun q => Or.inr (Or.inl q))
theorem zp_b {M : zM} {o : Nat} (h : 37 ≤ o) (hm : o ∈ zns M) : zpr M (o + 10) := Or.inr (Or.inr ⟨by omega, by rw [Nat.add_sub_cancel]; exact hm⟩)
theorem zp_7 {M : zM} {t : Nat} (h : zpr M t) : t ≤ 7 ∨ 10 ≤ t := by
  rcases h with h | h | h <;> omega
theorem zp_in {M : zM} {t : Nat} {o : Nat} (h : zpr M t) (ht : 5 ≤ t) (hx : inR t (o : Int)) (hn : zNs (zns M)) : o ∈ zns M := by
  rcases h with h | ⟨h1, h2⟩ | ⟨h1, h2⟩
  · refine hn.2 o ?_
    rcases (show t = 5 ∨ t = 6 ∨ t = 7 by omega) with rfl | rfl | rfl
    · have : (o : Int) = 29 ∨ (o : Int) = 31 ∨ (o : Int) = 33 ∨ (o : Int) = 35 := hx
      omega
    · have : (o : Int) = 30 ∨ (o : Int) = 32 ∨ (o : Int) = 34 ∨ (o : Int) = 36 := hx
      omega
    · have : (o : Int) = 9 ∨ (o : Int) = 26 := hx
      omega
  · obtain ⟨n, rfl⟩ : ∃ n, t = n + 10 := ⟨t - 10, by omega⟩
    have h3 : (o : Int) = ((n + 10 : Nat) : Int) - 10 ∧ 0 ≤ (o : Int) ∧ (o : Int) < 43 := hx
    exact hn.2 o (by omega)
  · obtain ⟨n, rfl⟩ : ∃ n, t = n + 10 := ⟨t - 10, by omega⟩
    have h3 : (o : Int) = ((n + 10 : Nat) : Int) - 10 ∧ 0 ≤ (o : Int) ∧ (o : Int) < 43 := hx
    have h4 : n + 10 - 10 = o := by omega
    rw [h4] at h2
    exact h2
theorem zoc_37 {o : Nat} (h : zoc o < 100) : o < 37 := by
  by_cases q : o < 43
  · have hall : ∀ i : Fin 43, zoc i < 100 → (i : Nat) < 37 := by decide +kernel
    exact hall ⟨o, q⟩ h
  · exfalso
    unfold zoc at h
    rw [List.getD_eq_getElem?_getD, List.getElem?_eq_none (by show zOC.length ≤ o; have : zOC.length = 43 := rfl; omega)] at h
    simp at h
section ZM
variable {M : zM} {Γ : List (Nat × Nat)} {e : List Int} {st : List (Nat × Int)} {σ τ : zHp} {pc pc2 : Nat}
theorem zsv_ref {ad : Nat → Nat} {b t : Nat} {x : Int} (ht : 5 ≤ t) (st : List (Nat × Int)) : zsv ad b ((t, x) :: st) = Value.ref (ad x.toNat) :: zsv ad b st := by simp [zsv, zV_ref ht]
theorem zcl_lt {t : Nat} {q : vw_C} (h : vwCl[zcl t]? = some q) : zcl t < 100 := by
  have h1 := (List.getElem?_eq_some_iff.mp h).1
  have h2 : vwCl.length = 9 := rfl
  omega
theorem zr_getf {t t2 k index N : Nat} {x : Int} {C : String} {T : u_T} (ht : 5 ≤ t) (h7 : t ≤ 7 ∨ 10 ≤ t) (hx : inR t x) (hc : vwCl[zcl t]? = some (C, T, N)) (hN : zln t = N) (hk : k < N) (hin : ∀ w ∈ u_ws C T N, w ∈ zTs M)
    (hw : Cond.fieldLink (zown M) index (T k).1 (T k).2.1 (T k).2.2.1 ∈ zTs M) (hf : zft (zcl t) k = t2) (h2 : ¬ t2 = 2) (hd : decode (zcc M) pc = .ok (.getfield index, 3)) (kn : zRn M (pc + 3) Γ e ((t2, σ x k) :: st) σ) : zRn M pc Γ e ((t, x) :: st) σ := by
  have hlt := zcl_lt hc
  obtain ⟨o, h1, rfl, h3, h4⟩ := zcl_ok ht h7 hx
  refine zr_a kn (fun p l en R s m args below meth c cells slots Q D cs ad A b H locs ls K hcc ho hP hS hl kk => ?_)
  rw [zsv_ref ht]
  have hg := zW_get cs ad σ (ns := zns M) ((K.2.2.2.2.2.2.2.2.2.2.2.2.1).2 o (zoc_37 (by omega)))
  rw [zcell_o (by omega), h3] at hg
  refine va_get (D := D) (ci := zcl t) (v := zV ad b t2 (σ o k)) (C := C) (T := T) (N := N) K.1 K.2.1 K.2.2.2.2.1 hin K.2.2.2.1 K.2.2.2.2.2.1 hP _ hg hc k hk (K.2.2.2.2.1 _ hw) (fun _ h9 => h9) ?_ hd kk
  rw [List.getElem?_map, List.getElem?_range (by omega)]
  simp only [Option.map_some, zfv, h3, hf, if_neg h2]
  congr 1
  unfold zft at hf
  have hz : t2 = 0 ∨ t2 = 1 ∨ t2 = 4 := by
    have hall : ∀ l ∈ zFT, ∀ z ∈ l, z = 0 ∨ z = 1 ∨ z = 4 ∨ z = 2 := by decide +kernel
    rw [List.getD_eq_getElem?_getD, List.getD_eq_getElem?_getD] at hf
    cases q1 : zFT[zcl t]? with
    | none => rw [q1] at hf; simp at hf; exact Or.inl hf.symm
    | some l =>
      rw [q1] at hf
      simp only [Option.getD_some] at hf
      cases q2 : l[k]? with
      | none => rw [q2] at hf; simp at hf; exact Or.inl hf.symm
      | some z =>
        rw [q2] at hf
        simp only [Option.getD_some] at hf
        have := hall l (List.mem_of_getElem? q1) z (List.mem_of_getElem? q2)
        omega
  rcases hz with rfl | rfl | rfl <;> rfl
theorem zr_getr {t t2 k index N : Nat} {x y : Int} {C : String} {T : u_T} (ht : 5 ≤ t) (h7 : t ≤ 7 ∨ 10 ≤ t) (hx : inR t x) (hc : vwCl[zcl t]? = some (C, T, N)) (hN : zln t = N) (hk : k < N) (hin : ∀ w ∈ u_ws C T N, w ∈ zTs M)
    (hw : Cond.fieldLink (zown M) index (T k).1 (T k).2.1 (T k).2.2.1 ∈ zTs M) (hf : zft (zcl t) k = 2) (ht2 : 5 ≤ t2) (hy : ∀ o : Nat, x = o → y.toNat = zsh o k) (hd : decode (zcc M) pc = .ok (.getfield index, 3)) (kn : zRn M (pc + 3) Γ e ((t2, y) :: st) σ) : zRn M pc Γ e ((t, x) :: st) σ := by
  have hlt := zcl_lt hc
  obtain ⟨o, h1, rfl, h3, h4⟩ := zcl_ok ht h7 hx
  refine zr_a kn (fun p l en R s m args below meth c cells slots Q D cs ad A b H locs ls K hcc ho hP hS hl kk => ?_)
  rw [zsv_ref ht2] at kk
  rw [zsv_ref ht]
  have hg := zW_get cs ad σ (ns := zns M) ((K.2.2.2.2.2.2.2.2.2.2.2.2.1).2 o (zoc_37 (by omega)))
  rw [zcell_o (by omega), h3] at hg
  refine va_get (D := D) (ci := zcl t) (v := Value.ref (ad y.toNat)) (C := C) (T := T) (N := N) K.1 K.2.1 K.2.2.2.2.1 hin K.2.2.2.1 K.2.2.2.2.2.1 hP _ hg hc k hk (K.2.2.2.2.1 _ hw) (fun _ h9 => h9) ?_ hd kk
  rw [List.getElem?_map, List.getElem?_range (by omega)]
  simp only [Option.map_some, zfv, h3, hf, if_pos]
  rw [hy o rfl]
theorem zr_putf {t t2 k index N : Nat} {x v : Int} {C : String} {T : u_T} {ty0 : Nat → FieldType} {ty : FieldType} (ht : 5 ≤ t) (h7 : t ≤ 7 ∨ 10 ≤ t) (hx : inR t x) (hv : inR t2 v) (hc : vwCl[zcl t]? = some (C, T, N)) (hN : zln t = N) (hk : k < N) (hin : ∀ w ∈ u_ws C T N, w ∈ zTs M)
    (hw : Cond.fieldLink (zown M) index (T k).1 (T k).2.1 (T k).2.2.1 ∈ zTs M) (hty : ∀ k, k < N → parseFieldDescriptor (T k).2.2.1 = some (ty0 k)) (hnm : ∀ a, a < N → ∀ b, b < N → a ≠ b → (T a).2.1 ≠ (T b).2.1) (hfin : (T k).2.2.2 = false) (hds : parseFieldDescriptor (T k).2.2.1 = some ty)
    (hf : zft (zcl t) k = t2) (h2 : t2 = 0 ∧ ty = .int ∨ t2 = 1 ∧ ty = .long ∨ t2 = 4 ∧ ty = .boolean) (hd : decode (zcc M) pc = .ok (.putfield index, 3)) (kn : zRn M (pc + 3) Γ e st (zput σ x k v)) : zRn M pc Γ e ((t2, v) :: (t, x) :: st) σ := by
  have hlt := zcl_lt hc
  obtain ⟨o, h1, rfl, h3, h4⟩ := zcl_ok ht h7 hx
  have hst : zst o k = t2 := by
    unfold zst
    rw [if_neg (by omega), if_neg (by omega), if_neg (by omega), h3, hf, if_neg (by omega)]
  refine zr_w (fun ho => zOk_put ho (by rw [hst]; exact hv)) zct_put kn (fun p l en R s m args below meth c cells slots Q D cs ad A b H locs ls K hcc ho hP hD hS hl kk => ?_)
  have hst2 : zsv ad b ((t2, v) :: (t, (o : Int)) :: st) = zV ad b t2 v :: Value.ref (ad o) :: zsv ad b st := by simp [zsv, zV_ref ht]
  rw [hst2]
  have hg := zW_get cs ad σ (ns := zns M) ((K.2.2.2.2.2.2.2.2.2.2.2.2.1).2 o (zoc_37 (by omega)))
  rw [zcell_o (by omega), h3] at hg
  have hb0 : zV ad b t2 v = zV ad 0 t2 v := by rcases h2 with ⟨rfl, -⟩ | ⟨rfl, -⟩ | ⟨rfl, -⟩ <;> rfl
  rw [hb0]
  have hnw : narrow ty (zV ad 0 t2 v) = zV ad 0 t2 v ∧ fits ty (zV ad 0 t2 v) = true := by
    rcases h2 with ⟨rfl, rfl⟩ | ⟨rfl, rfl⟩ | ⟨rfl, rfl⟩
    · exact ⟨rfl, rfl⟩
    · exact ⟨rfl, rfl⟩
    · rcases hv with rfl | rfl
      · exact ⟨by show narrow .boolean (.int (Int32.ofInt 0)) = .int (Int32.ofInt 0); first | rfl | decide +kernel, by show fits .boolean (.int (Int32.ofInt 0)) = true; first | rfl | decide +kernel⟩
      · exact ⟨by show narrow .boolean (.int (Int32.ofInt 1)) = .int (Int32.ofInt 1); first | rfl | decide +kernel, by show fits .boolean (.int (Int32.ofInt 1)) = true; first | rfl | decide +kernel⟩
  refine va_put (D := D) (ci := zcl t) (v := zV ad 0 t2 v) (ty := ty) (C := C) (T := T) (N := N) K.1 K.2.1 K.2.2.2.2.1 hin ty0 hty hnm K.2.2.2.1 K.2.2.2.2.2.1 hP hD hS _ hg hc k hk (K.2.2.2.2.1 _ hw) (fun _ h9 => h9) hfin hds hnw.1 hnw.2 (by simp; omega) hd (fun H1 locs1 hP1 hD1 hS1 => ?_)
  rw [zW_set (τ := zput σ o k v) (K.2.2.2.2.2.2.2.2.2.2.2.2.1).1 ((K.2.2.2.2.2.2.2.2.2.2.2.2.1).2 o (zoc_37 (by omega))) (by rw [zcell_oput (by omega) (by omega) (by rw [h3, hf]; omega), h3, hf]) zput_on] at hP1
  exact kk H1 locs1 hP1 hS1
theorem zr_iald {t : Nat} {x i : Int} (ht : 5 ≤ t) (h7 : zpr M t) (hx : inR t x) (hc : zcl t = 100) (h0 : 0 ≤ i) (hi : i < zln t) (hd : decode (zcc M) pc = .ok (.iaload, 1)) (kn : zRn M (pc + 1) Γ e ((0, σ x i) :: st) σ) : zRn M pc Γ e ((0, i) :: (t, x) :: st) σ := by
  obtain ⟨o, h1, rfl, h3, h4⟩ := zcl_ok ht (zp_7 h7) hx
  refine zr_a kn (fun p l en R s m args below meth c cells slots Q D cs ad A b H locs ls K hcc ho hP hS hl kk => ?_)
  have hst2 : zsv ad b ((0, i) :: (t, (o : Int)) :: st) = Value.int (Int32.ofInt i) :: Value.ref (ad o) :: zsv ad b st := by (simp only [zsv, List.map_cons, zV_ref ht, Int.toNat_natCast]; rfl)
  rw [hst2]
  obtain ⟨g1, g2⟩ := z32_in (n := zon o) h0 (by omega) (zon_lt o)
  have hin := zp_in h7 ht hx K.2.2.2.2.2.2.2.2.2.2.2.2.1
  have hg := zW_get cs ad σ (ns := zns M) hin
  rw [zcell_i (h3.trans hc)] at hg
  refine va_iald (D := D) K.1 K.2.1 K.2.2.2.2.2.1 hP _ 0 (f := (fun j : Nat => Int32.ofInt (σ o j))) hg rfl g1 hd ?_
  have e1 : ((i.toNat : Nat) : Int) = i := Int.toNat_of_nonneg h0
  simp only [g2, e1]
  exact kk
theorem zr_lald {t : Nat} {x i : Int} (ht : 5 ≤ t) (h7 : zpr M t) (hx : inR t x) (hc : zcl t = 101) (h0 : 0 ≤ i) (hi : i < zln t) (hd : decode (zcc M) pc = .ok (.laload, 1)) (kn : zRn M (pc + 1) Γ e ((1, σ x i) :: st) σ) : zRn M pc Γ e ((0, i) :: (t, x) :: st) σ := by
  obtain ⟨o, h1, rfl, h3, h4⟩ := zcl_ok ht (zp_7 h7) hx
  refine zr_a kn (fun p l en R s m args below meth c cells slots Q D cs ad A b H locs ls K hcc ho hP hS hl kk => ?_)
  have hst2 : zsv ad b ((0, i) :: (t, (o : Int)) :: st) = Value.int (Int32.ofInt i) :: Value.ref (ad o) :: zsv ad b st := by (simp only [zsv, List.map_cons, zV_ref ht, Int.toNat_natCast]; rfl)
  rw [hst2]
  obtain ⟨g1, g2⟩ := z32_in (n := zon o) h0 (by omega) (zon_lt o)
  have hin := zp_in h7 ht hx K.2.2.2.2.2.2.2.2.2.2.2.2.1
  have hg := zW_get cs ad σ (ns := zns M) hin
  rw [zcell_l (h3.trans hc)] at hg
  refine va_lald (D := D) K.1 K.2.1 K.2.2.2.2.2.1 hP _ 1 (f := (fun j : Nat => Int64.ofInt (σ o j))) hg rfl g1 hd ?_
  have e1 : ((i.toNat : Nat) : Int) = i := Int.toNat_of_nonneg h0
  simp only [g2, e1]
  exact kk
theorem zr_iast {t : Nat} {x i v : Int} (ht : 5 ≤ t) (h7 : zpr M t) (hx : inR t x) (hv : inR 0 v) (hc : zcl t = 100) (h0 : 0 ≤ i) (hi : i < zln t) (hd : decode (zcc M) pc = .ok (.iastore, 1)) (kn : zRn M (pc + 1) Γ e st (zput σ x i v)) : zRn M pc Γ e ((0, v) :: (0, i) :: (t, x) :: st) σ := by
  obtain ⟨o, h1, rfl, h3, h4⟩ := zcl_ok ht (zp_7 h7) hx
  obtain ⟨j, rfl⟩ : ∃ j : Nat, i = j := ⟨i.toNat, by omega⟩
  have hst : zst o j = 0 := by simp [zst, h3, hc]
  refine zr_w (fun ho => zOk_put ho (by rw [hst]; exact hv)) zct_put kn (fun p l en R s m args below meth c cells slots Q D cs ad A b H locs ls K hcc ho hP hD hS hl kk => ?_)
  have hst2 : zsv ad b ((0, v) :: (0, (j : Int)) :: (t, (o : Int)) :: st) = Value.int (Int32.ofInt v) :: Value.int (Int32.ofInt j) :: Value.ref (ad o) :: zsv ad b st := by (simp only [zsv, List.map_cons, zV_ref ht, Int.toNat_natCast]; rfl)
  rw [hst2]
  obtain ⟨g1, g2⟩ := z32_in (n := zon o) h0 (by omega) (zon_lt o)
  have hin := zp_in h7 ht hx K.2.2.2.2.2.2.2.2.2.2.2.2.1
  have hg := zW_get cs ad σ (ns := zns M) hin
  rw [zcell_i (h3.trans hc)] at hg
  refine va_iast (D := D) K.1 K.2.1 K.2.2.2.2.2.1 hP hD hS _ 0 (f := (fun j : Nat => Int32.ofInt (σ o j))) hg rfl g1 hd (fun H1 locs1 hP1 hD1 hS1 => ?_)
  rw [g2, Int.toNat_natCast, zW_set (τ := zput σ o j v) (K.2.2.2.2.2.2.2.2.2.2.2.2.1).1 hin (zcell_iput (h3.trans hc) j v) zput_on] at hP1
  exact kk H1 locs1 hP1 hS1
theorem zr_last {t : Nat} {x i v : Int} (ht : 5 ≤ t) (h7 : zpr M t) (hx : inR t x) (hv : inR 1 v) (hc : zcl t = 101) (h0 : 0 ≤ i) (hi : i < zln t) (hd : decode (zcc M) pc = .ok (.lastore, 1)) (kn : zRn M (pc + 1) Γ e st (zput σ x i v)) : zRn M pc Γ e ((1, v) :: (0, i) :: (t, x) :: st) σ := by
  obtain ⟨o, h1, rfl, h3, h4⟩ := zcl_ok ht (zp_7 h7) hx
  obtain ⟨j, rfl⟩ : ∃ j : Nat, i = j := ⟨i.toNat, by omega⟩
  have hst : zst o j = 1 := by simp [zst, h3, hc]
  refine zr_w (fun ho => zOk_put ho (by rw [hst]; exact hv)) zct_put kn (fun p l en R s m args below meth c cells slots Q D cs ad A b H locs ls K hcc ho hP hD hS hl kk => ?_)
  have hst2 : zsv ad b ((1, v) :: (0, (j : Int)) :: (t, (o : Int)) :: st) = Value.long (Int64.ofInt v) :: Value.int (Int32.ofInt j) :: Value.ref (ad o) :: zsv ad b st := by (simp only [zsv, List.map_cons, zV_ref ht, Int.toNat_natCast]; rfl)
  rw [hst2]
  obtain ⟨g1, g2⟩ := z32_in (n := zon o) h0 (by omega) (zon_lt o)
  have hin := zp_in h7 ht hx K.2.2.2.2.2.2.2.2.2.2.2.2.1
  have hg := zW_get cs ad σ (ns := zns M) hin
  rw [zcell_l (h3.trans hc)] at hg
  refine va_last (D := D) K.1 K.2.1 K.2.2.2.2.2.1 hP hD hS _ 1 (f := (fun j : Nat => Int64.ofInt (σ o j))) hg rfl g1 hd (fun H1 locs1 hP1 hD1 hS1 => ?_)
  rw [g2, Int.toNat_natCast, zW_set (τ := zput σ o j v) (K.2.2.2.2.2.2.2.2.2.2.2.2.1).1 hin (zcell_lput (h3.trans hc) j v) zput_on] at hP1
  exact kk H1 locs1 hP1 hS1
theorem zr_aald {i : Int} (h0 : 0 ≤ i) (hi : i < 4) (hd : decode (zcc M) pc = .ok (.aaload, 1)) (kn : zRn M (pc + 1) Γ e ((5, 29 + 2 * i) :: st) σ) : zRn M pc Γ e ((0, i) :: (38, 28) :: st) σ := by
  refine zr_a kn (fun p l en R s m args below meth c cells slots Q D cs ad A b H locs ls K hcc ho hP hS hl kk => ?_)
  have hst2 : zsv ad b ((0, i) :: (38, (28 : Int)) :: st) = Value.int (Int32.ofInt i) :: Value.ref (ad 28) :: zsv ad b st := rfl
  rw [hst2]
  obtain ⟨g1, g2⟩ := z32_in (n := zon 28) h0 (by show i < 4; exact hi) (zon_lt 28)
  have hg := zW_get cs ad σ (ns := zns M) ((K.2.2.2.2.2.2.2.2.2.2.2.2.1).2 28 (by decide))
  rw [zcell_q rfl] at hg
  refine va_aldq (D := D) K.1 K.2.1 K.2.2.2.2.2.1 hP _ 2 (f := fun j : Nat => some (ad (zsh 28 j))) hg rfl g1 hd ?_
  rw [g2]
  rw [zsv_ref (by decide)] at kk
  have e1 : zsh 28 i.toNat = (29 + 2 * i).toNat := by
    rcases (show i = 0 ∨ i = 1 ∨ i = 2 ∨ i = 3 by omega) with rfl | rfl | rfl | rfl <;> rfl
  show W p l en R s m args below meth c H locs cells slots Q (F0 m (pc + 1) ls (Value.ref (ad (zsh 28 i.toNat)) :: zsv ad b st))
  rw [e1]
  exact kk
theorem zr_alen {t : Nat} {x : Int} (ht : 5 ≤ t) (h7 : zpr M t) (hx : inR t x) (hc : zcl t = 100) (hd : decode (zcc M) pc = .ok (.arraylength, 1)) (kn : zRn M (pc + 1) Γ e ((0, (zln t : Nat)) :: st) σ) : zRn M pc Γ e ((t, x) :: st) σ := by
  obtain ⟨o, h1, rfl, h3, h4⟩ := zcl_ok ht (zp_7 h7) hx
  refine zr_a kn (fun p l en R s m args below meth c cells slots Q D cs ad A b H locs ls K hcc ho hP hS hl kk => ?_)
  rw [zsv_ref ht]
  have hin := zp_in h7 ht hx K.2.2.2.2.2.2.2.2.2.2.2.2.1
  have hg := zW_get cs ad σ (ns := zns M) hin
  rw [zcell_i (h3.trans hc)] at hg
  exact va_alen (D := D) K.1 K.2.1 K.2.2.2.2.2.1 hP _ 0 hg rfl (v := Int32.ofInt (zln t : Nat)) (by rw [Int32.ofInt_eq_ofNat, ← h4]) hd kk
theorem zr_sld {L : Nat} {xs : Nat → Int32} {i y : Int} (hs : zsc M = some (L, xs)) (h0 : 0 ≤ i) (hi : i < L) (hy : y = (xs i.toNat).toInt) (hd : decode (zcc M) pc = .ok (.iaload, 1)) (kn : zRn M (pc + 1) Γ e ((0, y) :: st) σ) : zRn M pc Γ e ((0, i) :: (3, 0) :: st) σ := by
  refine zr_a kn (fun p l en R s m args below meth c cells slots Q D cs ad A b H locs ls K hcc ho hP hS hl kk => ?_)
  obtain ⟨hL, hX, hbl, hbA⟩ := K.2.2.2.2.2.2.2.2.2.2.2.1 L xs hs
  obtain ⟨g1, g2⟩ := z32_in (n := L) h0 hi hL
  refine va_sld K.1 K.2.1 hX hbl hbA hS g1 hd ?_
  rw [g2, show xs i.toNat = Int32.ofInt y by rw [hy, Int32.ofInt_toInt]]
  exact kk
theorem zr_slen {L : Nat} {xs : Nat → Int32} (hs : zsc M = some (L, xs)) (hd : decode (zcc M) pc = .ok (.arraylength, 1)) (kn : zRn M (pc + 1) Γ e ((0, (L : Nat)) :: st) σ) : zRn M pc Γ e ((3, 0) :: st) σ := by
  refine zr_a kn (fun p l en R s m args below meth c cells slots Q D cs ad A b H locs ls K hcc ho hP hS hl kk => ?_)
  obtain ⟨hL, hX, hbl, hbA⟩ := K.2.2.2.2.2.2.2.2.2.2.2.1 L xs hs
  refine va_slen K.1 K.2.1 hX hbl hbA hS hd ?_
  rw [show Int32.ofNat L = Int32.ofInt (L : Nat) from Int32.ofInt_eq_ofNat.symm]
  exact kk
theorem zr_mmax {x y : Int} {index : Nat} (hx : r32 x) (hy : r32 y) (hw1 : Cond.methodLink (zown M) index Lib.Math.max.name ∈ zTs M) (hw2 : Cond.static Lib.Math.max.name ∈ zTs M) (hw3 : Cond.initialized "java/lang/Math" ∈ zTs M) (hw4 : Cond.code Lib.Math.max.name Lib.Math.max.code 2 (some .int) ∈ zTs M)
    (hfr : 1 ≤ zfr M) (hlo : zwt st + 13 ≤ zlo M) (hd : decode (zcc M) pc = .ok (.invokestatic index, 3)) (k : zRn M (pc + 3) Γ e ((0, if x < y then y else x) :: st) σ) : zRn M pc Γ e ((0, y) :: (0, x) :: st) σ := by
  refine zr_a k (fun p l en R s m args below meth c cells slots Q D cs ad A b H locs ls K hcc ho hP hS hl kk => ?_)
  have h : (if Int32.ofInt x < Int32.ofInt y then Int32.ofInt y else Int32.ofInt x) = Int32.ofInt (if x < y then y else x) := by
    by_cases q : x < y
    · rw [if_pos q, if_pos ((z32_lt hx hy).mpr q)]
    · rw [if_neg q, if_neg (fun z => q ((z32_lt hx hy).mp z))]
  show W p l en R s m args below meth c H locs cells slots Q (F0 m pc ls (Value.int (Int32.ofInt y) :: Value.int (Int32.ofInt x) :: zsv ad b st))
  refine va_mmax K.1 K.2.1 (K.2.2.1.trans hl.1.symm) K.2.2.2.1 (K.2.2.2.2.1 _ hw1) (K.2.2.2.2.1 _ hw2) (K.2.2.2.2.1 _ hw3) (K.2.2.2.2.1 _ hw4) (Nat.le_trans hfr K.2.2.2.2.2.2.2.2.2.1) (by rw [zsv_cat]; exact Nat.le_trans hlo K.2.2.2.2.2.2.2.2.2.2.1) hcc.1 hcc.2 hd ?_
  rw [h]
  exact kk
theorem zr_mmin {x y : Int} {index : Nat} (hx : r32 x) (hy : r32 y) (hw1 : Cond.methodLink (zown M) index Lib.Math.min.name ∈ zTs M) (hw2 : Cond.static Lib.Math.min.name ∈ zTs M) (hw3 : Cond.initialized "java/lang/Math" ∈ zTs M) (hw4 : Cond.code Lib.Math.min.name Lib.Math.min.code 2 (some .int) ∈ zTs M)
    (hfr : 1 ≤ zfr M) (hlo : zwt st + 13 ≤ zlo M) (hd : decode (zcc M) pc = .ok (.invokestatic index, 3)) (k : zRn M (pc + 3) Γ e ((0, if y < x then y else x) :: st) σ) : zRn M pc Γ e ((0, y) :: (0, x) :: st) σ := by
  refine zr_a k (fun p l en R s m args below meth c cells slots Q D cs ad A b H locs ls K hcc ho hP hS hl kk => ?_)
  have h : (if Int32.ofInt y < Int32.ofInt x then Int32.ofInt y else Int32.ofInt x) = Int32.ofInt (if y < x then y else x) := by
    by_cases q : y < x
    · rw [if_pos q, if_pos ((z32_lt hy hx).mpr q)]
    · rw [if_neg q, if_neg (fun z => q ((z32_lt hy hx).mp z))]
  show W p l en R s m args below meth c H locs cells slots Q (F0 m pc ls (Value.int (Int32.ofInt y) :: Value.int (Int32.ofInt x) :: zsv ad b st))
  refine va_mmin K.1 K.2.1 (K.2.2.1.trans hl.1.symm) K.2.2.2.1 (K.2.2.2.2.1 _ hw1) (K.2.2.2.2.1 _ hw2) (K.2.2.2.2.1 _ hw3) (K.2.2.2.2.1 _ hw4) (Nat.le_trans hfr K.2.2.2.2.2.2.2.2.2.1) (by rw [zsv_cat]; exact Nat.le_trans hlo K.2.2.2.2.2.2.2.2.2.2.1) hcc.1 hcc.2 hd ?_
  rw [h]
  exact kk
theorem zr_mabs {x : Int} {index : Nat} (hx : r32 x) (hw1 : Cond.methodLink (zown M) index Lib.Math.abs.name ∈ zTs M) (hw2 : Cond.static Lib.Math.abs.name ∈ zTs M) (hw3 : Cond.initialized "java/lang/Math" ∈ zTs M) (hw4 : Cond.code Lib.Math.abs.name Lib.Math.abs.code 1 (some .int) ∈ zTs M)
    (hfr : 1 ≤ zfr M) (hlo : zwt st + 13 ≤ zlo M) (hd : decode (zcc M) pc = .ok (.invokestatic index, 3)) (k : zRn M (pc + 3) Γ e ((0, if 0 ≤ x then x else zneg x) :: st) σ) : zRn M pc Γ e ((0, x) :: st) σ := by
  refine zr_a k (fun p l en R s m args below meth c cells slots Q D cs ad A b H locs ls K hcc ho hP hS hl kk => ?_)
  have h : (if 0 ≤ Int32.ofInt x then Int32.ofInt x else 0 - Int32.ofInt x) = Int32.ofInt (if 0 ≤ x then x else zneg x) := by
    have h00 : (0 : Int32) ≤ Int32.ofInt x ↔ 0 ≤ x := z32_le z32_00 hx
    by_cases q : 0 ≤ x
    · rw [if_pos q, if_pos (h00.mpr q)]
    · rw [if_neg q, if_neg (fun z => q (h00.mp z))]
      unfold zneg
      rw [z32_w, show (-x : Int) = 0 - x by omega, Int32.ofInt_sub]
      rfl
  show W p l en R s m args below meth c H locs cells slots Q (F0 m pc ls (Value.int (Int32.ofInt x) :: zsv ad b st))
  refine va_mabs K.1 K.2.1 (K.2.2.1.trans hl.1.symm) K.2.2.2.1 (K.2.2.2.2.1 _ hw1) (K.2.2.2.2.1 _ hw2) (K.2.2.2.2.1 _ hw3) (K.2.2.2.2.1 _ hw4) (Nat.le_trans hfr K.2.2.2.2.2.2.2.2.2.1) (by rw [zsv_cat]; exact Nat.le_trans hlo K.2.2.2.2.2.2.2.2.2.2.1) hcc.1 hcc.2 hd ?_
  rw [h]
  exact kk
theorem zr_mmaxl {x y : Int} {index : Nat} (hx : r64 x) (hy : r64 y) (hw1 : Cond.methodLink (zown M) index Lib.MathLoose.max_long.x ∈ zTs M) (hw2 : Cond.static Lib.MathLoose.max_long.x ∈ zTs M) (hw3 : Cond.initialized "java/lang/Math" ∈ zTs M) (hw4 : Cond.code Lib.MathLoose.max_long.x Lib.MathLoose.max_long.code 4 (some .long) ∈ zTs M)
    (hfr : 1 ≤ zfr M) (hlo : zwt st + 15 ≤ zlo M) (hd : decode (zcc M) pc = .ok (.invokestatic index, 3)) (k : zRn M (pc + 3) Γ e ((1, if y < x then x else y) :: st) σ) : zRn M pc Γ e ((1, y) :: (1, x) :: st) σ := by
  refine zr_a k (fun p l en R s m args below meth c cells slots Q D cs ad A b H locs ls K hcc ho hP hS hl kk => ?_)
  have h : (if Int64.ofInt y < Int64.ofInt x then Int64.ofInt x else Int64.ofInt y) = Int64.ofInt (if y < x then x else y) := by
    by_cases q : y < x
    · rw [if_pos q, if_pos ((z64_lt hy hx).mpr q)]
    · rw [if_neg q, if_neg (fun z => q ((z64_lt hy hx).mp z))]
  show W p l en R s m args below meth c H locs cells slots Q (F0 m pc ls (Value.long (Int64.ofInt y) :: Value.long (Int64.ofInt x) :: zsv ad b st))
  refine va_mmax_long K.1 K.2.1 (K.2.2.1.trans hl.1.symm) K.2.2.2.1 (K.2.2.2.2.1 _ hw1) (K.2.2.2.2.1 _ hw2) (K.2.2.2.2.1 _ hw3) (K.2.2.2.2.1 _ hw4) (Nat.le_trans hfr K.2.2.2.2.2.2.2.2.2.1) (by rw [zsv_cat]; exact Nat.le_trans hlo K.2.2.2.2.2.2.2.2.2.2.1) hcc.1 hcc.2 hd ?_
  rw [h]
  exact kk
end ZM
end
section
/-! contracts: from a world σ and arguments xs, what f answers, and the world that f leaves -/
def zVs (ad : Nat → Nat) (b : Nat) (tys : List Nat) (xs : List Int) : List Value := List.zipWith (zV ad b) tys xs
def zOkA : List Nat → List Int → Prop
  | [], [] => True
  | t :: ts, x :: xs => inR t x ∧ zOkA ts xs
  | _, _ => False
abbrev zSc : Type := Option (Nat × (Nat → Int32))
def zPre (D : va_G) (cs : zCs) (ad : Nat → Nat) (b sz : Nat) (ns : List Nat) (sc : zSc) (σ : zHp) : State → Prop := fun U => U.heap.size = sz ∧ va_P D vwCl (zW cs ad σ ns) U.heap ∧ va_K D vwCl (zty cs) U ∧ ∀ (L : Nat) (xs : Nat → Int32), sc = some (L, xs) → L < 2147483648 ∧ va_X b L xs U U.heap ∧ b < U.heap.size ∧ ¬ zA ns ad sz b
def zPost (rt : Nat) (r : Int) (D : va_G) (cs : zCs) (ad : Nat → Nat) (sz : Nat) (ns : List Nat) (τ : zHp) : Array Value → State → Outcome → State → Prop := match rt with
  | 1 => va_Ql (fun v (_ : Unit) => v = Int64.ofInt r) (fun _ t => va_P D vwCl (zW cs ad τ ns) t.heap) (zA ns ad sz)
  | 9 => va_Qv (fun (_ : Unit) => True) (fun _ t => va_P D vwCl (zW cs ad τ ns) t.heap) (zA ns ad sz)
  | _ => va_Qi (fun v (_ : Unit) => v = Int32.ofInt r) (fun _ t => va_P D vwCl (zW cs ad τ ns) t.heap) (zA ns ad sz)
def zmc (σ τ : zHp) : Nat := (zct τ - zct σ).toNat
def zrm (fr lo mc : Nat) : Room := { frames := fr, cells := mc, slots := 16 * mc, locals := lo }
/-- which cells a method wants in its caller's world, and which must not be there -/
def zHas (ns nd ab : List Nat) : Prop := zNs ns ∧ (∀ k ∈ nd, k ∈ ns) ∧ ∀ k ∈ ab, k ∉ ns
def zCon (y : MethodName) (ws : List Cond) (nd ab : List Nat) (sc : zSc) (fr lo : Nat) (tys : List Nat) (rt : Nat) (f : List Int → zHp → Option (Int × zHp)) : Prop :=
  (∀ (xs : List Int) (σ : zHp) (r : Int) (τ : zHp), zOk σ → zOkA tys xs → f xs σ = some (r, τ) → zrr rt r ∧ zOk τ ∧ zct σ ≤ zct τ) ∧
  ∀ (l : Launch) (D : va_G) (cs : zCs) (ad : Nat → Nat) (b sz : Nat) (ns : List Nat) (xs : List Int) (σ : zHp) (r : Int) (τ : zHp), zHas ns nd ab → zInj ns ad → zOk σ → zOkA tys xs → f xs σ = some (r, τ) →
    Met l y ws (zrm fr lo (zmc σ τ)) (va_Pc (zVs ad b tys xs) (zPre D cs ad b sz ns sc σ)) (zPost rt r D cs ad sz ns τ) (zmc σ τ) (16 * zmc σ τ) (zA ns ad sz)
def zrs (rt : Nat) (r : Int) : List (Nat × Int) := match rt with
  | 9 => []
  | t => [(t, r)]
def zsa (tys : List Nat) (xs : List Int) : List (Nat × Int) := (List.zip tys xs).reverse
theorem zVs_zip {ad : Nat → Nat} {b : Nat} : ∀ (tys : List Nat) (xs : List Int), (List.zip tys xs).map (fun q => zV ad b q.1 q.2) = zVs ad b tys xs
  | [], _ => rfl
  | _ :: _, [] => rfl
  | t :: ts, x :: xs => by
    have ih := zVs_zip (ad := ad) (b := b) ts xs
    show zV ad b t x :: (List.zip ts xs).map (fun q => zV ad b q.1 q.2) = zV ad b t x :: zVs ad b ts xs
    rw [ih]
theorem zsv_args {ad : Nat → Nat} {b : Nat} {tys : List Nat} {xs : List Int} {st : List (Nat × Int)} : zsv ad b (zsa tys xs ++ st) = (zVs ad b tys xs).reverse ++ zsv ad b st := by
  unfold zsv zsa
  rw [List.map_append, List.map_reverse, zVs_zip tys xs]
theorem zOkA_len : ∀ {tys : List Nat} {xs : List Int}, zOkA tys xs → xs.length = tys.length
  | [], [], _ => rfl
  | _ :: _, _ :: _, h => by rw [List.length_cons, List.length_cons, zOkA_len h.2]
theorem zVs_len {ad : Nat → Nat} {b : Nat} {tys : List Nat} {xs : List Int} (h : zOkA tys xs) : (zVs ad b tys xs).length = tys.length := by
  unfold zVs
  rw [List.length_zipWith, zOkA_len h, Nat.min_self]
theorem zBlind {D : va_G} {cs : zCs} {ad : Nat → Nat} {b sz : Nat} {ns : List Nat} {sc : zSc} {σ : zHp} {av : List Value} : FrameBlind (va_Pc av (zPre D cs ad b sz ns sc σ)) := fun a U g mk q => by
  obtain ⟨q0, q1, qP, qK, qX⟩ := q
  exact ⟨q0, q1, qP, va_K.moved (u := U) (U := U.calling g mk a) (Vm.Alike.refl U.vm) qK, fun L xs h => ⟨(qX L xs h).1, (qX L xs h).2.1.moved (u := U) (U := U.calling g mk a) (Vm.Alike.refl U.vm), (qX L xs h).2.2⟩⟩
theorem znd_0 {P : Nat → Prop} : ∀ k ∈ ([] : List Nat), P k := fun _ h => absurd h List.not_mem_nil
theorem znd_c {P : Nat → Prop} {k : Nat} {l : List Nat} (h : P k) (h2 : ∀ j ∈ l, P j) : ∀ j ∈ k :: l, P j := fun j hj => (List.mem_cons.mp hj).elim (fun e => e ▸ h) (h2 j)
/-- what a caller says of its world for a callee -/
def zFor (M : zM) (nd ab : List Nat) (sc : zSc) : Prop := (∀ k ∈ nd, k ∈ zns M) ∧ (∀ k ∈ ab, k ∉ zns M) ∧ (sc = none ∨ sc = zsc M)
theorem zf_0 {M : zM} : zFor M [] [] none := ⟨znd_0, znd_0, Or.inl rfl⟩
section ZCALL
variable {M : zM} {Γ : List (Nat × Nat)} {e : List Int} {st : List (Nat × Int)} {σ τ : zHp} {pc : Nat}
variable {y : MethodName} {cc2 : ByteArray} {maxL fr lo rt index n : Nat} {ret : Option FieldType} {ws ws2 : List Cond} {nd ab : List Nat} {sc : zSc} {tys : List Nat} {xs : List Int} {r : Int} {f : List Int → zHp → Option (Int × zHp)}
/-- behind a call -/
theorem z_after {p : Program} {l : Launch} {en : Env} {R : Room} {s : State} {m : MethodId} {args : Array Value} {below : List Frame} {meth : Method} {c : Code} {cells slots mc ms : Nat} {Q : State → Prop} {D : va_G} {cs : zCs} {ad : Nat → Nat} {A : Nat → Prop} {b : Nat} {H : Heap} {locs : List Loc} {ls : Array Slot} {st0 : List Value} {a : Array Value} {ns : List Nat}
    (hrt : rt = 0 ∨ rt = 1 ∨ rt = 4 ∨ rt = 9) (hS : va_S A s.heap H locs) (hF : ∀ q, zA ns ad H.size q → A q)
    (hrun : va_Run p l en R s m args below meth c H locs cells slots mc ms (F0 m pc ls st0) (zsv ad b st) (zPost rt r D cs ad H.size ns τ a) (zA ns ad H.size))
    (kk : ∀ (H1 : Heap) (locs1 : List Loc), va_P D vwCl (zW cs ad τ ns) H1 → va_S A s.heap H1 locs1 → W p l en R s m args below meth c H1 locs1 (cells + mc) (slots + ms) Q (F0 m (pc + 3) ls (zsv ad b (zrs rt r ++ st)))) : W p l en R s m args below meth c H locs cells slots Q (F0 m pc ls st0) := by
  rcases hrt with rfl | rfl | rfl | rfl
  · refine va_calli (post := fun v (_ : Unit) => v = Int32.ofInt r) (B := fun _ t => va_P D vwCl (zW cs ad τ ns) t.heap) (A1 := zA ns ad H.size) (a := a) hrun hS (fun q _ h => hF q h) hF (fun r1 u t H1 locs1 ht hvm hw hB hz hk hS1 => ?_)
    subst hw
    rw [ht] at hB
    exact kk H1 locs1 hB hS1
  · refine va_calll (post := fun v (_ : Unit) => v = Int64.ofInt r) (B := fun _ t => va_P D vwCl (zW cs ad τ ns) t.heap) (A1 := zA ns ad H.size) (a := a) hrun hS (fun q _ h => hF q h) hF (fun r1 u t H1 locs1 ht hvm hw hB hz hk hS1 => ?_)
    subst hw
    rw [ht] at hB
    exact kk H1 locs1 hB hS1
  · refine va_calli (post := fun v (_ : Unit) => v = Int32.ofInt r) (B := fun _ t => va_P D vwCl (zW cs ad τ ns) t.heap) (A1 := zA ns ad H.size) (a := a) hrun hS (fun q _ h => hF q h) hF (fun r1 u t H1 locs1 ht hvm hw hB hz hk hS1 => ?_)
    subst hw
    rw [ht] at hB
    exact kk H1 locs1 hB hS1
  · refine va_callv (post := fun (_ : Unit) => True) (B := fun _ t => va_P D vwCl (zW cs ad τ ns) t.heap) (A1 := zA ns ad H.size) (a := a) hrun hS (fun q _ h => hF q h) hF (fun u t H1 locs1 ht hvm hw hB hz hk hS1 => ?_)
    rw [ht] at hB
    exact kk H1 locs1 hB hS1
/-- what a call wants of the state, and the room behind it -/
theorem z_call {p : Program} {R : Room} {s : State} {m : MethodId} {args : Array Value} {c : Code} {cells slots : Nat} {D : va_G} {cs : zCs} {ad : Nat → Nat} {A : Nat → Prop} {b : Nat} {H : Heap} {locs : List Loc}
    (K : zKx M p R s m args c D cs ad A b) (hu : zFor M nd ab sc) (hm : zct σ ≤ zct τ) (hle : zct τ ≤ zcp M) (hcc : zRo M R cells slots σ) (hP : va_P D vwCl (zW cs ad σ (zns M)) H) (hS : va_S A s.heap H locs) :
    zHas (zns M) nd ab ∧ (∀ q, zA (zns M) ad H.size q → A q) ∧ (cells + zmc σ τ ≤ R.cells ∧ slots + 16 * zmc σ τ ≤ R.slots) ∧ zRo M R (cells + zmc σ τ) (slots + 16 * zmc σ τ) τ ∧
    ∀ (U : State), U.heap = H → s.vm.Alike U.vm → zPre D cs ad b H.size (zns M) sc σ U := by
  unfold zRo at hcc ⊢
  have e1 : ((zmc σ τ : Nat) : Int) = zct τ - zct σ := by unfold zmc; omega
  refine ⟨⟨K.2.2.2.2.2.2.2.2.2.2.2.2.1, hu.1, hu.2.1⟩, ?_, by omega, by omega, ?_⟩
  · rintro q (⟨i, hi, rfl⟩ | h)
    · exact K.2.2.2.2.2.2.2.1 i hi
    · exact K.2.2.2.2.2.2.2.2.1 q (Nat.le_trans hS.1 h)
  · intro U hU hW
    refine ⟨by rw [hU], by rw [hU]; exact hP, va_K.moved hW K.2.2.2.2.2.1, fun L xs h => ?_⟩
    rcases hu.2.2 with h0 | h0
    · rw [h0] at h; cases h
    · obtain ⟨hL, hX, hbl, hbA⟩ := K.2.2.2.2.2.2.2.2.2.2.2.1 L xs (h0.symm.trans h)
      refine ⟨hL, ?_, ?_, ?_⟩
      · rw [hU]
        exact (hX.kept (hS.2.1 b hbl hbA)).moved hW
      · rw [hU]; exact Nat.lt_of_lt_of_le hbl hS.1
      · rintro (⟨i, hi, rfl⟩ | h2)
        · exact hbA (K.2.2.2.2.2.2.2.1 i hi)
        · exact absurd (Nat.lt_of_lt_of_le hbl hS.1) (Nat.not_lt.mpr h2)
theorem zr_callS (hc : zCon y ws nd ab sc fr lo tys rt f) (hu : zFor M nd ab sc) (hrt : rt = 0 ∨ rt = 1 ∨ rt = 4 ∨ rt = 9) (ho : zOk σ) (hxa : zOkA tys xs) (hf : f xs σ = some (r, τ)) (hws : ws = Cond.code y cc2 maxL ret :: ws2) (hG : GoodIn (zTs M) (va_wsS (zown M) index y ws)) (hn : tys.length = n)
    (hy : y.cls ≠ "java/lang/invoke/MethodHandle" ∧ y.cls ≠ "java/lang/invoke/VarHandle" ∧ (parseMethodDescriptor y.desc).map (fun d => d.parameters.length) = some n) (hR : fr + 1 ≤ zfr M ∧ 8 + (maxL + 11) + lo ≤ zlo M) (hwt : zwt st ≤ 8) (hd : decode (zcc M) pc = .ok (.invokestatic index, 3))
    (kn : zRn M (pc + 3) Γ e (zrs rt r ++ st) τ) : zRn M pc Γ e (zsa tys xs ++ st) σ := by
  obtain ⟨hrr, hot, hmo⟩ := hc.1 xs σ r τ ho hxa hf
  refine ⟨Int.le_trans hmo kn.1, ?_⟩
  intro p l en R s m args below meth c cells slots Q D cs ad A b H locs ls K hcc hr _ hP hS hl
  obtain ⟨hHas, hF, hce, hro, hpre⟩ := z_call K hu hmo kn.1 hcc hP hS
  have hM := hc.2 l D cs ad b H.size (zns M) xs σ r τ hHas K.2.2.2.2.2.2.1 ho hxa hf
  refine z_after (st := st) (b := b) hrt hS hF (va_runS (As := zVs ad b tys xs) (n := n) (nL := znl M) (Ts := zTs M) (own := zown M) ⟨K.1, K.2.1, K.2.2.1, K.2.2.2.1, K.2.2.2.2.1⟩ hM (va_cwS n K.2.2.2.2.1 hG hws rfl rfl hy ⟨Nat.le_trans hR.1 K.2.2.2.2.2.2.2.2.2.1, Nat.le_trans hR.2 K.2.2.2.2.2.2.2.2.2.2.1⟩) ⟨zBlind, fun U hU hW => ⟨rfl, hpre U hU hW.alike⟩⟩ rfl ((zVs_len hxa).trans hn) hl.1 zsv_args (lv_room (by rw [zsv_cat]; exact hwt)) hd hce) (fun H1 locs1 hP1 hS1 => ?_)
  exact kn.2 p l en R s m args below meth c _ _ Q D cs ad A b H1 locs1 ls K hro hr hot hP1 hS1 hl
theorem zr_callV {t : Nat} {x : Int} {C : String} {T : u_T} {N : Nat} (hc : zCon y ws nd ab sc fr lo (t :: tys) rt f) (hu : zFor M nd ab sc) (hrt : rt = 0 ∨ rt = 1 ∨ rt = 4 ∨ rt = 9) (ho : zOk σ) (ht : 5 ≤ t) (h7 : t ≤ 7 ∨ 10 ≤ t) (hxa : zOkA (t :: tys) (x :: xs)) (hcl : vwCl[zcl t]? = some (C, T, N)) (hf : f (x :: xs) σ = some (r, τ)) (hws : ws = Cond.code y cc2 maxL ret :: ws2) (hG : GoodIn (zTs M) (wsV (zown M) index C y ws)) (hn : tys.length = n)
    (hy : y.cls = C ∧ y.cls ≠ "java/lang/invoke/MethodHandle" ∧ y.cls ≠ "java/lang/invoke/VarHandle" ∧ (parseMethodDescriptor y.desc).map (fun d => d.parameters.length) = some n) (hR : fr + 1 ≤ zfr M ∧ 8 + (maxL + 11) + lo ≤ zlo M) (hwt : zwt st ≤ 8) (hd : decode (zcc M) pc = .ok (.invokevirtual index, 3))
    (kn : zRn M (pc + 3) Γ e (zrs rt r ++ st) τ) : zRn M pc Γ e (zsa (t :: tys) (x :: xs) ++ st) σ := by
  obtain ⟨hrr, hot, hmo⟩ := hc.1 (x :: xs) σ r τ ho hxa hf
  refine ⟨Int.le_trans hmo kn.1, ?_⟩
  intro p l en R s m args below meth c cells slots Q D cs ad A b H locs ls K hcc hr _ hP hS hl
  obtain ⟨hHas, hF, hce, hro, hpre⟩ := z_call K hu hmo kn.1 hcc hP hS
  have hM := hc.2 l D cs ad b H.size (zns M) (x :: xs) σ r τ hHas K.2.2.2.2.2.2.1 ho hxa hf
  obtain ⟨o, h1, rfl, h4, h5⟩ := zcl_ok ht h7 hxa.1
  have hz := zcl_lt hcl
  have hg := zW_get cs ad σ (ns := zns M) (K.2.2.2.2.2.2.2.2.2.2.2.2.1.2 o (zoc_37 (by omega)))
  rw [zcell_o (by omega), h4] at hg
  have hv : zVs ad b (t :: tys) ((o : Int) :: xs) = Value.ref (ad o) :: zVs ad b tys xs := by
    show zV ad b t o :: zVs ad b tys xs = _
    rw [zV_ref ht]
    rfl
  have hst : zsv ad b (zsa (t :: tys) ((o : Int) :: xs) ++ st) = (zVs ad b tys xs).reverse ++ Value.ref (ad o) :: zsv ad b st := by
    rw [zsv_args, hv, List.reverse_cons, List.append_assoc]
    rfl
  rw [hv] at hM
  refine z_after (st := st) (b := b) hrt hS hF (va_runV (As := zVs ad b tys xs) (n := n) (b := ad o) (C := C) (nL := znl M) (Ts := zTs M) (own := zown M) ⟨K.1, K.2.1, K.2.2.1, K.2.2.2.1, K.2.2.2.2.1⟩ hM (cwV n K.2.2.2.2.1 hG hws rfl rfl hy ⟨Nat.le_trans hR.1 K.2.2.2.2.2.2.2.2.2.1, Nat.le_trans hR.2 K.2.2.2.2.2.2.2.2.2.2.1⟩) ⟨zBlind, va_recv K.2.2.2.2.2.1 hP hcl hg, fun U hU hW => ⟨rfl, hpre U hU hW.alike⟩⟩ rfl ((zVs_len hxa.2).trans hn) hl.1 hst (lv_room (by rw [zsv_cat]; exact hwt)) hd hce) (fun H1 locs1 hP1 hS1 => ?_)
  exact kn.2 p l en R s m args below meth c _ _ Q D cs ad A b H1 locs1 ls K hro hr hot hP1 hS1 hl
end ZCALL
def zsl : Nat → List Nat → List (Nat × Nat)
  | _, [] => []
  | i, t :: ts => (i, t) :: zsl (i + zcat t) ts
def zlay : List Nat → List Int → List Int
  | t :: ts, x :: xs => if zcat t = 2 then x :: 0 :: zlay ts xs else x :: zlay ts xs
  | _, _ => []
def zpad (nL : Nat) (tys : List Nat) (xs : List Int) : List Int := zlay tys xs ++ List.replicate (nL - (tys.map zcat).sum) 0
theorem zcat_12 (t : Nat) : zcat t = 1 ∨ zcat t = 2 := by
  unfold zcat
  split <;> simp
theorem zlay_len : ∀ {tys : List Nat} {xs : List Int}, zOkA tys xs → (zlay tys xs).length = (tys.map zcat).sum
  | [], [], _ => rfl
  | t :: ts, x :: xs, h => by
    have ih := zlay_len h.2
    rcases zcat_12 t with q | q
    · simp [zlay, q, ih]; omega
    · simp [zlay, q, ih]; omega
theorem zg_app {pre l : List Int} {x : Int} : zg (pre ++ x :: l) pre.length = x := by
  simp [zg]
theorem zargs_eq {ad : Nat → Nat} {b : Nat} : ∀ {tys : List Nat} {xs : List Int} (pre tl : List Int), zOkA tys xs → lv_args pre.length (zVs ad b tys xs) = zLs ad b (zsl pre.length tys) (pre ++ zlay tys xs ++ tl) ∧ ∀ q ∈ zsl pre.length tys, inR q.2 (zg (pre ++ zlay tys xs ++ tl) q.1)
  | [], [], pre, tl, _ => ⟨rfl, fun _ h => absurd h List.not_mem_nil⟩
  | t :: ts, x :: xs, pre, tl, h => by
    rcases zcat_12 t with q | q
    · have e0 : pre ++ zlay (t :: ts) (x :: xs) ++ tl = (pre ++ [x]) ++ zlay ts xs ++ tl := by simp [zlay, q]
      have el : (pre ++ [x]).length = pre.length + 1 := by simp
      obtain ⟨i1, i2⟩ := zargs_eq (ad := ad) (b := b) (tys := ts) (xs := xs) (pre ++ [x]) tl h.2
      rw [el] at i1 i2
      have eg : zg ((pre ++ [x]) ++ zlay ts xs ++ tl) pre.length = x := by
        rw [List.append_assoc, List.append_assoc]; exact zg_app
      rw [e0]
      constructor
      · show (pre.length, zV ad b t x) :: lv_args (if (zV ad b t x).category = 2 then pre.length + 2 else pre.length + 1) (zVs ad b ts xs) = (pre.length, zV ad b t (zg _ pre.length)) :: zLs ad b (zsl (pre.length + zcat t) ts) _
        rw [zV_cat, q, if_neg (by omega), i1, eg]
      · intro z hz
        rcases List.mem_cons.mp hz with rfl | hz
        · show inR t (zg _ pre.length)
          rw [eg]; exact h.1
        · rw [q] at hz
          exact i2 z hz
    · have e0 : pre ++ zlay (t :: ts) (x :: xs) ++ tl = (pre ++ [x, 0]) ++ zlay ts xs ++ tl := by simp [zlay, q]
      have el : (pre ++ [x, 0]).length = pre.length + 2 := by simp
      obtain ⟨i1, i2⟩ := zargs_eq (ad := ad) (b := b) (tys := ts) (xs := xs) (pre ++ [x, 0]) tl h.2
      rw [el] at i1 i2
      have eg : zg ((pre ++ [x, 0]) ++ zlay ts xs ++ tl) pre.length = x := by
        rw [List.append_assoc, List.append_assoc]; exact zg_app
      rw [e0]
      constructor
      · show (pre.length, zV ad b t x) :: lv_args (if (zV ad b t x).category = 2 then pre.length + 2 else pre.length + 1) (zVs ad b ts xs) = (pre.length, zV ad b t (zg _ pre.length)) :: zLs ad b (zsl (pre.length + zcat t) ts) _
        rw [zV_cat, q, if_pos rfl, i1, eg]
      · intro z hz
        rcases List.mem_cons.mp hz with rfl | hz
        · show inR t (zg _ pre.length)
          rw [eg]; exact h.1
        · rw [q] at hz
          exact i2 z hz
theorem zsl_len {ad : Nat → Nat} {b : Nat} : ∀ {tys : List Nat} {xs : List Int}, zOkA tys xs → (lg_sl (zVs ad b tys xs)).length = (tys.map zcat).sum
  | [], [], _ => rfl
  | t :: ts, x :: xs, h => by
    have ih := zsl_len (ad := ad) (b := b) h.2
    have e : lg_sl (zVs ad b (t :: ts) (x :: xs)) = (if (zV ad b t x).category = 2 then [.val (zV ad b t x), .second] else [.val (zV ad b t x)]) ++ lg_sl (zVs ad b ts xs) := rfl
    rw [e, List.length_append, ih, zV_cat]
    rcases zcat_12 t with q | q
    · rw [if_neg (by omega)]; simp [q]
    · rw [if_pos q]; simp [q]
abbrev zS : Type := List Int → zHp → Option (Nat × List Int × zHp)
/-- a statement from pc a on (kind 0: on at b; 1: an answer; 2, 3: out, on with the next round) -/
def zSt (M : zM) (Γ : List (Nat × Nat)) (a b : Nat) (Γ2 : List (Nat × Nat)) (X : Nat → Nat × List (Nat × Nat)) (g : zS) : Prop :=
  ∀ (e : List Int) (σ : zHp) (t : Nat) (e2 : List Int) (τ : zHp), zOk σ → zE M Γ e → g e σ = some (t, e2, τ) →
    zOk τ ∧ (t = 0 → zE M Γ2 e2 ∧ (zRn M b Γ2 e2 [] τ → zRn M a Γ e [] σ)) ∧ (t = 1 → zrr (zrt M) (zg e2 0) ∧ (zpo M (zg e2 0) τ ∧ zct τ ≤ zcp M → zRn M a Γ e [] σ)) ∧ (2 ≤ t → zE M (X t).2 e2 ∧ (zRn M (X t).1 (X t).2 e2 [] τ → zRn M a Γ e [] σ))
def zRun (nL : Nat) (tys : List Nat) (d : zS) : List Int → zHp → Option (Int × zHp) := fun xs σ => (d (zpad nL tys xs) σ).bind fun q => if q.1 = 1 then some (zg q.2.1 0, q.2.2) else none
theorem zMk {y : MethodName} {own : String} {cc : ByteArray} {nL fr lo rt b : Nat} {ret : Option FieldType} {ws ws2 : List Cond} {nd ab : List Nat} {sc : zSc} {tys : List Nat} {d : zS} {Γ2 : List (Nat × Nat)} {X : Nat → Nat × List (Nat × Nat)} (hy : plainName y.cls = true) (hw : ws = Cond.code y cc nL ret :: ws2) (hown : y.cls = own) (hlen : (tys.map zcat).sum ≤ nL)
    (hret : rt = 0 ∧ ret = some .int ∨ rt = 1 ∧ ret = some .long ∨ rt = 4 ∧ ret = some .boolean ∨ rt = 9 ∧ ret = none)
    (hex : ∃ ns, zHas ns nd ab)
    (hS : ∀ (P : Int → zHp → Prop) (cp : Int) (ns : List Nat), zHas ns nd ab → zSt (own, cc, nL, ws, fr, lo, sc, rt, ns, ns, cp, P) (zsl 0 tys) 0 b Γ2 X d) : zCon y ws nd ab sc fr lo tys rt (zRun nL tys d) := by
  have key : ∀ (ns : List Nat) (xs : List Int) (σ : zHp) (r : Int) (τ : zHp), zHas ns nd ab → zOk σ → zOkA tys xs → zRun nL tys d xs σ = some (r, τ) → (zrr rt r ∧ zOk τ) ∧ zRn (own, cc, nL, ws, fr, lo, sc, rt, ns, ns, zct τ, fun v τ' => v = r ∧ τ' = τ) 0 (zsl 0 tys) (zpad nL tys xs) [] σ := by
    intro ns xs σ r τ hh ho hxa hf
    obtain ⟨⟨t, e2, τ2⟩, h1, h2⟩ := Option.bind_eq_some_iff.mp hf
    dsimp only at h2
    by_cases ht : t = 1
    case neg => rw [if_neg ht] at h2; cases h2
    subst ht
    rw [if_pos rfl] at h2
    cases h2
    obtain ⟨hz1, hz2⟩ := zargs_eq (ad := fun i => i) (b := 0) (tys := tys) (xs := xs) [] (List.replicate (nL - (tys.map zcat).sum) 0) hxa
    have hE : zE (own, cc, nL, ws, fr, lo, sc, rt, ns, ns, zct τ, fun v τ' => v = zg e2 0 ∧ τ' = τ) (zsl 0 tys) (zpad nL tys xs) := by
      refine ⟨?_, hz2⟩
      show (zpad nL tys xs).length = nL
      unfold zpad
      rw [List.length_append, zlay_len hxa, List.length_replicate]
      omega
    obtain ⟨hot, -, hs1, -⟩ := hS (fun v τ' => v = zg e2 0 ∧ τ' = τ) (zct τ) ns hh (zpad nL tys xs) σ 1 e2 τ ho hE h1
    obtain ⟨hrr, hRn⟩ := hs1 rfl
    exact ⟨⟨hrr, hot⟩, hRn ⟨⟨rfl, rfl⟩, Int.le_refl _⟩⟩
  refine ⟨fun xs σ r τ ho hxa hf => ?_, ?_⟩
  · obtain ⟨ns, hh⟩ := hex
    have h := key ns xs σ r τ hh ho hxa hf
    exact ⟨h.1.1, h.1.2, h.2.1⟩
  intro l D cs ad bb sz ns xs σ r τ hh hinj ho hxa hf
  obtain ⟨⟨hrr, hot⟩, hRn⟩ := key ns xs σ r τ hh ho hxa hf
  have hmo : zct σ ≤ zct τ := hRn.1
  obtain ⟨hz1, -⟩ := zargs_eq (ad := ad) (b := bb) (tys := tys) (xs := xs) [] (List.replicate (nL - (tys.map zcat).sum) 0) hxa
  refine Met.ofW (cc := cc) (maxL := nL) (ret := ret) hy hw ?_
  intro p en s m args below meth c s₁ B hml hv
  obtain ⟨rfl, hsz, hP, hK, hX⟩ := hv
  have hr := B.returns
  have hlocks := B.notSynchronized
  have hx := B.exec
  have hb := B.bytes
  have hl := lv_entry (zVs ad bb tys xs) (n := nL) (by rw [zsl_len hxa]; exact hlen)
  rw [lg_entry_eq]
  generalize (lg_sl (zVs ad bb tys xs) ++ List.replicate (nL - (lg_sl (zVs ad bb tys xs)).length) Slot.unset).toArray = ls at hl ⊢
  subst hsz
  have hl2 : lv_has ls nL (zLs ad bb (zsl 0 tys) (zpad nL tys xs)) := by
    have : lv_args 0 (zVs ad bb tys xs) = zLs ad bb (zsl 0 tys) (zpad nL tys xs) := hz1
    rw [← this]; exact hl
  have em : ((zmc σ τ : Nat) : Int) = zct τ - zct σ := by unfold zmc; omega
  refine hRn.2 p l en _ s m _ below meth c 0 0 _ D cs ad (zA ns ad s.heap.size) bb s.heap [] ls ⟨B.exec, B.bytes, hml, hown ▸ findClass_of_methodNamed B.named, atoms_spec (ws := ws) B.pre, hK, hinj, fun i hi => Or.inl ⟨i, hi, rfl⟩, fun q h => Or.inr h, Nat.le_refl fr, Nat.le_refl lo, hX, hh.1, fun k hk => hk⟩ ⟨by show ((0 : Nat) : Int) + (zct τ - zct σ) ≤ ((zmc σ τ : Nat) : Int); omega, by show ((0 : Nat) : Int) + 16 * (zct τ - zct σ) ≤ ((16 * zmc σ τ : Nat) : Int); omega⟩ ?_ ho hP va_S.rf hl2
  intro v τ' H locs ls pc cells slots hpo hrr' hot' _ hro hP' hS' hri
  obtain ⟨e1, e2⟩ := hpo
  rw [e1]
  rw [e2] at hP' hro
  obtain ⟨r1, r2⟩ := hro
  have r1 : (cells : Int) + (zct τ - zct τ) ≤ ((zmc σ τ : Nat) : Int) := r1
  have r2 : (slots : Int) + 16 * (zct τ - zct τ) ≤ ((16 * zmc σ τ : Nat) : Int) := r2
  refine W.widen (k := zmc σ τ) (n := 16 * zmc σ τ) (by omega) (by omega) ?_
  rcases hret with ⟨rfl, rfl⟩ | ⟨rfl, rfl⟩ | ⟨rfl, rfl⟩ | ⟨rfl, rfl⟩
  · exact W.iret (v := Int32.ofInt r) hx hb hr (fun t ht hW => ⟨⟨_, (), rfl, rfl, by show va_P D vwCl (zW cs ad τ ns) t.heap; rw [ht]; exact hP'⟩, hS'.F ht⟩) hS'.2.2 hri
  · exact W.lret (v := Int64.ofInt r) hx hb hr (fun t ht hW => ⟨⟨_, (), rfl, rfl, by show va_P D vwCl (zW cs ad τ ns) t.heap; rw [ht]; exact hP'⟩, hS'.F ht⟩) hS'.2.2 hri
  · have hn : narrow .boolean (.int (Int32.ofInt r)) = .int (Int32.ofInt r) := by
      rcases hrr with h | h | h
      · cases h
      · rw [h]; decide +kernel
      · rw [h]; decide +kernel
    exact W.zret (v := Int32.ofInt r) hx hb hr hn (fun t ht hW => ⟨⟨_, (), rfl, rfl, by show va_P D vwCl (zW cs ad τ ns) t.heap; rw [ht]; exact hP'⟩, hS'.F ht⟩) hS'.2.2 hri
  · exact W.vret hx hb hr (fun t ht hW => ⟨⟨(), rfl, trivial, by show va_P D vwCl (zW cs ad τ ns) t.heap; rw [ht]; exact hP'⟩, hS'.F ht⟩) hS'.2.2 hri
theorem zex_0 : ∃ ns, zHas ns [] [] := ⟨List.range 37, ⟨by decide +kernel, fun o h => List.mem_range.mpr h⟩, znd_0, znd_0⟩
end
section
/-! what an expression, a condition, a row of arguments and a statement come to: pure functions of locals and world -/
abbrev zX : Type := List Int → zHp → Option (Int × zHp)
abbrev zC : Type := List Int → zHp → Option (Bool × zHp)
abbrev zAs : Type := List Int → zHp → Option (List Int × zHp)
def xC (c : Int) : zX := fun _ σ => some (c, σ)
def xL (k : Nat) : zX := fun e σ => some (zg e k, σ)
def xU (op : Int → Int) (f : zX) : zX := fun e σ => (f e σ).bind fun r => some (op r.1, r.2)
def xB (op : Int → Int → Int) (f g : zX) : zX := fun e σ => (f e σ).bind fun r => (g e r.2).bind fun q => some (op r.1 q.1, q.2)
def xD (op : Int → Int → Int) (f g : zX) : zX := fun e σ => (f e σ).bind fun r => (g e r.2).bind fun q => if q.1 = 0 then none else some (op r.1 q.1, q.2)
/-- a field of the cell that f is; of cell o -/
def xF (f : zX) (k : Int) : zX := fun e σ => (f e σ).bind fun r => some (r.2 r.1 k, r.2)
def xG (o k : Int) : zX := fun _ σ => some (σ o k, σ)
/-- a place of a row of N cells: the row that f is; row o -/
def xA (f : zX) (N : Int) (g : zX) : zX := fun e σ => (f e σ).bind fun r => (g e r.2).bind fun q => if 0 ≤ q.1 ∧ q.1 < N then some (q.2 r.1 q.1, q.2) else none
def xE (o N : Int) (g : zX) : zX := fun e σ => (g e σ).bind fun q => if 0 ≤ q.1 ∧ q.1 < N then some (q.2 o q.1, q.2) else none
/-- the sheet at a place -/
def xH (g : zX) : zX := fun e σ => (g e σ).bind fun q => if 0 ≤ q.1 ∧ q.1 < 4 then some (29 + 2 * q.1, q.2) else none
/-- the script's place -/
def xT (L : Nat) (xs : Nat → Int32) (g : zX) : zX := fun e σ => (g e σ).bind fun q => if 0 ≤ q.1 ∧ q.1 < L then some ((xs q.1.toNat).toInt, q.2) else none
def xI (c : zC) (f g : zX) : zX := fun e σ => (c e σ).bind fun r => if r.1 then f e r.2 else g e r.2
def xZ (c : zC) : zX := fun e σ => (c e σ).bind fun r => some (if r.1 then 1 else 0, r.2)
def xK (m : List Int → zHp → Option (Int × zHp)) (fs : zAs) : zX := fun e σ => (fs e σ).bind fun r => m r.1 r.2
def aN : zAs := fun _ σ => some ([], σ)
def aC (f : zX) (g : zAs) : zAs := fun e σ => (f e σ).bind fun r => (g e r.2).bind fun q => some (r.1 :: q.1, q.2)
def cR (rel : Int → Int → Bool) (f g : zX) : zC := fun e σ => (f e σ).bind fun r => (g e r.2).bind fun q => some (rel r.1 q.1, q.2)
def cV (rel : Int → Bool) (f : zX) : zC := fun e σ => (f e σ).bind fun r => some (rel r.1, r.2)
def cA (f g : zC) : zC := fun e σ => (f e σ).bind fun r => if r.1 then g e r.2 else some (false, r.2)
def cO (f g : zC) : zC := fun e σ => (f e σ).bind fun r => if r.1 then some (true, r.2) else g e r.2
def cN (f : zC) : zC := fun e σ => (f e σ).bind fun r => some (!r.1, r.2)
def sS (k : Nat) (f : zX) : zS := fun e σ => (f e σ).bind fun r => some (0, e.set k r.1, r.2)
def sX (f : zX) : zS := fun e σ => (f e σ).bind fun r => some (0, e, r.2)
def sF (fo : zX) (k : Int) (f : zX) : zS := fun e σ => (fo e σ).bind fun r => (f e r.2).bind fun q => some (0, e, zput q.2 r.1 k q.1)
def sG (o k : Int) (f : zX) : zS := fun e σ => (f e σ).bind fun q => some (0, e, zput q.2 o k q.1)
def sA (fo : zX) (N : Int) (g f : zX) : zS := fun e σ => (fo e σ).bind fun r => (g e r.2).bind fun i => (f e i.2).bind fun q => if 0 ≤ i.1 ∧ i.1 < N then some (0, e, zput q.2 r.1 i.1 q.1) else none
def sE (o N : Int) (g f : zX) : zS := fun e σ => (g e σ).bind fun i => (f e i.2).bind fun q => if 0 ≤ i.1 ∧ i.1 < N then some (0, e, zput q.2 o i.1 q.1) else none
/-- a place of row o becomes op of what it is and f -/
def sEo (op : Int → Int → Int) (o N : Int) (g f : zX) : zS := fun e σ => (g e σ).bind fun i => if 0 ≤ i.1 ∧ i.1 < N then (f e i.2).bind fun q => some (0, e, zput q.2 o i.1 (op (i.2 o i.1) q.1)) else none
def sK : zS := fun e σ => some (0, e, σ)
def sQ (f g : zS) : zS := fun e σ => (f e σ).bind fun r => if r.1 = 0 then g r.2.1 r.2.2 else some r
def sI (c : zC) (f g : zS) : zS := fun e σ => (c e σ).bind fun r => if r.1 then f e r.2 else g e r.2
def sR (f : zX) : zS := fun e σ => (f e σ).bind fun r => some (1, [r.1], r.2)
def sV : zS := fun _ σ => some (1, [0], σ)
def sB : zS := fun e σ => some (2, e, σ)
def sC : zS := fun e σ => some (3, e, σ)
/-- locals that go out of sight are 0 from there on -/
def zclr (ks : List Nat) (e : List Int) : List Int := ks.foldl (fun e k => e.set k 0) e
def sD (ks : List Nat) (f : zS) : zS := fun e σ => (f e σ).bind fun r => if r.1 = 1 then some r else some (r.1, zclr ks r.2.1, r.2.2)
def zloop (c : zC) (f s : zS) : Nat → List Int → zHp → Option (Nat × List Int × zHp)
  | 0, _, _ => none
  | n + 1, e, σ => (c e σ).bind fun r => if r.1 then (f e r.2).bind fun q => if q.1 = 0 ∨ q.1 = 3 then (s q.2.1 q.2.2).bind fun z => if z.1 = 0 then zloop c f s n z.2.1 z.2.2 else none else if q.1 = 2 then some (0, q.2) else if q.1 = 1 then some q else none else some (0, e, r.2)
def zfuel : Nat := 10000000
def sW (c : zC) (f s : zS) : zS := fun e σ => zloop c f s zfuel e σ
def zpick (d : zS) : List zS → Int → zS
  | [], _ => d
  | g :: gs, i => if i = 0 then g else zpick d gs (i - 1)
def sN (f : zX) (lo : Int) (gs : List zS) (d : zS) : zS := fun e σ => (f e σ).bind fun r => ((if r.1 < lo then d else zpick d gs (r.1 - lo)) e r.2).bind fun q => if q.1 = 2 then some (0, q.2) else some q
/-! that the machine comes to them -/
def zEx (M : zM) (Γ : List (Nat × Nat)) (n t a b : Nat) (f : zX) : Prop :=
  ∀ (e : List Int) (σ : zHp) (v : Int) (τ : zHp) (st : List (Nat × Int)), zOk σ → zE M Γ e → f e σ = some (v, τ) → zwt st ≤ n → (inR t v ∧ zOk τ) ∧ (zRn M b Γ e ((t, v) :: st) τ → zRn M a Γ e st σ)
def zAr (M : zM) (Γ : List (Nat × Nat)) (n : Nat) (ts : List Nat) (a b : Nat) (f : zAs) : Prop :=
  ∀ (e : List Int) (σ : zHp) (vs : List Int) (τ : zHp) (st : List (Nat × Int)), zOk σ → zE M Γ e → f e σ = some (vs, τ) → zwt st ≤ n → (zOkA ts vs ∧ zOk τ) ∧ (zRn M b Γ e (zsa ts vs ++ st) τ → zRn M a Γ e st σ)
def zCn (M : zM) (Γ : List (Nat × Nat)) (n a tt ff : Nat) (f : zC) : Prop :=
  ∀ (e : List Int) (σ : zHp) (v : Bool) (τ : zHp) (st : List (Nat × Int)), zOk σ → zE M Γ e → f e σ = some (v, τ) → zwt st ≤ n → zOk τ ∧ (zRn M (if v then tt else ff) Γ e st τ → zRn M a Γ e st σ)
section ZX
variable {M : zM} {Γ : List (Nat × Nat)} {n a b d t t1 t2 : Nat} {f g : zX}
theorem zwt_cons (t : Nat) (x : Int) (st : List (Nat × Int)) : zwt ((t, x) :: st) = zcat t + zwt st := by simp [zwt]
theorem zx_leaf {w : List Int → Int} (hr : ∀ e, zE M Γ e → inR t (w e)) (hs : ∀ e σ st, zE M Γ e → zRn M b Γ e ((t, w e) :: st) σ → zRn M a Γ e st σ) : zEx M Γ n t a b (fun e σ => some (w e, σ)) := by
  intro e σ v τ st ho hE h hw
  cases h
  exact ⟨⟨hr e hE, ho⟩, hs e σ st hE⟩
theorem zx_iconst {c m : Int} (hd : decode (zcc M) a = .ok (.iconst m, 1)) (hm : m = c) (hc : -2147483648 ≤ c ∧ c < 2147483648) : zEx M Γ n 0 a (a + 1) (xC c) := zx_leaf (fun _ _ => hc) (fun _ _ _ _ k => zr_iconst hd hm k)
theorem zx_bipush {c m : Int} (hd : decode (zcc M) a = .ok (.bipush m, 2)) (hm : (Int8.ofInt m).toInt32 = Int32.ofInt c) (hc : -2147483648 ≤ c ∧ c < 2147483648) : zEx M Γ n 0 a (a + 2) (xC c) := zx_leaf (fun _ _ => hc) (fun _ _ _ _ k => zr_bipush hd hm k)
theorem zx_sipush {c m : Int} (hd : decode (zcc M) a = .ok (.sipush m, 3)) (hm : (Int16.ofInt m).toInt32 = Int32.ofInt c) (hc : -2147483648 ≤ c ∧ c < 2147483648) : zEx M Γ n 0 a (a + 3) (xC c) := zx_leaf (fun _ _ => hc) (fun _ _ _ _ k => zr_sipush hd hm k)
theorem zx_lconst {c : Int} {m : Fin 2} (hd : decode (zcc M) a = .ok (.lconst m, 1)) (hm : Int64.ofNat (m : Nat) = Int64.ofInt c) (hc : -9223372036854775808 ≤ c ∧ c < 9223372036854775808) : zEx M Γ n 1 a (a + 1) (xC c) := zx_leaf (fun _ _ => hc) (fun _ _ _ _ k => zr_lconst hd hm k)
theorem zx_ldc2 {c : Int} {index : Nat} {x : Int64} (hd : decode (zcc M) a = .ok (.ldc2_w index, 3)) (hw : Cond.constantLong (zown M) index x ∈ zTs M) (hm : x = Int64.ofInt c) (hc : -9223372036854775808 ≤ c ∧ c < 9223372036854775808) : zEx M Γ n 1 a (a + 3) (xC c) := zx_leaf (fun _ _ => hc) (fun _ _ _ _ k => zr_ldc2 hd hw hm k)
theorem zx_ldc {c : Int} {index : Nat} {x : Int32} (hd : decode (zcc M) a = .ok (.ldc index, 2)) (hw : Cond.constant (zown M) index x ∈ zTs M) (hm : x = Int32.ofInt c) (hc : -2147483648 ≤ c ∧ c < 2147483648) : zEx M Γ n 0 a (a + 2) (xC c) := zx_leaf (fun _ _ => hc) (fun _ _ _ _ k => zr_ldc hd hw hm k)
theorem zx_ldcw {c : Int} {index : Nat} {x : Int32} (hd : decode (zcc M) a = .ok (.ldc_w index, 3)) (hw : Cond.constant (zown M) index x ∈ zTs M) (hm : x = Int32.ofInt c) (hc : -2147483648 ≤ c ∧ c < 2147483648) : zEx M Γ n 0 a (a + 3) (xC c) := zx_leaf (fun _ _ => hc) (fun _ _ _ _ k => zr_ldcw hd hw hm k)
theorem zx_iload_n {k : Fin 4} {i : Nat} (hd : decode (zcc M) a = .ok (.iload_n k, 1)) (hi : (k : Nat) = i) (hm : (i, 0) ∈ Γ) : zEx M Γ n 0 a (a + 1) (xL i) := zx_leaf (fun e hE => hE.2 (i, 0) hm) (fun _ _ _ _ q => zr_iload_n hd hi hm q)
theorem zx_iload {i : Nat} (hd : decode (zcc M) a = .ok (.iload i, 2)) (hm : (i, 0) ∈ Γ) : zEx M Γ n 0 a (a + 2) (xL i) := zx_leaf (fun e hE => hE.2 (i, 0) hm) (fun _ _ _ _ q => zr_iload hd hm q)
theorem zx_lload_n {k : Fin 4} {i : Nat} (hd : decode (zcc M) a = .ok (.lload_n k, 1)) (hi : (k : Nat) = i) (hm : (i, 1) ∈ Γ) : zEx M Γ n 1 a (a + 1) (xL i) := zx_leaf (fun e hE => hE.2 (i, 1) hm) (fun _ _ _ _ q => zr_lload_n hd hi hm q)
theorem zx_lload {i : Nat} (hd : decode (zcc M) a = .ok (.lload i, 2)) (hm : (i, 1) ∈ Γ) : zEx M Γ n 1 a (a + 2) (xL i) := zx_leaf (fun e hE => hE.2 (i, 1) hm) (fun _ _ _ _ q => zr_lload hd hm q)
theorem zx_zload_n {k : Fin 4} {i : Nat} (hd : decode (zcc M) a = .ok (.iload_n k, 1)) (hi : (k : Nat) = i) (hm : (i, 4) ∈ Γ) : zEx M Γ n 4 a (a + 1) (xL i) := zx_leaf (fun e hE => hE.2 (i, 4) hm) (fun _ _ _ _ q => zr_zload_n hd hi hm q)
theorem zx_zload {i : Nat} (hd : decode (zcc M) a = .ok (.iload i, 2)) (hm : (i, 4) ∈ Γ) : zEx M Γ n 4 a (a + 2) (xL i) := zx_leaf (fun e hE => hE.2 (i, 4) hm) (fun _ _ _ _ q => zr_zload hd hm q)
theorem zx_aload_n {k : Fin 4} {i : Nat} (hd : decode (zcc M) a = .ok (.aload_n k, 1)) (hi : (k : Nat) = i) (ht : 5 ≤ t) (hm : (i, t) ∈ Γ) : zEx M Γ n t a (a + 1) (xL i) := zx_leaf (fun e hE => hE.2 (i, t) hm) (fun _ _ _ _ q => zr_aload_n hd hi ht hm q)
theorem zx_aload {i : Nat} (hd : decode (zcc M) a = .ok (.aload i, 2)) (ht : 5 ≤ t) (hm : (i, t) ∈ Γ) : zEx M Γ n t a (a + 2) (xL i) := zx_leaf (fun e hE => hE.2 (i, t) hm) (fun _ _ _ _ q => zr_aload hd ht hm q)
theorem inR_o {o : Nat} {x : Int} (h : inR (o + 10) x) : x = o ∧ 0 ≤ x ∧ x < 43 := by
  have h2 : x = ((o + 10 : Nat) : Int) - 10 ∧ 0 ≤ x ∧ x < 43 := h
  omega
theorem inR_of {o : Nat} (h : o < 43) : inR (o + 10) (o : Int) := by
  show (o : Int) = ((o + 10 : Nat) : Int) - 10 ∧ 0 ≤ (o : Int) ∧ (o : Int) < 43
  omega
theorem zx_this {o i : Nat} {k : Fin 4} {w : Int} (hd : decode (zcc M) a = .ok (.aload_n k, 1)) (hi : (k : Nat) = i) (hw : w = (o : Int)) (ho : o < 43) (hm : (i, o + 10) ∈ Γ) : zEx M Γ n (o + 10) a (a + 1) (xC w) := by
  subst hw
  refine zx_leaf (w := fun _ => (o : Int)) (fun e hE => inR_of ho) (fun e σ st hE q => zr_aload_n hd hi (by omega) hm ?_)
  have h0 : zg e i = (o : Int) := (inR_o (hE.2 (i, o + 10) hm)).1
  rw [h0]
  exact q
theorem zx_path {o o2 k index N : Nat} {C : String} {T : u_T} {w w2 : Int} (hf : zEx M Γ n (o + 10) a b (xC w)) (hw0 : w = (o : Int)) (ho : o < 43) (hc : vwCl[zcl (o + 10)]? = some (C, T, N)) (hN : zln (o + 10) = N) (hk : k < N) (hin : ∀ w ∈ u_ws C T N, w ∈ zTs M)
    (hw : Cond.fieldLink (zown M) index (T k).1 (T k).2.1 (T k).2.2.1 ∈ zTs M) (hft : zft (zcl (o + 10)) k = 2) (hs : zsh o k = o2) (hw2 : w2 = (o2 : Int)) (hd : decode (zcc M) b = .ok (.getfield index, 3)) : zEx M Γ n (o2 + 10) a (b + 3) (xC w2) := by
  subst hw2
  subst hw0
  intro e σ v τ st hok hE h hwt
  cases h
  obtain ⟨⟨r1, r2⟩, k1⟩ := hf e σ o σ st hok hE rfl hwt
  refine ⟨⟨inR_of (Nat.lt_trans (hs ▸ zsh_lt o k) (by decide)), hok⟩, fun kn => k1 ?_⟩
  refine zr_getr (by omega) (by omega) r1 hc hN hk hin hw hft (t2 := o2 + 10) (by omega) (fun u hu => ?_) hd kn
  have hou : o = u := by omega
  subst hou
  rw [hs]; simp
theorem zx_sub (hf : zEx M Γ n 4 a b f) : zEx M Γ n 0 a b f := by
  intro e σ v τ st hok hE h hwt
  obtain ⟨⟨r1, r2⟩, k1⟩ := hf e σ v τ st hok hE h hwt
  refine ⟨⟨?_, r2⟩, fun kn => k1 ?_⟩
  · rcases r1 with rfl | rfl
    · exact ⟨by decide, by decide⟩
    · exact ⟨by decide, by decide⟩
  · exact kn
theorem zx_un {op : Int → Int} (hf : zEx M Γ n t1 a b f) (hs : ∀ e st σ x, inR t1 x → inR t (op x) ∧ (zRn M d Γ e ((t, op x) :: st) σ → zRn M b Γ e ((t1, x) :: st) σ)) : zEx M Γ n t a d (xU op f) := by
  intro e σ v τ st hok hE h hwt
  obtain ⟨⟨x, σ1⟩, h1, h2⟩ := Option.bind_eq_some_iff.mp h
  cases h2
  obtain ⟨⟨r1, r2⟩, k1⟩ := hf e σ x _ st hok hE h1 hwt
  obtain ⟨r3, k3⟩ := hs e st _ x r1
  exact ⟨⟨r3, r2⟩, fun k => k1 (k3 k)⟩
theorem zx_bin {op : Int → Int → Int} {c : Nat} (hf : zEx M Γ n t1 a b f) (hg : zEx M Γ (n + zcat t1) t2 b c g) (hs : ∀ e st σ x y, inR t1 x → inR t2 y → inR t (op x y) ∧ (zRn M d Γ e ((t, op x y) :: st) σ → zRn M c Γ e ((t2, y) :: (t1, x) :: st) σ)) : zEx M Γ n t a d (xB op f g) := by
  intro e σ v τ st hok hE h hwt
  obtain ⟨⟨x, σ1⟩, h1, h2⟩ := Option.bind_eq_some_iff.mp h
  obtain ⟨⟨y, σ2⟩, h3, h4⟩ := Option.bind_eq_some_iff.mp h2
  cases h4
  obtain ⟨⟨r1, o1⟩, k1⟩ := hf e σ x σ1 st hok hE h1 hwt
  obtain ⟨⟨r2, o2⟩, k2⟩ := hg e σ1 y _ ((t1, x) :: st) o1 hE h3 (by rw [zwt_cons]; omega)
  obtain ⟨r3, k3⟩ := hs e st _ x y r1 r2
  exact ⟨⟨r3, o2⟩, fun k => k1 (k2 (k3 k))⟩
theorem zx_dv {op : Int → Int → Int} {c : Nat} (hf : zEx M Γ n t1 a b f) (hg : zEx M Γ (n + zcat t1) t2 b c g) (hs : ∀ e st σ x y, inR t1 x → inR t2 y → y ≠ 0 → inR t (op x y) ∧ (zRn M d Γ e ((t, op x y) :: st) σ → zRn M c Γ e ((t2, y) :: (t1, x) :: st) σ)) : zEx M Γ n t a d (xD op f g) := by
  intro e σ v τ st hok hE h hwt
  obtain ⟨⟨x, σ1⟩, h1, h2⟩ := Option.bind_eq_some_iff.mp h
  obtain ⟨⟨y, σ2⟩, h3, h4⟩ := Option.bind_eq_some_iff.mp h2
  dsimp only at h4
  by_cases hy : y = 0
  · rw [if_pos hy] at h4; cases h4
  rw [if_neg hy] at h4
  cases h4
  obtain ⟨⟨r1, o1⟩, k1⟩ := hf e σ x σ1 st hok hE h1 hwt
  obtain ⟨⟨r2, o2⟩, k2⟩ := hg e σ1 y _ ((t1, x) :: st) o1 hE h3 (by rw [zwt_cons]; omega)
  obtain ⟨r3, k3⟩ := hs e st _ x y r1 r2 hy
  exact ⟨⟨r3, o2⟩, fun k => k1 (k2 (k3 k))⟩
def o_iadd (x y : Int) : Int := w32 (x + y)
theorem zx_iadd {c : Nat} (hf : zEx M Γ n 0 a b f) (hg : zEx M Γ (n + 1) 0 b c g) (hd : decode (zcc M) c = .ok (.iadd, 1)) : zEx M Γ n 0 a (c + 1) (xB o_iadd f g) := zx_bin hf hg (fun _ _ _ _ _ _ _ => ⟨w32_r _, fun k => zr_iadd hd k⟩)
def o_isub (x y : Int) : Int := w32 (x - y)
theorem zx_isub {c : Nat} (hf : zEx M Γ n 0 a b f) (hg : zEx M Γ (n + 1) 0 b c g) (hd : decode (zcc M) c = .ok (.isub, 1)) : zEx M Γ n 0 a (c + 1) (xB o_isub f g) := zx_bin hf hg (fun _ _ _ _ _ _ _ => ⟨w32_r _, fun k => zr_isub hd k⟩)
def o_imul (x y : Int) : Int := w32 (x * y)
theorem zx_imul {c : Nat} (hf : zEx M Γ n 0 a b f) (hg : zEx M Γ (n + 1) 0 b c g) (hd : decode (zcc M) c = .ok (.imul, 1)) : zEx M Γ n 0 a (c + 1) (xB o_imul f g) := zx_bin hf hg (fun _ _ _ _ _ _ _ => ⟨w32_r _, fun k => zr_imul hd k⟩)
def o_ladd (x y : Int) : Int := w64 (x + y)
theorem zx_ladd {c : Nat} (hf : zEx M Γ n 1 a b f) (hg : zEx M Γ (n + 2) 1 b c g) (hd : decode (zcc M) c = .ok (.ladd, 1)) : zEx M Γ n 1 a (c + 1) (xB o_ladd f g) := zx_bin hf hg (fun _ _ _ _ _ _ _ => ⟨w64_r _, fun k => zr_ladd hd k⟩)
def o_lsub (x y : Int) : Int := w64 (x - y)
theorem zx_lsub {c : Nat} (hf : zEx M Γ n 1 a b f) (hg : zEx M Γ (n + 2) 1 b c g) (hd : decode (zcc M) c = .ok (.lsub, 1)) : zEx M Γ n 1 a (c + 1) (xB o_lsub f g) := zx_bin hf hg (fun _ _ _ _ _ _ _ => ⟨w64_r _, fun k => zr_lsub hd k⟩)
def o_lmul (x y : Int) : Int := w64 (x * y)
theorem zx_lmul {c : Nat} (hf : zEx M Γ n 1 a b f) (hg : zEx M Γ (n + 2) 1 b c g) (hd : decode (zcc M) c = .ok (.lmul, 1)) : zEx M Γ n 1 a (c + 1) (xB o_lmul f g) := zx_bin hf hg (fun _ _ _ _ _ _ _ => ⟨w64_r _, fun k => zr_lmul hd k⟩)
theorem zx_iand {c : Nat} (hf : zEx M Γ n 0 a b f) (hg : zEx M Γ (n + 1) 0 b c g) (hd : decode (zcc M) c = .ok (.iand, 1)) : zEx M Γ n 0 a (c + 1) (xB zAnd f g) := zx_bin hf hg (fun _ _ _ _ _ _ _ => ⟨z32_rt _, fun k => zr_iand hd k⟩)
theorem zx_ior {c : Nat} (hf : zEx M Γ n 0 a b f) (hg : zEx M Γ (n + 1) 0 b c g) (hd : decode (zcc M) c = .ok (.ior, 1)) : zEx M Γ n 0 a (c + 1) (xB zOr f g) := zx_bin hf hg (fun _ _ _ _ _ _ _ => ⟨z32_rt _, fun k => zr_ior hd k⟩)
theorem zx_ixor {c : Nat} (hf : zEx M Γ n 0 a b f) (hg : zEx M Γ (n + 1) 0 b c g) (hd : decode (zcc M) c = .ok (.ixor, 1)) : zEx M Γ n 0 a (c + 1) (xB zXor f g) := zx_bin hf hg (fun _ _ _ _ _ _ _ => ⟨z32_rt _, fun k => zr_ixor hd k⟩)
theorem zx_ishl {c : Nat} (hf : zEx M Γ n 0 a b f) (hg : zEx M Γ (n + 1) 0 b c g) (hd : decode (zcc M) c = .ok (.ishl, 1)) : zEx M Γ n 0 a (c + 1) (xB zShl f g) := zx_bin hf hg (fun _ _ _ _ _ _ _ => ⟨z32_rt _, fun k => zr_ishl hd k⟩)
theorem zx_ishr {c : Nat} (hf : zEx M Γ n 0 a b f) (hg : zEx M Γ (n + 1) 0 b c g) (hd : decode (zcc M) c = .ok (.ishr, 1)) : zEx M Γ n 0 a (c + 1) (xB zShr f g) := zx_bin hf hg (fun _ _ _ _ _ _ _ => ⟨z32_rt _, fun k => zr_ishr hd k⟩)
theorem zx_iushr {c : Nat} (hf : zEx M Γ n 0 a b f) (hg : zEx M Γ (n + 1) 0 b c g) (hd : decode (zcc M) c = .ok (.iushr, 1)) : zEx M Γ n 0 a (c + 1) (xB zUshr f g) := zx_bin hf hg (fun _ _ _ _ _ _ _ => ⟨z32_rt _, fun k => zr_iushr hd k⟩)
theorem zx_lshr {c : Nat} (hf : zEx M Γ n 1 a b f) (hg : zEx M Γ (n + 2) 0 b c g) (hd : decode (zcc M) c = .ok (.lshr, 1)) : zEx M Γ n 1 a (c + 1) (xB zLshr f g) := zx_bin hf hg (fun _ _ _ _ _ _ _ => ⟨z64_rt _, fun k => zr_lshr hd k⟩)
theorem zmod_r32 {x y : Int} (hx : r32 x) (hy : r32 y) : r32 (zmod x y) := by
  have h : zmod x y = (Int32.ofInt x % Int32.ofInt y).toInt := by rw [Int32.toInt_mod, z32_ti hx, z32_ti hy]; rfl
  rw [h]; exact z32_rt _
theorem zmod_r64 {x y : Int} (hx : r64 x) (hy : r64 y) : r64 (zmod x y) := by
  have h : zmod x y = (Int64.ofInt x % Int64.ofInt y).toInt := by rw [Int64.toInt_mod, z64_ti hx, z64_ti hy]; rfl
  rw [h]; exact z64_rt _
theorem zx_idiv {c : Nat} (hf : zEx M Γ n 0 a b f) (hg : zEx M Γ (n + 1) 0 b c g) (hd : decode (zcc M) c = .ok (.idiv, 1)) : zEx M Γ n 0 a (c + 1) (xD zdiv f g) := zx_dv hf hg (fun _ _ _ _ _ hx hy h0 => ⟨w32_r _, fun k => zr_idiv hx hy h0 hd k⟩)
theorem zx_irem {c : Nat} (hf : zEx M Γ n 0 a b f) (hg : zEx M Γ (n + 1) 0 b c g) (hd : decode (zcc M) c = .ok (.irem, 1)) : zEx M Γ n 0 a (c + 1) (xD zmod f g) := zx_dv hf hg (fun _ _ _ _ _ hx hy h0 => ⟨zmod_r32 hx hy, fun k => zr_irem hx hy h0 hd k⟩)
theorem zx_ldiv {c : Nat} (hf : zEx M Γ n 1 a b f) (hg : zEx M Γ (n + 2) 1 b c g) (hd : decode (zcc M) c = .ok (.ldiv, 1)) : zEx M Γ n 1 a (c + 1) (xD zldiv f g) := zx_dv hf hg (fun _ _ _ _ _ hx hy h0 => ⟨w64_r _, fun k => zr_ldiv hx hy h0 hd k⟩)
theorem zx_lrem {c : Nat} (hf : zEx M Γ n 1 a b f) (hg : zEx M Γ (n + 2) 1 b c g) (hd : decode (zcc M) c = .ok (.lrem, 1)) : zEx M Γ n 1 a (c + 1) (xD zmod f g) := zx_dv hf hg (fun _ _ _ _ _ hx hy h0 => ⟨zmod_r64 hx hy, fun k => zr_lrem hx hy h0 hd k⟩)
theorem zx_ineg (hf : zEx M Γ n 0 a b f) (hd : decode (zcc M) b = .ok (.ineg, 1)) : zEx M Γ n 0 a (b + 1) (xU zneg f) := zx_un hf (fun _ _ _ _ _ => ⟨w32_r _, fun k => zr_ineg hd k⟩)
def o_i2l (x : Int) : Int := x
theorem zx_i2l (hf : zEx M Γ n 0 a b f) (hd : decode (zcc M) b = .ok (.i2l, 1)) : zEx M Γ n 1 a (b + 1) f := by
  intro e σ v τ st hok hE h hwt
  obtain ⟨⟨r1, r2⟩, k1⟩ := hf e σ v τ st hok hE h hwt
  exact ⟨⟨⟨by have := r1.1; omega, by have := r1.2; omega⟩, r2⟩, fun k => k1 (zr_i2l r1 hd k)⟩
theorem zx_i2b (hf : zEx M Γ n 0 a b f) (hd : decode (zcc M) b = .ok (.i2b, 1)) : zEx M Γ n 0 a (b + 1) (xU zi2b f) := zx_un hf (fun _ _ _ x _ => ⟨⟨by have h1 := (Int32.ofInt x).toInt8.le_toInt; unfold zi2b; omega, by have h1 := (Int32.ofInt x).toInt8.toInt_lt; unfold zi2b; omega⟩, fun k => zr_i2b hd k⟩)
theorem zx_i2s (hf : zEx M Γ n 0 a b f) (hd : decode (zcc M) b = .ok (.i2s, 1)) : zEx M Γ n 0 a (b + 1) (xU zi2s f) := zx_un hf (fun _ _ _ x _ => ⟨⟨by have h1 := (Int32.ofInt x).toInt16.le_toInt; unfold zi2s; omega, by have h1 := (Int32.ofInt x).toInt16.toInt_lt; unfold zi2s; omega⟩, fun k => zr_i2s hd k⟩)
/-- a place's value is of the place's kind -/
theorem zOk_f {σ : zHp} {o k ci tt : Nat} (h : zOk σ) (hc : zoc o = ci) (hl : ci < 100) (hf : zft ci k = tt) (h2 : ¬ tt = 2) : inR tt (σ o k) := by
  have h1 := h.1 o k
  have : zst o k = tt := by
    unfold zst
    rw [if_neg (by omega), if_neg (by omega), if_neg (by omega), hc, hf, if_neg h2]
  rw [this] at h1; exact h1
theorem zx_fld {k index N : Nat} {w : Int} {C : String} {T : u_T} (hf : zEx M Γ n t a b f) (ht : 5 ≤ t) (h7 : t ≤ 7 ∨ 10 ≤ t) (hc : vwCl[zcl t]? = some (C, T, N)) (hN : zln t = N) (hk : k < N) (hin : ∀ w ∈ u_ws C T N, w ∈ zTs M)
    (hw : Cond.fieldLink (zown M) index (T k).1 (T k).2.1 (T k).2.2.1 ∈ zTs M) (hft : zft (zcl t) k = t2) (h2 : ¬ t2 = 2) (hwk : w = (k : Int)) (hd : decode (zcc M) b = .ok (.getfield index, 3)) : zEx M Γ n t2 a (b + 3) (xF f w) := by
  subst hwk
  intro e σ v τ st hok hE h hwt
  obtain ⟨⟨x, σ1⟩, h1, h3⟩ := Option.bind_eq_some_iff.mp h
  cases h3
  obtain ⟨⟨r1, o1⟩, k1⟩ := hf e σ x _ st hok hE h1 hwt
  refine ⟨⟨?_, o1⟩, fun kn => k1 (zr_getf ht h7 r1 hc hN hk hin hw hft h2 hd kn)⟩
  obtain ⟨o, q1, rfl, q3, q4⟩ := zcl_ok ht h7 r1
  exact zOk_f o1 q3 (zcl_lt hc) hft h2
theorem zx_fldS {o k index N : Nat} {w w2 : Int} {C : String} {T : u_T} (hf : zEx M Γ n (o + 10) a b (xC w)) (hc : vwCl[zcl (o + 10)]? = some (C, T, N)) (hN : zln (o + 10) = N) (hk : k < N) (hin : ∀ w ∈ u_ws C T N, w ∈ zTs M)
    (hw : Cond.fieldLink (zown M) index (T k).1 (T k).2.1 (T k).2.2.1 ∈ zTs M) (hft : zft (zcl (o + 10)) k = t2) (h2 : ¬ t2 = 2) (hwk : w2 = (k : Int)) (hd : decode (zcc M) b = .ok (.getfield index, 3)) : zEx M Γ n t2 a (b + 3) (xG w w2) :=
  zx_fld hf (by omega) (by omega) hc hN hk hin hw hft h2 hwk hd
/-- a sheet's row -/
theorem zx_num {index : Nat} (hf : zEx M Γ n 5 a b f) (hin : ∀ w ∈ u_ws RX6 TX6 4, w ∈ zTs M) (hw : Cond.fieldLink (zown M) index (TX6 0).1 (TX6 0).2.1 (TX6 0).2.2.1 ∈ zTs M) (hd : decode (zcc M) b = .ok (.getfield index, 3)) : zEx M Γ n 6 a (b + 3) (xU (fun x => x + 1) f) := by
  refine zx_un hf (fun e st σ x hx => ⟨?_, fun kn => zr_getr (t2 := 6) (N := 4) (k := 0) (by decide) (by decide) hx rfl rfl (by decide) hin hw rfl (by decide) (fun o ho => ?_) hd kn⟩)
  · rcases hx with rfl | rfl | rfl | rfl
    · exact Or.inl rfl
    · exact Or.inr (Or.inl rfl)
    · exact Or.inr (Or.inr (Or.inl rfl))
    · exact Or.inr (Or.inr (Or.inr rfl))
  · rcases hx with rfl | rfl | rfl | rfl
    · have : o = 29 := by omega
      subst this; rfl
    · have : o = 31 := by omega
      subst this; rfl
    · have : o = 33 := by omega
      subst this; rfl
    · have : o = 35 := by omega
      subst this; rfl
theorem zx_iald {c : Nat} {N : Int} (hf : zEx M Γ n t a b f) (hg : zEx M Γ (n + 1) 0 b c g) (ht : 5 ≤ t) (h7 : zpr M t) (hc : zcl t = 100) (hN : (zln t : Int) = N) (hd : decode (zcc M) c = .ok (.iaload, 1)) : zEx M Γ n 0 a (c + 1) (xA f N g) := by
  have hcat : zcat t = 1 := by unfold zcat; split <;> first | omega | rfl
  subst hN
  intro e σ v τ st hok hE h hwt
  obtain ⟨⟨x, σ1⟩, h1, h2⟩ := Option.bind_eq_some_iff.mp h
  obtain ⟨⟨i, σ2⟩, h3, h4⟩ := Option.bind_eq_some_iff.mp h2
  dsimp only at h4
  by_cases hi : 0 ≤ i ∧ i < (zln t : Int)
  case neg => rw [if_neg hi] at h4; cases h4
  rw [if_pos hi] at h4
  cases h4
  obtain ⟨⟨r1, o1⟩, k1⟩ := hf e σ x σ1 st hok hE h1 hwt
  obtain ⟨⟨r2, o2⟩, k2⟩ := hg e σ1 i _ ((t, x) :: st) o1 hE h3 (by rw [zwt_cons]; omega)
  refine ⟨⟨?_, o2⟩, fun k => k1 (k2 (zr_iald ht h7 r1 hc hi.1 hi.2 hd k))⟩
  obtain ⟨o, q1, rfl, q3, q4⟩ := zcl_ok ht (zp_7 h7) r1
  obtain ⟨j, rfl⟩ : ∃ j : Nat, i = j := ⟨i.toNat, by omega⟩
  have h9 := o2.1 o j
  have : zst o j = 0 := by unfold zst; rw [q3, hc]; rfl
  rw [this] at h9; exact h9
theorem zx_ialdS {c o : Nat} {N w : Int} (hf : zEx M Γ n (o + 10) a b (xC w)) (hg : zEx M Γ (n + 1) 0 b c g) (h7 : zpr M (o + 10)) (hc : zcl (o + 10) = 100) (hN : (zln (o + 10) : Int) = N) (hd : decode (zcc M) c = .ok (.iaload, 1)) : zEx M Γ n 0 a (c + 1) (xE w N g) :=
  zx_iald hf hg (by omega) h7 hc hN hd
theorem zx_lald {c : Nat} {N : Int} (hf : zEx M Γ n t a b f) (hg : zEx M Γ (n + 1) 0 b c g) (ht : 5 ≤ t) (h7 : zpr M t) (hc : zcl t = 101) (hN : (zln t : Int) = N) (hd : decode (zcc M) c = .ok (.laload, 1)) : zEx M Γ n 1 a (c + 1) (xA f N g) := by
  have hcat : zcat t = 1 := by unfold zcat; split <;> first | omega | rfl
  subst hN
  intro e σ v τ st hok hE h hwt
  obtain ⟨⟨x, σ1⟩, h1, h2⟩ := Option.bind_eq_some_iff.mp h
  obtain ⟨⟨i, σ2⟩, h3, h4⟩ := Option.bind_eq_some_iff.mp h2
  dsimp only at h4
  by_cases hi : 0 ≤ i ∧ i < (zln t : Int)
  case neg => rw [if_neg hi] at h4; cases h4
  rw [if_pos hi] at h4
  cases h4
  obtain ⟨⟨r1, o1⟩, k1⟩ := hf e σ x σ1 st hok hE h1 hwt
  obtain ⟨⟨r2, o2⟩, k2⟩ := hg e σ1 i _ ((t, x) :: st) o1 hE h3 (by rw [zwt_cons]; omega)
  refine ⟨⟨?_, o2⟩, fun k => k1 (k2 (zr_lald ht h7 r1 hc hi.1 hi.2 hd k))⟩
  obtain ⟨o, q1, rfl, q3, q4⟩ := zcl_ok ht (zp_7 h7) r1
  obtain ⟨j, rfl⟩ : ∃ j : Nat, i = j := ⟨i.toNat, by omega⟩
  have h9 := o2.1 o j
  have : zst o j = 1 := by unfold zst; rw [q3, hc]; rfl
  rw [this] at h9; exact h9
theorem zx_laldS {c o : Nat} {N w : Int} (hf : zEx M Γ n (o + 10) a b (xC w)) (hg : zEx M Γ (n + 1) 0 b c g) (h7 : zpr M (o + 10)) (hc : zcl (o + 10) = 101) (hN : (zln (o + 10) : Int) = N) (hd : decode (zcc M) c = .ok (.laload, 1)) : zEx M Γ n 1 a (c + 1) (xE w N g) :=
  zx_lald hf hg (by omega) h7 hc hN hd
theorem zx_aald {c : Nat} {w : Int} (hf : zEx M Γ n 38 a b (xC w)) (hg : zEx M Γ (n + 1) 0 b c g) (hd : decode (zcc M) c = .ok (.aaload, 1)) : zEx M Γ n 5 a (c + 1) (xH g) := by
  intro e σ v τ st hok hE h hwt
  obtain ⟨⟨i, σ2⟩, h3, h4⟩ := Option.bind_eq_some_iff.mp h
  dsimp only at h4
  by_cases hi : 0 ≤ i ∧ i < 4
  case neg => rw [if_neg hi] at h4; cases h4
  rw [if_pos hi] at h4
  cases h4
  obtain ⟨⟨r1, o1⟩, k1⟩ := hf e σ w σ st hok hE rfl hwt
  have ew : w = 28 := (inR_o (o := 28) r1).1
  subst ew
  obtain ⟨⟨r2, o2⟩, k2⟩ := hg e σ i _ ((38, 28) :: st) o1 hE h3 (by rw [zwt_cons]; have : zcat 38 = 1 := rfl; omega)
  refine ⟨⟨?_, o2⟩, fun k => k1 (k2 (zr_aald hi.1 hi.2 hd k))⟩
  show 29 + 2 * i = 29 ∨ 29 + 2 * i = 31 ∨ 29 + 2 * i = 33 ∨ 29 + 2 * i = 35
  omega
theorem zx_len {N : Int} (hf : zEx M Γ n t a b f) (ht : 5 ≤ t) (h7 : zpr M t) (hc : zcl t = 100) (hN : (zln t : Int) = N) (hd : decode (zcc M) b = .ok (.arraylength, 1)) : zEx M Γ n 0 a (b + 1) (xU (fun _ => N) f) := by
  subst hN
  refine zx_un hf (fun e st σ x hx => ⟨?_, fun kn => zr_alen ht h7 hx hc hd kn⟩)
  obtain ⟨o, q1, rfl, q3, q4⟩ := zcl_ok ht (zp_7 h7) hx
  have := zon_lt o
  exact ⟨by omega, by omega⟩
theorem zx_sld {c L : Nat} {xs : Nat → Int32} (hs : zsc M = some (L, xs)) (hm : (0, 3) ∈ Γ) (hd0 : decode (zcc M) a = .ok (.aload_n 0, 1)) (hg : zEx M Γ (n + 1) 0 (a + 1) c g) (hd : decode (zcc M) c = .ok (.iaload, 1)) : zEx M Γ n 0 a (c + 1) (xT L xs g) := by
  intro e σ v τ st hok hE h hwt
  obtain ⟨⟨i, σ2⟩, h3, h4⟩ := Option.bind_eq_some_iff.mp h
  dsimp only at h4
  by_cases hi : 0 ≤ i ∧ i < (L : Int)
  case neg => rw [if_neg hi] at h4; cases h4
  rw [if_pos hi] at h4
  cases h4
  obtain ⟨⟨r2, o2⟩, k2⟩ := hg e σ i _ ((3, 0) :: st) hok hE h3 (by rw [zwt_cons]; have : zcat 3 = 1 := rfl; omega)
  exact ⟨⟨z32_rt _, o2⟩, fun k => zr_saload_n hd0 rfl hm (k2 (zr_sld hs hi.1 hi.2 rfl hd k))⟩
theorem zx_slen {L : Nat} {xs : Nat → Int32} {w : Int} (hs : zsc M = some (L, xs)) (hL : L < 2147483648) (hw : w = (L : Int)) (hm : (0, 3) ∈ Γ) (hd0 : decode (zcc M) a = .ok (.aload_n 0, 1)) (hd : decode (zcc M) (a + 1) = .ok (.arraylength, 1)) : zEx M Γ n 0 a (a + 2) (xC w) := by
  subst hw
  exact zx_leaf (w := fun _ => (L : Int)) (fun _ _ => ⟨by omega, by omega⟩) (fun e σ st hE k => zr_saload_n hd0 rfl hm (zr_slen hs hd k))
def o_max (x y : Int) : Int := if x < y then y else x
def o_min (x y : Int) : Int := if y < x then y else x
def o_maxl (x y : Int) : Int := if y < x then x else y
def o_abs (x : Int) : Int := if 0 ≤ x then x else zneg x
theorem zx_max {c index : Nat} (hf : zEx M Γ n 0 a b f) (hg : zEx M Γ (n + 1) 0 b c g) (hw1 : Cond.methodLink (zown M) index Lib.Math.max.name ∈ zTs M) (hw2 : Cond.static Lib.Math.max.name ∈ zTs M) (hw3 : Cond.initialized "java/lang/Math" ∈ zTs M) (hw4 : Cond.code Lib.Math.max.name Lib.Math.max.code 2 (some .int) ∈ zTs M)
    (hfr : 1 ≤ zfr M) (hlo : n + 13 ≤ zlo M) (hd : decode (zcc M) c = .ok (.invokestatic index, 3)) : zEx M Γ n 0 a (c + 3) (xB o_max f g) := by
  intro e σ v τ st hok hE h hwt
  obtain ⟨⟨x, σ1⟩, h1, h2⟩ := Option.bind_eq_some_iff.mp h
  obtain ⟨⟨y, σ2⟩, h3, h4⟩ := Option.bind_eq_some_iff.mp h2
  cases h4
  obtain ⟨⟨r1, o1⟩, k1⟩ := hf e σ x σ1 st hok hE h1 hwt
  obtain ⟨⟨r2, o2⟩, k2⟩ := hg e σ1 y _ ((0, x) :: st) o1 hE h3 (by rw [zwt_cons]; have : zcat 0 = 1 := rfl; omega)
  refine ⟨⟨?_, o2⟩, fun k => k1 (k2 (zr_mmax r1 r2 hw1 hw2 hw3 hw4 hfr (by omega) hd k))⟩
  show inR 0 (o_max x y)
  unfold o_max
  split
  · exact r2
  · exact r1
theorem zx_min {c index : Nat} (hf : zEx M Γ n 0 a b f) (hg : zEx M Γ (n + 1) 0 b c g) (hw1 : Cond.methodLink (zown M) index Lib.Math.min.name ∈ zTs M) (hw2 : Cond.static Lib.Math.min.name ∈ zTs M) (hw3 : Cond.initialized "java/lang/Math" ∈ zTs M) (hw4 : Cond.code Lib.Math.min.name Lib.Math.min.code 2 (some .int) ∈ zTs M)
    (hfr : 1 ≤ zfr M) (hlo : n + 13 ≤ zlo M) (hd : decode (zcc M) c = .ok (.invokestatic index, 3)) : zEx M Γ n 0 a (c + 3) (xB o_min f g) := by
  intro e σ v τ st hok hE h hwt
  obtain ⟨⟨x, σ1⟩, h1, h2⟩ := Option.bind_eq_some_iff.mp h
  obtain ⟨⟨y, σ2⟩, h3, h4⟩ := Option.bind_eq_some_iff.mp h2
  cases h4
  obtain ⟨⟨r1, o1⟩, k1⟩ := hf e σ x σ1 st hok hE h1 hwt
  obtain ⟨⟨r2, o2⟩, k2⟩ := hg e σ1 y _ ((0, x) :: st) o1 hE h3 (by rw [zwt_cons]; have : zcat 0 = 1 := rfl; omega)
  refine ⟨⟨?_, o2⟩, fun k => k1 (k2 (zr_mmin r1 r2 hw1 hw2 hw3 hw4 hfr (by omega) hd k))⟩
  show inR 0 (o_min x y)
  unfold o_min
  split
  · exact r2
  · exact r1
theorem zx_maxl {c index : Nat} (hf : zEx M Γ n 1 a b f) (hg : zEx M Γ (n + 2) 1 b c g) (hw1 : Cond.methodLink (zown M) index Lib.MathLoose.max_long.x ∈ zTs M) (hw2 : Cond.static Lib.MathLoose.max_long.x ∈ zTs M) (hw3 : Cond.initialized "java/lang/Math" ∈ zTs M) (hw4 : Cond.code Lib.MathLoose.max_long.x Lib.MathLoose.max_long.code 4 (some .long) ∈ zTs M)
    (hfr : 1 ≤ zfr M) (hlo : n + 15 ≤ zlo M) (hd : decode (zcc M) c = .ok (.invokestatic index, 3)) : zEx M Γ n 1 a (c + 3) (xB o_maxl f g) := by
  intro e σ v τ st hok hE h hwt
  obtain ⟨⟨x, σ1⟩, h1, h2⟩ := Option.bind_eq_some_iff.mp h
  obtain ⟨⟨y, σ2⟩, h3, h4⟩ := Option.bind_eq_some_iff.mp h2
  cases h4
  obtain ⟨⟨r1, o1⟩, k1⟩ := hf e σ x σ1 st hok hE h1 hwt
  obtain ⟨⟨r2, o2⟩, k2⟩ := hg e σ1 y _ ((1, x) :: st) o1 hE h3 (by rw [zwt_cons]; have : zcat 1 = 2 := rfl; omega)
  refine ⟨⟨?_, o2⟩, fun k => k1 (k2 (zr_mmaxl r1 r2 hw1 hw2 hw3 hw4 hfr (by omega) hd k))⟩
  show inR 1 (o_maxl x y)
  unfold o_maxl
  split
  · exact r1
  · exact r2
theorem zx_abs {index : Nat} (hf : zEx M Γ n 0 a b f) (hw1 : Cond.methodLink (zown M) index Lib.Math.abs.name ∈ zTs M) (hw2 : Cond.static Lib.Math.abs.name ∈ zTs M) (hw3 : Cond.initialized "java/lang/Math" ∈ zTs M) (hw4 : Cond.code Lib.Math.abs.name Lib.Math.abs.code 1 (some .int) ∈ zTs M)
    (hfr : 1 ≤ zfr M) (hlo : n + 13 ≤ zlo M) (hd : decode (zcc M) b = .ok (.invokestatic index, 3)) : zEx M Γ n 0 a (b + 3) (xU o_abs f) := by
  intro e σ v τ st hok hE h hwt
  obtain ⟨⟨x, σ1⟩, h1, h2⟩ := Option.bind_eq_some_iff.mp h
  cases h2
  obtain ⟨⟨r1, o1⟩, k1⟩ := hf e σ x _ st hok hE h1 hwt
  refine ⟨⟨?_, o1⟩, fun k => k1 (zr_mabs r1 hw1 hw2 hw3 hw4 hfr (by omega) hd k)⟩
  show inR 0 (o_abs x)
  unfold o_abs
  split
  · exact r1
  · exact w32_r _
theorem zx_ite {cc2 : zC} {b1 j b2 c : Nat} {off : Int} (hc : zCn M Γ n a b1 b2 cc2) (hf : zEx M Γ n t b1 j f) (hd : decode (zcc M) j = .ok (.goto off, 3)) (ht : (j : Int) + off = (c : Int)) (hg : zEx M Γ n t b2 c g) : zEx M Γ n t a c (xI cc2 f g) := by
  intro e σ v τ st hok hE h hwt
  obtain ⟨⟨x, σ1⟩, h1, h2⟩ := Option.bind_eq_some_iff.mp h
  obtain ⟨o1, k1⟩ := hc e σ x σ1 st hok hE h1 hwt
  cases x
  · obtain ⟨r, k2⟩ := hg e σ1 v τ st o1 hE h2 hwt
    exact ⟨r, fun k => k1 (k2 k)⟩
  · obtain ⟨r, k2⟩ := hf e σ1 v τ st o1 hE h2 hwt
    exact ⟨r, fun k => k1 (k2 (zr_goto hd ht k))⟩
theorem zx_z {cc2 : zC} {b1 b2 c : Nat} {off : Int} (hc : zCn M Γ n a b1 b2 cc2) (hd1 : decode (zcc M) b1 = .ok (.iconst 1, 1)) (hd : decode (zcc M) (b1 + 1) = .ok (.goto off, 3)) (ht : ((b1 + 1 : Nat) : Int) + off = (c : Int)) (hd2 : decode (zcc M) b2 = .ok (.iconst 0, 1)) (hc2 : b2 + 1 = c) : zEx M Γ n 4 a c (xZ cc2) := by
  intro e σ v τ st hok hE h hwt
  obtain ⟨⟨x, σ1⟩, h1, h2⟩ := Option.bind_eq_some_iff.mp h
  cases h2
  obtain ⟨o1, k1⟩ := hc e σ x _ st hok hE h1 hwt
  subst hc2
  cases x
  · exact ⟨⟨Or.inl rfl, o1⟩, fun k => k1 (zr_iconst hd2 rfl k)⟩
  · exact ⟨⟨Or.inr rfl, o1⟩, fun k => k1 (zr_iconst hd1 rfl (zr_goto hd ht k))⟩
theorem za_nil : zAr M Γ n [] a a aN := by
  intro e σ vs τ st hok hE h hwt
  cases h
  exact ⟨⟨trivial, hok⟩, fun k => k⟩
theorem zsa_cons {ts : List Nat} {vs : List Int} {x : Int} (st : List (Nat × Int)) : zsa (t :: ts) (x :: vs) ++ st = zsa ts vs ++ (t, x) :: st := by
  simp [zsa]
theorem za_cons {ts : List Nat} {c m : Nat} {fs : zAs} (hf : zEx M Γ n t a b f) (hm : n + zcat t = m) (hg : zAr M Γ m ts b c fs) : zAr M Γ n (t :: ts) a c (aC f fs) := by
  subst hm
  intro e σ vs τ st hok hE h hwt
  obtain ⟨⟨x, σ1⟩, h1, h2⟩ := Option.bind_eq_some_iff.mp h
  obtain ⟨⟨ys, σ2⟩, h3, h4⟩ := Option.bind_eq_some_iff.mp h2
  cases h4
  obtain ⟨⟨r1, o1⟩, k1⟩ := hf e σ x σ1 st hok hE h1 hwt
  obtain ⟨⟨r2, o2⟩, k2⟩ := hg e σ1 ys _ ((t, x) :: st) o1 hE h3 (by rw [zwt_cons]; omega)
  refine ⟨⟨⟨r1, r2⟩, o2⟩, fun k => k1 (k2 ?_)⟩
  rw [← zsa_cons]
  exact k
section CALLS
variable {y : MethodName} {cc2 : ByteArray} {maxL fr lo rt index c nn : Nat} {ret : Option FieldType} {ws ws2 : List Cond} {ts : List Nat} {fs : zAs} {mm : List Int → zHp → Option (Int × zHp)} {nd ab : List Nat} {sc : zSc}
theorem zx_callS (ha : zAr M Γ n ts a c fs) (hc : zCon y ws nd ab sc fr lo ts rt mm) (hu : zFor M nd ab sc) (hrt : rt = 0 ∨ rt = 1 ∨ rt = 4) (hws : ws = Cond.code y cc2 maxL ret :: ws2) (hG : GoodIn (zTs M) (va_wsS (zown M) index y ws)) (hn : ts.length = nn)
    (hy : y.cls ≠ "java/lang/invoke/MethodHandle" ∧ y.cls ≠ "java/lang/invoke/VarHandle" ∧ (parseMethodDescriptor y.desc).map (fun d => d.parameters.length) = some nn) (hR : fr + 1 ≤ zfr M ∧ 8 + (maxL + 11) + lo ≤ zlo M) (hn8 : n ≤ 8) (hd : decode (zcc M) c = .ok (.invokestatic index, 3)) : zEx M Γ n rt a (c + 3) (xK mm fs) := by
  intro e σ v τ st hok hE h hwt
  obtain ⟨⟨xs, σ1⟩, h1, h2⟩ := Option.bind_eq_some_iff.mp h
  obtain ⟨⟨r1, o1⟩, k1⟩ := ha e σ xs σ1 st hok hE h1 hwt
  have hr9 : ¬ rt = 9 := by omega
  refine ⟨?_, fun k => k1 (zr_callS hc hu (by omega) o1 r1 h2 hws hG hn hy hR (by omega) hd ?_)⟩
  · obtain ⟨q1, q2, -⟩ := hc.1 xs σ1 v τ o1 r1 h2
    exact ⟨q1.resolve_left hr9, q2⟩
  · have : zrs rt v = [(rt, v)] := by unfold zrs; split <;> first | omega | rfl
    rw [this]; exact k
theorem zx_callV {C : String} {T : u_T} {N : Nat} (ha : zAr M Γ n (t :: ts) a c fs) (hc : zCon y ws nd ab sc fr lo (t :: ts) rt mm) (hu : zFor M nd ab sc) (hrt : rt = 0 ∨ rt = 1 ∨ rt = 4) (ht : 5 ≤ t) (h7 : t ≤ 7 ∨ 10 ≤ t) (hcl : vwCl[zcl t]? = some (C, T, N)) (hws : ws = Cond.code y cc2 maxL ret :: ws2) (hG : GoodIn (zTs M) (wsV (zown M) index C y ws)) (hn : ts.length = nn)
    (hy : y.cls = C ∧ y.cls ≠ "java/lang/invoke/MethodHandle" ∧ y.cls ≠ "java/lang/invoke/VarHandle" ∧ (parseMethodDescriptor y.desc).map (fun d => d.parameters.length) = some nn) (hR : fr + 1 ≤ zfr M ∧ 8 + (maxL + 11) + lo ≤ zlo M) (hn8 : n ≤ 8) (hd : decode (zcc M) c = .ok (.invokevirtual index, 3)) : zEx M Γ n rt a (c + 3) (xK mm fs) := by
  intro e σ v τ st hok hE h hwt
  obtain ⟨⟨xs, σ1⟩, h1, h2⟩ := Option.bind_eq_some_iff.mp h
  obtain ⟨⟨r1, o1⟩, k1⟩ := ha e σ xs σ1 st hok hE h1 hwt
  have hr9 : ¬ rt = 9 := by omega
  cases xs with
  | nil => exact r1.elim
  | cons x xs =>
    refine ⟨?_, fun k => k1 (zr_callV hc hu (by omega) o1 ht h7 r1 hcl h2 hws hG hn hy hR (by omega) hd ?_)⟩
    · obtain ⟨q1, q2, -⟩ := hc.1 (x :: xs) σ1 v τ o1 r1 h2
      exact ⟨q1.resolve_left hr9, q2⟩
    · have : zrs rt v = [(rt, v)] := by unfold zrs; split <;> first | omega | rfl
      rw [this]; exact k
end CALLS
end ZX
end
section
def r_eq (x y : Int) : Bool := decide (x = y)
def r_ne (x y : Int) : Bool := decide (¬ x = y)
def r_lt (x y : Int) : Bool := decide (x < y)
def r_ge (x y : Int) : Bool := decide (x ≥ y)
def r_gt (x y : Int) : Bool := decide (x > y)
def r_le (x y : Int) : Bool := decide (x ≤ y)
def rb (x : Int) : Bool := decide (¬ x = 0)
section ZCN
variable {M : zM} {Γ : List (Nat × Nat)} {a b c d n tt ff : Nat} {f g : zX}
def zOp (M : zM) (Γ : List (Nat × Nat)) (t c : Nat) (op : Int → Int → Int) : Prop := ∀ (e : List Int) (st : List (Nat × Int)) (σ : zHp) (u v : Int), inR t u → inR t v → inR t (op u v) ∧ (zRn M (c + 1) Γ e ((t, op u v) :: st) σ → zRn M c Γ e ((t, v) :: (t, u) :: st) σ)
theorem zc_2 {rel : Int → Int → Bool} {t : Nat} (hf : zEx M Γ n t a b f) (hg : zEx M Γ (n + zcat t) t b c g) (hs : ∀ e st σ x y, inR t x → inR t y → zRn M (if rel x y then tt else ff) Γ e st σ → zRn M c Γ e ((t, y) :: (t, x) :: st) σ) : zCn M Γ n a tt ff (cR rel f g) := by
  intro e σ v τ st hok hE h hwt
  obtain ⟨⟨x, σ1⟩, h1, h2⟩ := Option.bind_eq_some_iff.mp h
  obtain ⟨⟨y, σ2⟩, h3, h4⟩ := Option.bind_eq_some_iff.mp h2
  cases h4
  obtain ⟨⟨r1, o1⟩, k1⟩ := hf e σ x σ1 st hok hE h1 hwt
  obtain ⟨⟨r2, o2⟩, k2⟩ := hg e σ1 y _ ((t, x) :: st) o1 hE h3 (by rw [zwt_cons]; omega)
  exact ⟨o2, fun k => k1 (k2 (hs e st _ x y r1 r2 k))⟩
theorem zc_1 {rel : Int → Int → Bool} {rel2 : Int → Bool} (hf : zEx M Γ n 0 a b f) (hs : ∀ e st σ x, inR 0 x → zRn M (if rel2 x then tt else ff) Γ e st σ → zRn M b Γ e ((0, x) :: st) σ) : zCn M Γ n a tt ff (cV rel2 f) := by
  intro e σ v τ st hok hE h hwt
  obtain ⟨⟨x, σ1⟩, h1, h2⟩ := Option.bind_eq_some_iff.mp h
  cases h2
  obtain ⟨⟨r1, o1⟩, k1⟩ := hf e σ x _ st hok hE h1 hwt
  exact ⟨o1, fun k => k1 (hs e st _ x r1 k)⟩
theorem zc_b {off : Int} {tgt : Nat} (hf : zEx M Γ n 0 a b f) (hd : decode (zcc M) b = .ok (.ifCond .ne off, 3)) (ht : (b : Int) + off = (tgt : Int)) : zCn M Γ n a tgt (b + 3) (cV rb f) :=
  zc_1 (rel := fun _ _ => true) hf (fun e st σ x hx k => zr_if_ne hx hd ht (fun q => by rw [show rb x = true by simp [rb, q]] at k; exact k) (fun q => by rw [show rb x = false by simpa [rb] using q] at k; exact k))
theorem zc_bN {off : Int} {tgt : Nat} (hf : zEx M Γ n 0 a b f) (hd : decode (zcc M) b = .ok (.ifCond .eq off, 3)) (ht : (b : Int) + off = (tgt : Int)) : zCn M Γ n a (b + 3) tgt (cV rb f) :=
  zc_1 (rel := fun _ _ => true) hf (fun e st σ x hx k => zr_if_eq hx hd ht (fun q => by rw [show rb x = false by simp [rb, q]] at k; exact k) (fun q => by rw [show rb x = true by simp [rb, q]] at k; exact k))
theorem zc_and {m : Nat} {f g : zC} (hf : zCn M Γ n a m ff f) (hg : zCn M Γ n m tt ff g) : zCn M Γ n a tt ff (cA f g) := by
  intro e σ v τ st hok hE h hwt
  obtain ⟨⟨x, σ1⟩, h1, h2⟩ := Option.bind_eq_some_iff.mp h
  obtain ⟨o1, k1⟩ := hf e σ x σ1 st hok hE h1 hwt
  cases x
  · cases h2
    exact ⟨o1, k1⟩
  · obtain ⟨o2, k2⟩ := hg e σ1 v τ st o1 hE h2 hwt
    exact ⟨o2, fun k => k1 (k2 k)⟩
theorem zc_or {m : Nat} {f g : zC} (hf : zCn M Γ n a tt m f) (hg : zCn M Γ n m tt ff g) : zCn M Γ n a tt ff (cO f g) := by
  intro e σ v τ st hok hE h hwt
  obtain ⟨⟨x, σ1⟩, h1, h2⟩ := Option.bind_eq_some_iff.mp h
  obtain ⟨o1, k1⟩ := hf e σ x σ1 st hok hE h1 hwt
  cases x
  · obtain ⟨o2, k2⟩ := hg e σ1 v τ st o1 hE h2 hwt
    exact ⟨o2, fun k => k1 (k2 k)⟩
  · cases h2
    exact ⟨o1, k1⟩
theorem zc_not {f : zC} (hf : zCn M Γ n a tt ff f) : zCn M Γ n a ff tt (cN f) := by
  intro e σ v τ st hok hE h hwt
  obtain ⟨⟨x, σ1⟩, h1, h2⟩ := Option.bind_eq_some_iff.mp h
  cases h2
  obtain ⟨o1, k1⟩ := hf e σ x _ st hok hE h1 hwt
  refine ⟨o1, fun k => k1 ?_⟩
  cases x <;> exact k
theorem zc_icmp_eq {off : Int} {tgt : Nat} (hf : zEx M Γ n 0 a b f) (hg : zEx M Γ (n + 1) 0 b c g) (hd : decode (zcc M) c = .ok (.if_icmp .eq off, 3)) (ht : (c : Int) + off = (tgt : Int)) : zCn M Γ n a tgt (c + 3) (cR r_eq f g) :=
  zc_2 hf hg (fun e st σ x y hx hy k => zr_icmp_eq hx hy hd ht (fun q => by rw [show r_eq x y = true by unfold r_eq; exact decide_eq_true q] at k; exact k) (fun q => by rw [show r_eq x y = false by unfold r_eq; exact decide_eq_false q] at k; exact k))
theorem zc_icmpN_eq {off : Int} {tgt : Nat} (hf : zEx M Γ n 0 a b f) (hg : zEx M Γ (n + 1) 0 b c g) (hd : decode (zcc M) c = .ok (.if_icmp .ne off, 3)) (ht : (c : Int) + off = (tgt : Int)) : zCn M Γ n a (c + 3) tgt (cR r_eq f g) :=
  zc_2 hf hg (fun e st σ x y hx hy k => zr_icmp_ne hx hy hd ht (fun q => by rw [show r_eq x y = false by unfold r_eq; exact decide_eq_false (by omega)] at k; exact k) (fun q => by rw [show r_eq x y = true by unfold r_eq; exact decide_eq_true (by omega)] at k; exact k))
theorem zc_if_eq {off : Int} {tgt : Nat} (hf : zEx M Γ n 0 a b f) (hd : decode (zcc M) b = .ok (.ifCond .eq off, 3)) (ht : (b : Int) + off = (tgt : Int)) : zCn M Γ n a tgt (b + 3) (cV (fun x => r_eq x 0) f) :=
  zc_1 (rel := fun _ _ => true) hf (fun e st σ x hx k => zr_if_eq hx hd ht (fun q => by rw [show r_eq x 0 = true by unfold r_eq; exact decide_eq_true q] at k; exact k) (fun q => by rw [show r_eq x 0 = false by unfold r_eq; exact decide_eq_false q] at k; exact k))
theorem zc_ifN_eq {off : Int} {tgt : Nat} (hf : zEx M Γ n 0 a b f) (hd : decode (zcc M) b = .ok (.ifCond .ne off, 3)) (ht : (b : Int) + off = (tgt : Int)) : zCn M Γ n a (b + 3) tgt (cV (fun x => r_eq x 0) f) :=
  zc_1 (rel := fun _ _ => true) hf (fun e st σ x hx k => zr_if_ne hx hd ht (fun q => by rw [show r_eq x 0 = false by unfold r_eq; exact decide_eq_false (by omega)] at k; exact k) (fun q => by rw [show r_eq x 0 = true by unfold r_eq; exact decide_eq_true (by omega)] at k; exact k))
theorem zc_lcmp_eq {off : Int} {tgt : Nat} (hf : zEx M Γ n 1 a b f) (hg : zEx M Γ (n + 2) 1 b c g) (hd0 : decode (zcc M) c = .ok (.lcmp, 1)) (hd : decode (zcc M) (c + 1) = .ok (.ifCond .eq off, 3)) (ht : ((c + 1 : Nat) : Int) + off = (tgt : Int)) : zCn M Γ n a tgt (c + 4) (cR r_eq f g) :=
  zc_2 hf hg (fun e st σ x y hx hy k => zr_lcmp_eq hx hy hd0 hd ht (fun q => by rw [show r_eq x y = true by unfold r_eq; exact decide_eq_true q] at k; exact k) (fun q => by rw [show r_eq x y = false by unfold r_eq; exact decide_eq_false q] at k; exact k))
theorem zc_lcmpN_eq {off : Int} {tgt : Nat} (hf : zEx M Γ n 1 a b f) (hg : zEx M Γ (n + 2) 1 b c g) (hd0 : decode (zcc M) c = .ok (.lcmp, 1)) (hd : decode (zcc M) (c + 1) = .ok (.ifCond .ne off, 3)) (ht : ((c + 1 : Nat) : Int) + off = (tgt : Int)) : zCn M Γ n a (c + 4) tgt (cR r_eq f g) :=
  zc_2 hf hg (fun e st σ x y hx hy k => zr_lcmp_ne hx hy hd0 hd ht (fun q => by rw [show r_eq x y = false by unfold r_eq; exact decide_eq_false (by omega)] at k; exact k) (fun q => by rw [show r_eq x y = true by unfold r_eq; exact decide_eq_true (by omega)] at k; exact k))
theorem zc_icmp_ne {off : Int} {tgt : Nat} (hf : zEx M Γ n 0 a b f) (hg : zEx M Γ (n + 1) 0 b c g) (hd : decode (zcc M) c = .ok (.if_icmp .ne off, 3)) (ht : (c : Int) + off = (tgt : Int)) : zCn M Γ n a tgt (c + 3) (cR r_ne f g) :=
  zc_2 hf hg (fun e st σ x y hx hy k => zr_icmp_ne hx hy hd ht (fun q => by rw [show r_ne x y = true by unfold r_ne; exact decide_eq_true q] at k; exact k) (fun q => by rw [show r_ne x y = false by unfold r_ne; exact decide_eq_false q] at k; exact k))
theorem zc_icmpN_ne {off : Int} {tgt : Nat} (hf : zEx M Γ n 0 a b f) (hg : zEx M Γ (n + 1) 0 b c g) (hd : decode (zcc M) c = .ok (.if_icmp .eq off, 3)) (ht : (c : Int) + off = (tgt : Int)) : zCn M Γ n a (c + 3) tgt (cR r_ne f g) :=
  zc_2 hf hg (fun e st σ x y hx hy k => zr_icmp_eq hx hy hd ht (fun q => by rw [show r_ne x y = false by unfold r_ne; exact decide_eq_false (by omega)] at k; exact k) (fun q => by rw [show r_ne x y = true by unfold r_ne; exact decide_eq_true (by omega)] at k; exact k))
theorem zc_if_ne {off : Int} {tgt : Nat} (hf : zEx M Γ n 0 a b f) (hd : decode (zcc M) b = .ok (.ifCond .ne off, 3)) (ht : (b : Int) + off = (tgt : Int)) : zCn M Γ n a tgt (b + 3) (cV (fun x => r_ne x 0) f) :=
  zc_1 (rel := fun _ _ => true) hf (fun e st σ x hx k => zr_if_ne hx hd ht (fun q => by rw [show r_ne x 0 = true by unfold r_ne; exact decide_eq_true q] at k; exact k) (fun q => by rw [show r_ne x 0 = false by unfold r_ne; exact decide_eq_false q] at k; exact k))
theorem zc_ifN_ne {off : Int} {tgt : Nat} (hf : zEx M Γ n 0 a b f) (hd : decode (zcc M) b = .ok (.ifCond .eq off, 3)) (ht : (b : Int) + off = (tgt : Int)) : zCn M Γ n a (b + 3) tgt (cV (fun x => r_ne x 0) f) :=
  zc_1 (rel := fun _ _ => true) hf (fun e st σ x hx k => zr_if_eq hx hd ht (fun q => by rw [show r_ne x 0 = false by unfold r_ne; exact decide_eq_false (by omega)] at k; exact k) (fun q => by rw [show r_ne x 0 = true by unfold r_ne; exact decide_eq_true (by omega)] at k; exact k))
theorem zc_lcmp_ne {off : Int} {tgt : Nat} (hf : zEx M Γ n 1 a b f) (hg : zEx M Γ (n + 2) 1 b c g) (hd0 : decode (zcc M) c = .ok (.lcmp, 1)) (hd : decode (zcc M) (c + 1) = .ok (.ifCond .ne off, 3)) (ht : ((c + 1 : Nat) : Int) + off = (tgt : Int)) : zCn M Γ n a tgt (c + 4) (cR r_ne f g) :=
  zc_2 hf hg (fun e st σ x y hx hy k => zr_lcmp_ne hx hy hd0 hd ht (fun q => by rw [show r_ne x y = true by unfold r_ne; exact decide_eq_true q] at k; exact k) (fun q => by rw [show r_ne x y = false by unfold r_ne; exact decide_eq_false q] at k; exact k))
theorem zc_lcmpN_ne {off : Int} {tgt : Nat} (hf : zEx M Γ n 1 a b f) (hg : zEx M Γ (n + 2) 1 b c g) (hd0 : decode (zcc M) c = .ok (.lcmp, 1)) (hd : decode (zcc M) (c + 1) = .ok (.ifCond .eq off, 3)) (ht : ((c + 1 : Nat) : Int) + off = (tgt : Int)) : zCn M Γ n a (c + 4) tgt (cR r_ne f g) :=
  zc_2 hf hg (fun e st σ x y hx hy k => zr_lcmp_eq hx hy hd0 hd ht (fun q => by rw [show r_ne x y = false by unfold r_ne; exact decide_eq_false (by omega)] at k; exact k) (fun q => by rw [show r_ne x y = true by unfold r_ne; exact decide_eq_true (by omega)] at k; exact k))
theorem zc_icmp_lt {off : Int} {tgt : Nat} (hf : zEx M Γ n 0 a b f) (hg : zEx M Γ (n + 1) 0 b c g) (hd : decode (zcc M) c = .ok (.if_icmp .lt off, 3)) (ht : (c : Int) + off = (tgt : Int)) : zCn M Γ n a tgt (c + 3) (cR r_lt f g) :=
  zc_2 hf hg (fun e st σ x y hx hy k => zr_icmp_lt hx hy hd ht (fun q => by rw [show r_lt x y = true by unfold r_lt; exact decide_eq_true q] at k; exact k) (fun q => by rw [show r_lt x y = false by unfold r_lt; exact decide_eq_false q] at k; exact k))
theorem zc_icmpN_lt {off : Int} {tgt : Nat} (hf : zEx M Γ n 0 a b f) (hg : zEx M Γ (n + 1) 0 b c g) (hd : decode (zcc M) c = .ok (.if_icmp .ge off, 3)) (ht : (c : Int) + off = (tgt : Int)) : zCn M Γ n a (c + 3) tgt (cR r_lt f g) :=
  zc_2 hf hg (fun e st σ x y hx hy k => zr_icmp_ge hx hy hd ht (fun q => by rw [show r_lt x y = false by unfold r_lt; exact decide_eq_false (by omega)] at k; exact k) (fun q => by rw [show r_lt x y = true by unfold r_lt; exact decide_eq_true (by omega)] at k; exact k))
theorem zc_if_lt {off : Int} {tgt : Nat} (hf : zEx M Γ n 0 a b f) (hd : decode (zcc M) b = .ok (.ifCond .lt off, 3)) (ht : (b : Int) + off = (tgt : Int)) : zCn M Γ n a tgt (b + 3) (cV (fun x => r_lt x 0) f) :=
  zc_1 (rel := fun _ _ => true) hf (fun e st σ x hx k => zr_if_lt hx hd ht (fun q => by rw [show r_lt x 0 = true by unfold r_lt; exact decide_eq_true q] at k; exact k) (fun q => by rw [show r_lt x 0 = false by unfold r_lt; exact decide_eq_false q] at k; exact k))
theorem zc_ifN_lt {off : Int} {tgt : Nat} (hf : zEx M Γ n 0 a b f) (hd : decode (zcc M) b = .ok (.ifCond .ge off, 3)) (ht : (b : Int) + off = (tgt : Int)) : zCn M Γ n a (b + 3) tgt (cV (fun x => r_lt x 0) f) :=
  zc_1 (rel := fun _ _ => true) hf (fun e st σ x hx k => zr_if_ge hx hd ht (fun q => by rw [show r_lt x 0 = false by unfold r_lt; exact decide_eq_false (by omega)] at k; exact k) (fun q => by rw [show r_lt x 0 = true by unfold r_lt; exact decide_eq_true (by omega)] at k; exact k))
theorem zc_lcmp_lt {off : Int} {tgt : Nat} (hf : zEx M Γ n 1 a b f) (hg : zEx M Γ (n + 2) 1 b c g) (hd0 : decode (zcc M) c = .ok (.lcmp, 1)) (hd : decode (zcc M) (c + 1) = .ok (.ifCond .lt off, 3)) (ht : ((c + 1 : Nat) : Int) + off = (tgt : Int)) : zCn M Γ n a tgt (c + 4) (cR r_lt f g) :=
  zc_2 hf hg (fun e st σ x y hx hy k => zr_lcmp_lt hx hy hd0 hd ht (fun q => by rw [show r_lt x y = true by unfold r_lt; exact decide_eq_true q] at k; exact k) (fun q => by rw [show r_lt x y = false by unfold r_lt; exact decide_eq_false q] at k; exact k))
theorem zc_lcmpN_lt {off : Int} {tgt : Nat} (hf : zEx M Γ n 1 a b f) (hg : zEx M Γ (n + 2) 1 b c g) (hd0 : decode (zcc M) c = .ok (.lcmp, 1)) (hd : decode (zcc M) (c + 1) = .ok (.ifCond .ge off, 3)) (ht : ((c + 1 : Nat) : Int) + off = (tgt : Int)) : zCn M Γ n a (c + 4) tgt (cR r_lt f g) :=
  zc_2 hf hg (fun e st σ x y hx hy k => zr_lcmp_ge hx hy hd0 hd ht (fun q => by rw [show r_lt x y = false by unfold r_lt; exact decide_eq_false (by omega)] at k; exact k) (fun q => by rw [show r_lt x y = true by unfold r_lt; exact decide_eq_true (by omega)] at k; exact k))
theorem zc_icmp_ge {off : Int} {tgt : Nat} (hf : zEx M Γ n 0 a b f) (hg : zEx M Γ (n + 1) 0 b c g) (hd : decode (zcc M) c = .ok (.if_icmp .ge off, 3)) (ht : (c : Int) + off = (tgt : Int)) : zCn M Γ n a tgt (c + 3) (cR r_ge f g) :=
  zc_2 hf hg (fun e st σ x y hx hy k => zr_icmp_ge hx hy hd ht (fun q => by rw [show r_ge x y = true by unfold r_ge; exact decide_eq_true q] at k; exact k) (fun q => by rw [show r_ge x y = false by unfold r_ge; exact decide_eq_false q] at k; exact k))
theorem zc_icmpN_ge {off : Int} {tgt : Nat} (hf : zEx M Γ n 0 a b f) (hg : zEx M Γ (n + 1) 0 b c g) (hd : decode (zcc M) c = .ok (.if_icmp .lt off, 3)) (ht : (c : Int) + off = (tgt : Int)) : zCn M Γ n a (c + 3) tgt (cR r_ge f g) :=
  zc_2 hf hg (fun e st σ x y hx hy k => zr_icmp_lt hx hy hd ht (fun q => by rw [show r_ge x y = false by unfold r_ge; exact decide_eq_false (by omega)] at k; exact k) (fun q => by rw [show r_ge x y = true by unfold r_ge; exact decide_eq_true (by omega)] at k; exact k))
theorem zc_if_ge {off : Int} {tgt : Nat} (hf : zEx M Γ n 0 a b f) (hd : decode (zcc M) b = .ok (.ifCond .ge off, 3)) (ht : (b : Int) + off = (tgt : Int)) : zCn M Γ n a tgt (b + 3) (cV (fun x => r_ge x 0) f) :=
  zc_1 (rel := fun _ _ => true) hf (fun e st σ x hx k => zr_if_ge hx hd ht (fun q => by rw [show r_ge x 0 = true by unfold r_ge; exact decide_eq_true q] at k; exact k) (fun q => by rw [show r_ge x 0 = false by unfold r_ge; exact decide_eq_false q] at k; exact k))
theorem zc_ifN_ge {off : Int} {tgt : Nat} (hf : zEx M Γ n 0 a b f) (hd : decode (zcc M) b = .ok (.ifCond .lt off, 3)) (ht : (b : Int) + off = (tgt : Int)) : zCn M Γ n a (b + 3) tgt (cV (fun x => r_ge x 0) f) :=
  zc_1 (rel := fun _ _ => true) hf (fun e st σ x hx k => zr_if_lt hx hd ht (fun q => by rw [show r_ge x 0 = false by unfold r_ge; exact decide_eq_false (by omega)] at k; exact k) (fun q => by rw [show r_ge x 0 = true by unfold r_ge; exact decide_eq_true (by omega)] at k; exact k))
theorem zc_lcmp_ge {off : Int} {tgt : Nat} (hf : zEx M Γ n 1 a b f) (hg : zEx M Γ (n + 2) 1 b c g) (hd0 : decode (zcc M) c = .ok (.lcmp, 1)) (hd : decode (zcc M) (c + 1) = .ok (.ifCond .ge off, 3)) (ht : ((c + 1 : Nat) : Int) + off = (tgt : Int)) : zCn M Γ n a tgt (c + 4) (cR r_ge f g) :=
  zc_2 hf hg (fun e st σ x y hx hy k => zr_lcmp_ge hx hy hd0 hd ht (fun q => by rw [show r_ge x y = true by unfold r_ge; exact decide_eq_true q] at k; exact k) (fun q => by rw [show r_ge x y = false by unfold r_ge; exact decide_eq_false q] at k; exact k))
theorem zc_lcmpN_ge {off : Int} {tgt : Nat} (hf : zEx M Γ n 1 a b f) (hg : zEx M Γ (n + 2) 1 b c g) (hd0 : decode (zcc M) c = .ok (.lcmp, 1)) (hd : decode (zcc M) (c + 1) = .ok (.ifCond .lt off, 3)) (ht : ((c + 1 : Nat) : Int) + off = (tgt : Int)) : zCn M Γ n a (c + 4) tgt (cR r_ge f g) :=
  zc_2 hf hg (fun e st σ x y hx hy k => zr_lcmp_lt hx hy hd0 hd ht (fun q => by rw [show r_ge x y = false by unfold r_ge; exact decide_eq_false (by omega)] at k; exact k) (fun q => by rw [show r_ge x y = true by unfold r_ge; exact decide_eq_true (by omega)] at k; exact k))
theorem zc_icmp_gt {off : Int} {tgt : Nat} (hf : zEx M Γ n 0 a b f) (hg : zEx M Γ (n + 1) 0 b c g) (hd : decode (zcc M) c = .ok (.if_icmp .gt off, 3)) (ht : (c : Int) + off = (tgt : Int)) : zCn M Γ n a tgt (c + 3) (cR r_gt f g) :=
  zc_2 hf hg (fun e st σ x y hx hy k => zr_icmp_gt hx hy hd ht (fun q => by rw [show r_gt x y = true by unfold r_gt; exact decide_eq_true q] at k; exact k) (fun q => by rw [show r_gt x y = false by unfold r_gt; exact decide_eq_false q] at k; exact k))
theorem zc_icmpN_gt {off : Int} {tgt : Nat} (hf : zEx M Γ n 0 a b f) (hg : zEx M Γ (n + 1) 0 b c g) (hd : decode (zcc M) c = .ok (.if_icmp .le off, 3)) (ht : (c : Int) + off = (tgt : Int)) : zCn M Γ n a (c + 3) tgt (cR r_gt f g) :=
  zc_2 hf hg (fun e st σ x y hx hy k => zr_icmp_le hx hy hd ht (fun q => by rw [show r_gt x y = false by unfold r_gt; exact decide_eq_false (by omega)] at k; exact k) (fun q => by rw [show r_gt x y = true by unfold r_gt; exact decide_eq_true (by omega)] at k; exact k))
theorem zc_if_gt {off : Int} {tgt : Nat} (hf : zEx M Γ n 0 a b f) (hd : decode (zcc M) b = .ok (.ifCond .gt off, 3)) (ht : (b : Int) + off = (tgt : Int)) : zCn M Γ n a tgt (b + 3) (cV (fun x => r_gt x 0) f) :=
  zc_1 (rel := fun _ _ => true) hf (fun e st σ x hx k => zr_if_gt hx hd ht (fun q => by rw [show r_gt x 0 = true by unfold r_gt; exact decide_eq_true q] at k; exact k) (fun q => by rw [show r_gt x 0 = false by unfold r_gt; exact decide_eq_false q] at k; exact k))
theorem zc_ifN_gt {off : Int} {tgt : Nat} (hf : zEx M Γ n 0 a b f) (hd : decode (zcc M) b = .ok (.ifCond .le off, 3)) (ht : (b : Int) + off = (tgt : Int)) : zCn M Γ n a (b + 3) tgt (cV (fun x => r_gt x 0) f) :=
  zc_1 (rel := fun _ _ => true) hf (fun e st σ x hx k => zr_if_le hx hd ht (fun q => by rw [show r_gt x 0 = false by unfold r_gt; exact decide_eq_false (by omega)] at k; exact k) (fun q => by rw [show r_gt x 0 = true by unfold r_gt; exact decide_eq_true (by omega)] at k; exact k))
theorem zc_lcmp_gt {off : Int} {tgt : Nat} (hf : zEx M Γ n 1 a b f) (hg : zEx M Γ (n + 2) 1 b c g) (hd0 : decode (zcc M) c = .ok (.lcmp, 1)) (hd : decode (zcc M) (c + 1) = .ok (.ifCond .gt off, 3)) (ht : ((c + 1 : Nat) : Int) + off = (tgt : Int)) : zCn M Γ n a tgt (c + 4) (cR r_gt f g) :=
  zc_2 hf hg (fun e st σ x y hx hy k => zr_lcmp_gt hx hy hd0 hd ht (fun q => by rw [show r_gt x y = true by unfold r_gt; exact decide_eq_true q] at k; exact k) (fun q => by rw [show r_gt x y = false by unfold r_gt; exact decide_eq_false q] at k; exact k))
theorem zc_lcmpN_gt {off : Int} {tgt : Nat} (hf : zEx M Γ n 1 a b f) (hg : zEx M Γ (n + 2) 1 b c g) (hd0 : decode (zcc M) c = .ok (.lcmp, 1)) (hd : decode (zcc M) (c + 1) = .ok (.ifCond .le off, 3)) (ht : ((c + 1 : Nat) : Int) + off = (tgt : Int)) : zCn M Γ n a (c + 4) tgt (cR r_gt f g) :=
  zc_2 hf hg (fun e st σ x y hx hy k => zr_lcmp_le hx hy hd0 hd ht (fun q => by rw [show r_gt x y = false by unfold r_gt; exact decide_eq_false (by omega)] at k; exact k) (fun q => by rw [show r_gt x y = true by unfold r_gt; exact decide_eq_true (by omega)] at k; exact k))
theorem zc_icmp_le {off : Int} {tgt : Nat} (hf : zEx M Γ n 0 a b f) (hg : zEx M Γ (n + 1) 0 b c g) (hd : decode (zcc M) c = .ok (.if_icmp .le off, 3)) (ht : (c : Int) + off = (tgt : Int)) : zCn M Γ n a tgt (c + 3) (cR r_le f g) :=
  zc_2 hf hg (fun e st σ x y hx hy k => zr_icmp_le hx hy hd ht (fun q => by rw [show r_le x y = true by unfold r_le; exact decide_eq_true q] at k; exact k) (fun q => by rw [show r_le x y = false by unfold r_le; exact decide_eq_false q] at k; exact k))
theorem zc_icmpN_le {off : Int} {tgt : Nat} (hf : zEx M Γ n 0 a b f) (hg : zEx M Γ (n + 1) 0 b c g) (hd : decode (zcc M) c = .ok (.if_icmp .gt off, 3)) (ht : (c : Int) + off = (tgt : Int)) : zCn M Γ n a (c + 3) tgt (cR r_le f g) :=
  zc_2 hf hg (fun e st σ x y hx hy k => zr_icmp_gt hx hy hd ht (fun q => by rw [show r_le x y = false by unfold r_le; exact decide_eq_false (by omega)] at k; exact k) (fun q => by rw [show r_le x y = true by unfold r_le; exact decide_eq_true (by omega)] at k; exact k))
theorem zc_if_le {off : Int} {tgt : Nat} (hf : zEx M Γ n 0 a b f) (hd : decode (zcc M) b = .ok (.ifCond .le off, 3)) (ht : (b : Int) + off = (tgt : Int)) : zCn M Γ n a tgt (b + 3) (cV (fun x => r_le x 0) f) :=
  zc_1 (rel := fun _ _ => true) hf (fun e st σ x hx k => zr_if_le hx hd ht (fun q => by rw [show r_le x 0 = true by unfold r_le; exact decide_eq_true q] at k; exact k) (fun q => by rw [show r_le x 0 = false by unfold r_le; exact decide_eq_false q] at k; exact k))
theorem zc_ifN_le {off : Int} {tgt : Nat} (hf : zEx M Γ n 0 a b f) (hd : decode (zcc M) b = .ok (.ifCond .gt off, 3)) (ht : (b : Int) + off = (tgt : Int)) : zCn M Γ n a (b + 3) tgt (cV (fun x => r_le x 0) f) :=
  zc_1 (rel := fun _ _ => true) hf (fun e st σ x hx k => zr_if_gt hx hd ht (fun q => by rw [show r_le x 0 = false by unfold r_le; exact decide_eq_false (by omega)] at k; exact k) (fun q => by rw [show r_le x 0 = true by unfold r_le; exact decide_eq_true (by omega)] at k; exact k))
theorem zc_lcmp_le {off : Int} {tgt : Nat} (hf : zEx M Γ n 1 a b f) (hg : zEx M Γ (n + 2) 1 b c g) (hd0 : decode (zcc M) c = .ok (.lcmp, 1)) (hd : decode (zcc M) (c + 1) = .ok (.ifCond .le off, 3)) (ht : ((c + 1 : Nat) : Int) + off = (tgt : Int)) : zCn M Γ n a tgt (c + 4) (cR r_le f g) :=
  zc_2 hf hg (fun e st σ x y hx hy k => zr_lcmp_le hx hy hd0 hd ht (fun q => by rw [show r_le x y = true by unfold r_le; exact decide_eq_true q] at k; exact k) (fun q => by rw [show r_le x y = false by unfold r_le; exact decide_eq_false q] at k; exact k))
theorem zc_lcmpN_le {off : Int} {tgt : Nat} (hf : zEx M Γ n 1 a b f) (hg : zEx M Γ (n + 2) 1 b c g) (hd0 : decode (zcc M) c = .ok (.lcmp, 1)) (hd : decode (zcc M) (c + 1) = .ok (.ifCond .gt off, 3)) (ht : ((c + 1 : Nat) : Int) + off = (tgt : Int)) : zCn M Γ n a (c + 4) tgt (cR r_le f g) :=
  zc_2 hf hg (fun e st σ x y hx hy k => zr_lcmp_gt hx hy hd0 hd ht (fun q => by rw [show r_le x y = false by unfold r_le; exact decide_eq_false (by omega)] at k; exact k) (fun q => by rw [show r_le x y = true by unfold r_le; exact decide_eq_true (by omega)] at k; exact k))
theorem zo_iadd (hd : decode (zcc M) c = .ok (.iadd, 1)) : zOp M Γ 0 c o_iadd := fun _ _ _ _ _ _ _ => ⟨w32_r _, fun k => zr_iadd hd k⟩
theorem zo_isub (hd : decode (zcc M) c = .ok (.isub, 1)) : zOp M Γ 0 c o_isub := fun _ _ _ _ _ _ _ => ⟨w32_r _, fun k => zr_isub hd k⟩
theorem zo_imul (hd : decode (zcc M) c = .ok (.imul, 1)) : zOp M Γ 0 c o_imul := fun _ _ _ _ _ _ _ => ⟨w32_r _, fun k => zr_imul hd k⟩
theorem zo_ladd (hd : decode (zcc M) c = .ok (.ladd, 1)) : zOp M Γ 1 c o_ladd := fun _ _ _ _ _ _ _ => ⟨w64_r _, fun k => zr_ladd hd k⟩
theorem zo_lsub (hd : decode (zcc M) c = .ok (.lsub, 1)) : zOp M Γ 1 c o_lsub := fun _ _ _ _ _ _ _ => ⟨w64_r _, fun k => zr_lsub hd k⟩
theorem zo_lmul (hd : decode (zcc M) c = .ok (.lmul, 1)) : zOp M Γ 1 c o_lmul := fun _ _ _ _ _ _ _ => ⟨w64_r _, fun k => zr_lmul hd k⟩
theorem zo_iand (hd : decode (zcc M) c = .ok (.iand, 1)) : zOp M Γ 0 c zAnd := fun _ _ _ _ _ _ _ => ⟨z32_rt _, fun k => zr_iand hd k⟩
theorem zo_ior (hd : decode (zcc M) c = .ok (.ior, 1)) : zOp M Γ 0 c zOr := fun _ _ _ _ _ _ _ => ⟨z32_rt _, fun k => zr_ior hd k⟩
theorem zo_ixor (hd : decode (zcc M) c = .ok (.ixor, 1)) : zOp M Γ 0 c zXor := fun _ _ _ _ _ _ _ => ⟨z32_rt _, fun k => zr_ixor hd k⟩
end ZCN
section ZS
variable {M : zM} {Γ Γ2 Γ3 : List (Nat × Nat)} {a b d t n : Nat} {X : Nat → Nat × List (Nat × Nat)} {f g : zS} {x h : zX}
theorem zwt_nil : zwt [] = 0 := rfl
theorem zs_skip : zSt M Γ a a Γ X sK := by
  intro e σ t u τ ho hE hf
  cases hf
  exact ⟨ho, fun _ => ⟨hE, fun k => k⟩, fun h => (by cases h), fun h => by omega⟩
theorem zs_goto {off : Int} (hf : zSt M Γ a b Γ2 X f) (hd : decode (zcc M) b = .ok (.goto off, 3)) (ht : (b : Int) + off = (d : Int)) : zSt M Γ a d Γ2 X f := by
  intro e σ t u τ ho hE h
  obtain ⟨q1, q2, q3, q4⟩ := hf e σ t u τ ho hE h
  exact ⟨q1, fun z => ⟨(q2 z).1, fun k => (q2 z).2 (zr_goto hd ht k)⟩, q3, q4⟩
theorem zs_seq (hf : zSt M Γ a b Γ2 X f) (hg : zSt M Γ2 b d Γ3 X g) : zSt M Γ a d Γ3 X (sQ f g) := by
  intro e σ t u τ ho hE h
  obtain ⟨⟨t1, u1, τ1⟩, h1, h2⟩ := Option.bind_eq_some_iff.mp h
  obtain ⟨q1, q2, q3, q4⟩ := hf e σ t1 u1 τ1 ho hE h1
  dsimp only at h2
  by_cases ht : t1 = 0
  · rw [if_pos ht] at h2
    obtain ⟨hE1, k1⟩ := q2 ht
    obtain ⟨p1, p2, p3, p4⟩ := hg u1 τ1 t u τ q1 hE1 h2
    exact ⟨p1, fun z => ⟨(p2 z).1, fun k => k1 ((p2 z).2 k)⟩, fun z => ⟨(p3 z).1, fun k => k1 ((p3 z).2 k)⟩, fun z => ⟨(p4 z).1, fun k => k1 ((p4 z).2 k)⟩⟩
  · rw [if_neg ht] at h2
    cases h2
    exact ⟨q1, fun z => absurd z ht, q3, q4⟩
/-- fewer locals known -/
theorem zRn_sub {e : List Int} {st : List (Nat × Int)} {σ : zHp} (hs : ∀ q ∈ Γ2, q ∈ Γ) (k : zRn M a Γ2 e st σ) : zRn M a Γ e st σ := by
  refine ⟨k.1, ?_⟩
  intro p l en R s m args below meth c cells slots Q D cs ad A b H locs ls K hc hr ho hP hS hl
  exact k.2 p l en R s m args below meth c cells slots Q D cs ad A b H locs ls K hc hr ho hP hS ⟨hl.1, hl.2.1, fun q hq => by
    obtain ⟨z, hz, rfl⟩ := List.mem_map.mp hq
    exact hl.2.2 _ (List.mem_map.mpr ⟨z, hs z hz, rfl⟩)⟩
theorem zE_sub {e : List Int} (hs : ∀ q ∈ Γ2, q ∈ Γ) (h : zE M Γ e) : zE M Γ2 e := ⟨h.1, fun q hq => h.2 q (hs q hq)⟩
/-- locals that aren't known may be anything -/
theorem zRn_any {e e2 : List Int} {st : List (Nat × Int)} {σ : zHp} (hs : ∀ q ∈ Γ, zg e2 q.1 = zg e q.1) (k : zRn M a Γ e2 st σ) : zRn M a Γ e st σ := by
  have h : ∀ (ad : Nat → Nat) (b : Nat), zLs ad b Γ e = zLs ad b Γ e2 := fun ad b => List.map_congr_left (fun q hq => by rw [hs q hq])
  refine ⟨k.1, ?_⟩
  intro p l en R s m args below meth c cells slots Q D cs ad A b H locs ls K hc hr ho hP hS hl
  rw [h] at hl
  exact k.2 p l en R s m args below meth c cells slots Q D cs ad A b H locs ls K hc hr ho hP hS hl
theorem zclr_len : ∀ (ks : List Nat) (e : List Int), (zclr ks e).length = e.length
  | [], _ => rfl
  | k :: ks, e => by
    show (zclr ks (e.set k 0)).length = _
    rw [zclr_len ks, List.length_set]
theorem zclr_ne : ∀ (ks : List Nat) (e : List Int) (i : Nat), i ∉ ks → zg (zclr ks e) i = zg e i
  | [], _, _, _ => rfl
  | k :: ks, e, i, h => by
    show zg (zclr ks (e.set k 0)) i = _
    rw [zclr_ne ks _ i (fun q => h (List.mem_cons_of_mem _ q)), zg_set_ne (fun q => h (by rw [q]; exact List.mem_cons_self))]
/-- a block's own locals go -/
theorem zs_blk {ks : List Nat} (hf : zSt M Γ a b Γ3 X f) (hs : ∀ q ∈ Γ2, q ∈ Γ3) (hk : ∀ q ∈ Γ2, q.1 ∉ ks) (hX : ∀ i : Nat, ∀ q ∈ (X i).2, q.1 ∉ ks) : zSt M Γ a b Γ2 X (sD ks f) := by
  intro e σ t u τ ho hE h
  obtain ⟨⟨t1, u1, τ1⟩, h1, h2⟩ := Option.bind_eq_some_iff.mp h
  obtain ⟨q1, q2, q3, q4⟩ := hf e σ t1 u1 τ1 ho hE h1
  dsimp only at h2
  by_cases ht : t1 = 1
  · rw [if_pos ht] at h2
    cases h2
    exact ⟨q1, fun z => by omega, q3, fun z => by omega⟩
  · rw [if_neg ht] at h2
    cases h2
    refine ⟨q1, fun z => ⟨?_, fun k => ?_⟩, fun z => absurd z ht, fun z => ⟨?_, fun k => ?_⟩⟩
    · have h3 := zE_sub hs (q2 z).1
      exact ⟨by rw [zclr_len]; exact h3.1, fun q hq => by rw [zclr_ne ks _ _ (hk q hq)]; exact h3.2 q hq⟩
    · exact (q2 z).2 (zRn_sub hs (zRn_any (fun q hq => zclr_ne ks _ _ (hk q hq)) k))
    · have h3 := (q4 z).1
      exact ⟨by rw [zclr_len]; exact h3.1, fun q hq => by rw [zclr_ne ks _ _ (hX _ q hq)]; exact h3.2 q hq⟩
    · exact (q4 z).2 (zRn_any (fun q hq => zclr_ne ks _ _ (hX _ q hq)) k)
theorem zs_if {c : zC} {b1 b2 : Nat} (hc : zCn M Γ 0 a b1 b2 c) (hf : zSt M Γ b1 d Γ2 X f) (hg : zSt M Γ b2 d Γ2 X g) : zSt M Γ a d Γ2 X (sI c f g) := by
  intro e σ t u τ ho hE h
  obtain ⟨⟨v, σ1⟩, h1, h2⟩ := Option.bind_eq_some_iff.mp h
  obtain ⟨o1, k1⟩ := hc e σ v σ1 [] ho hE h1 (Nat.le_refl 0)
  cases v
  · obtain ⟨p1, p2, p3, p4⟩ := hg e σ1 t u τ o1 hE h2
    exact ⟨p1, fun z => ⟨(p2 z).1, fun k => k1 ((p2 z).2 k)⟩, fun z => ⟨(p3 z).1, fun k => k1 ((p3 z).2 k)⟩, fun z => ⟨(p4 z).1, fun k => k1 ((p4 z).2 k)⟩⟩
  · obtain ⟨p1, p2, p3, p4⟩ := hf e σ1 t u τ o1 hE h2
    exact ⟨p1, fun z => ⟨(p2 z).1, fun k => k1 ((p2 z).2 k)⟩, fun z => ⟨(p3 z).1, fun k => k1 ((p3 z).2 k)⟩, fun z => ⟨(p4 z).1, fun k => k1 ((p4 z).2 k)⟩⟩
def zX0 : Nat → Nat × List (Nat × Nat) := fun _ => (0, [])
theorem zX0_ok {ks : List Nat} : ∀ i : Nat, ∀ q ∈ (zX0 i).2, q.1 ∉ ks := fun _ _ h => absurd h List.not_mem_nil
def zY (b s : Nat) (Γ : List (Nat × Nat)) : Nat → Nat × List (Nat × Nat) := fun i => if i = 2 then (b, Γ) else (s, Γ)
theorem zY_ok {ks : List Nat} {s : Nat} (h : ∀ q ∈ Γ, q.1 ∉ ks) : ∀ i : Nat, ∀ q ∈ (zY b s Γ i).2, q.1 ∉ ks := by
  intro i q hq
  unfold zY at hq
  split at hq <;> exact h q hq
/-- a loop: head a, body b1 to s, step s to a, end b -/
theorem zs_loop {c : zC} {b1 s : Nat} {st : zS} (hc : zCn M Γ 0 a b1 b c) (hf : zSt M Γ b1 s Γ (zY b s Γ) f) (hs : zSt M Γ s a Γ X st) : zSt M Γ a b Γ X (sW c f st) := by
  have key : ∀ (n : Nat) (e : List Int) (σ : zHp) (t : Nat) (u : List Int) (τ : zHp), zOk σ → zE M Γ e → zloop c f st n e σ = some (t, u, τ) →
      zOk τ ∧ (t = 0 → zE M Γ u ∧ (zRn M b Γ u [] τ → zRn M a Γ e [] σ)) ∧ (t = 1 → zrr (zrt M) (zg u 0) ∧ (zpo M (zg u 0) τ ∧ zct τ ≤ zcp M → zRn M a Γ e [] σ)) ∧ (2 ≤ t → zE M (X t).2 u ∧ (zRn M (X t).1 (X t).2 u [] τ → zRn M a Γ e [] σ)) := by
    intro n
    induction n with
    | zero => intro e σ t u τ _ _ h; cases h
    | succ n ih =>
      intro e σ t u τ ho hE h
      obtain ⟨⟨v, σ1⟩, h1, h2⟩ := Option.bind_eq_some_iff.mp h
      obtain ⟨o1, k1⟩ := hc e σ v σ1 [] ho hE h1 (Nat.le_refl 0)
      cases v
      · cases h2
        exact ⟨o1, fun _ => ⟨hE, k1⟩, fun z => (by cases z), fun z => by omega⟩
      · obtain ⟨⟨t2, u2, σ2⟩, h3, h4⟩ := Option.bind_eq_some_iff.mp h2
        obtain ⟨q1, q2, q3, q4⟩ := hf e σ1 t2 u2 σ2 o1 hE h3
        dsimp only at h4
        by_cases ht : t2 = 0 ∨ t2 = 3
        · rw [if_pos ht] at h4
          have hq : zE M Γ u2 ∧ (zRn M s Γ u2 [] σ2 → zRn M b1 Γ e [] σ1) := by
            rcases ht with rfl | rfl
            · exact q2 rfl
            · exact q4 (by decide)
          obtain ⟨⟨t3, u3, σ3⟩, h5, h6⟩ := Option.bind_eq_some_iff.mp h4
          dsimp only at h6
          by_cases ht3 : t3 = 0
          case neg => rw [if_neg ht3] at h6; cases h6
          rw [if_pos ht3] at h6
          obtain ⟨s1, s2, -, -⟩ := hs u2 σ2 t3 u3 σ3 q1 hq.1 h5
          obtain ⟨hE3, k3⟩ := s2 ht3
          obtain ⟨p1, p2, p3, p4⟩ := ih u3 σ3 t u τ s1 hE3 h6
          exact ⟨p1, fun z => ⟨(p2 z).1, fun k => k1 (hq.2 (k3 ((p2 z).2 k)))⟩, fun z => ⟨(p3 z).1, fun k => k1 (hq.2 (k3 ((p3 z).2 k)))⟩, fun z => ⟨(p4 z).1, fun k => k1 (hq.2 (k3 ((p4 z).2 k)))⟩⟩
        · rw [if_neg ht] at h4
          by_cases ht2 : t2 = 2
          · rw [if_pos ht2] at h4
            cases h4
            subst ht2
            obtain ⟨p1, p2⟩ := q4 (by decide)
            exact ⟨q1, fun _ => ⟨p1, fun k => k1 (p2 k)⟩, fun z => (by cases z), fun z => by omega⟩
          · rw [if_neg ht2] at h4
            by_cases ht1 : t2 = 1
            case neg => rw [if_neg ht1] at h4; cases h4
            rw [if_pos ht1] at h4
            cases h4
            exact ⟨q1, fun z => by omega, fun z => ⟨(q3 z).1, fun k => k1 ((q3 z).2 k)⟩, fun z => by omega⟩
  intro e σ t u τ ho hE h
  exact key zfuel e σ t u τ ho hE h
theorem zs_ret (hx : zEx M Γ 0 t a b x) (ht : zrt M = t) (h9 : t = 0 ∨ t = 1 ∨ t = 4) (hd : zri t (zcc M) b) : zSt M Γ a d Γ2 X (sR x) := by
  intro e σ t0 u τ ho hE h
  obtain ⟨⟨v, σ1⟩, h1, h2⟩ := Option.bind_eq_some_iff.mp h
  cases h2
  obtain ⟨⟨r1, o1⟩, k1⟩ := hx e σ v _ [] ho hE h1 (Nat.le_refl 0)
  refine ⟨o1, fun z => (by cases z), fun _ => ⟨Or.inr (by rw [ht]; exact r1), fun hp => k1 ?_⟩, fun z => by omega⟩
  refine ⟨hp.2, ?_⟩
  intro p l en R s m args below meth c cells slots Q D cs ad A bb H locs ls K hc hr hok hP hS hl
  have hw := hr v _ H locs ls b cells slots hp.1 (Or.inr (by rw [ht]; exact r1)) hok hp.2 hc (zW_sub K.2.2.2.2.2.2.2.2.2.2.2.2.2 hP) hS (by rw [ht]; exact hd)
  have e1 : zsv ad bb [(t, v)] = zrv (zrt M) v := by
    rw [ht]
    rcases h9 with rfl | rfl | rfl <;> rfl
  rw [e1]
  exact hw
theorem zs_retv (ht : zrt M = 9) (hd : decode (zcc M) a = .ok (.return_, 1)) : zSt M Γ a d Γ2 X sV := by
  intro e σ t0 u τ ho hE h
  cases h
  refine ⟨ho, fun z => (by cases z), fun _ => ⟨Or.inl ht, fun hp => ?_⟩, fun z => by omega⟩
  refine ⟨hp.2, ?_⟩
  intro p l en R s m args below meth c cells slots Q D cs ad A bb H locs ls K hc hr hok hP hS hl
  have hw := hr 0 σ H locs ls a cells slots hp.1 (Or.inl ht) hok hp.2 hc (zW_sub K.2.2.2.2.2.2.2.2.2.2.2.2.2 hP) hS (by rw [ht]; exact hd)
  rw [ht] at hw
  exact hw
theorem zs_brk (hb : X 2 = (a, Γ2)) (hs : ∀ q ∈ Γ2, q ∈ Γ) : zSt M Γ a d Γ3 X sB := by
  intro e σ t0 u τ ho hE h
  cases h
  refine ⟨ho, fun z => (by cases z), fun z => (by cases z), fun _ => ?_⟩
  rw [hb]
  exact ⟨zE_sub hs hE, fun k => zRn_sub hs k⟩
theorem zs_brkG {off : Int} (hd : decode (zcc M) a = .ok (.goto off, 3)) (ht : (a : Int) + off = (b : Int)) (hb : X 2 = (b, Γ2)) (hs : ∀ q ∈ Γ2, q ∈ Γ) : zSt M Γ a d Γ3 X sB := by
  intro e σ t0 u τ ho hE h
  cases h
  refine ⟨ho, fun z => (by cases z), fun z => (by cases z), fun _ => ?_⟩
  rw [hb]
  exact ⟨zE_sub hs hE, fun k => zr_goto hd ht (zRn_sub hs k)⟩
theorem zs_cntG {off : Int} (hd : decode (zcc M) a = .ok (.goto off, 3)) (ht : (a : Int) + off = (b : Int)) (hb : X 3 = (b, Γ2)) (hs : ∀ q ∈ Γ2, q ∈ Γ) : zSt M Γ a d Γ3 X sC := by
  intro e σ t0 u τ ho hE h
  cases h
  refine ⟨ho, fun z => (by cases z), fun z => (by cases z), fun _ => ?_⟩
  rw [hb]
  exact ⟨zE_sub hs hE, fun k => zr_goto hd ht (zRn_sub hs k)⟩
theorem zs_istore_n {k : Fin 4} {i : Nat} (hx : zEx M Γ 0 0 a b x) (hd : decode (zcc M) b = .ok (.istore_n k, 1)) (hi : (k : Nat) = i) (hn : i < znl M) (h2 : ∀ q ∈ Γ2, q ∈ zset1 i 0 Γ) : zSt M Γ a (b + 1) Γ2 X (sS i x) := by
  intro e σ t0 u τ ho hE h
  obtain ⟨⟨v, σ1⟩, h1, h3⟩ := Option.bind_eq_some_iff.mp h
  cases h3
  obtain ⟨⟨r1, o1⟩, k1⟩ := hx e σ v _ [] ho hE h1 (Nat.le_refl 0)
  exact ⟨o1, fun _ => ⟨zE_sub h2 (zE_set1 hE (by omega) r1), fun k => k1 (zr_istore_n hd hi hn hE.1 (zRn_sub h2 k))⟩, fun z => (by cases z), fun z => by omega⟩
theorem zs_istore {i : Nat} (hx : zEx M Γ 0 0 a b x) (hd : decode (zcc M) b = .ok (.istore i, 2)) (hn : i < znl M) (h2 : ∀ q ∈ Γ2, q ∈ zset1 i 0 Γ) : zSt M Γ a (b + 2) Γ2 X (sS i x) := by
  intro e σ t0 u τ ho hE h
  obtain ⟨⟨v, σ1⟩, h1, h3⟩ := Option.bind_eq_some_iff.mp h
  cases h3
  obtain ⟨⟨r1, o1⟩, k1⟩ := hx e σ v _ [] ho hE h1 (Nat.le_refl 0)
  exact ⟨o1, fun _ => ⟨zE_sub h2 (zE_set1 hE (by omega) r1), fun k => k1 (zr_istore hd hn hE.1 (zRn_sub h2 k))⟩, fun z => (by cases z), fun z => by omega⟩
theorem zs_zstore_n {k : Fin 4} {i : Nat} (hx : zEx M Γ 0 4 a b x) (hd : decode (zcc M) b = .ok (.istore_n k, 1)) (hi : (k : Nat) = i) (hn : i < znl M) (h2 : ∀ q ∈ Γ2, q ∈ zset1 i 4 Γ) : zSt M Γ a (b + 1) Γ2 X (sS i x) := by
  intro e σ t0 u τ ho hE h
  obtain ⟨⟨v, σ1⟩, h1, h3⟩ := Option.bind_eq_some_iff.mp h
  cases h3
  obtain ⟨⟨r1, o1⟩, k1⟩ := hx e σ v _ [] ho hE h1 (Nat.le_refl 0)
  exact ⟨o1, fun _ => ⟨zE_sub h2 (zE_set1 hE (by omega) r1), fun k => k1 (zr_zstore_n hd hi hn hE.1 (zRn_sub h2 k))⟩, fun z => (by cases z), fun z => by omega⟩
theorem zs_zstore {i : Nat} (hx : zEx M Γ 0 4 a b x) (hd : decode (zcc M) b = .ok (.istore i, 2)) (hn : i < znl M) (h2 : ∀ q ∈ Γ2, q ∈ zset1 i 4 Γ) : zSt M Γ a (b + 2) Γ2 X (sS i x) := by
  intro e σ t0 u τ ho hE h
  obtain ⟨⟨v, σ1⟩, h1, h3⟩ := Option.bind_eq_some_iff.mp h
  cases h3
  obtain ⟨⟨r1, o1⟩, k1⟩ := hx e σ v _ [] ho hE h1 (Nat.le_refl 0)
  exact ⟨o1, fun _ => ⟨zE_sub h2 (zE_set1 hE (by omega) r1), fun k => k1 (zr_zstore hd hn hE.1 (zRn_sub h2 k))⟩, fun z => (by cases z), fun z => by omega⟩
theorem zs_lstore_n {k : Fin 4} {i : Nat} (hx : zEx M Γ 0 1 a b x) (hd : decode (zcc M) b = .ok (.lstore_n k, 1)) (hi : (k : Nat) = i) (hn : i + 1 < znl M) (h2 : ∀ q ∈ Γ2, q ∈ zset2 i 1 Γ) : zSt M Γ a (b + 1) Γ2 X (sS i x) := by
  intro e σ t0 u τ ho hE h
  obtain ⟨⟨v, σ1⟩, h1, h3⟩ := Option.bind_eq_some_iff.mp h
  cases h3
  obtain ⟨⟨r1, o1⟩, k1⟩ := hx e σ v _ [] ho hE h1 (Nat.le_refl 0)
  exact ⟨o1, fun _ => ⟨zE_sub h2 (zE_set2 hE (by omega) r1), fun k => k1 (zr_lstore_n hd hi hn hE.1 (zRn_sub h2 k))⟩, fun z => (by cases z), fun z => by omega⟩
theorem zs_lstore {i : Nat} (hx : zEx M Γ 0 1 a b x) (hd : decode (zcc M) b = .ok (.lstore i, 2)) (hn : i + 1 < znl M) (h2 : ∀ q ∈ Γ2, q ∈ zset2 i 1 Γ) : zSt M Γ a (b + 2) Γ2 X (sS i x) := by
  intro e σ t0 u τ ho hE h
  obtain ⟨⟨v, σ1⟩, h1, h3⟩ := Option.bind_eq_some_iff.mp h
  cases h3
  obtain ⟨⟨r1, o1⟩, k1⟩ := hx e σ v _ [] ho hE h1 (Nat.le_refl 0)
  exact ⟨o1, fun _ => ⟨zE_sub h2 (zE_set2 hE (by omega) r1), fun k => k1 (zr_lstore hd hn hE.1 (zRn_sub h2 k))⟩, fun z => (by cases z), fun z => by omega⟩
theorem zs_astore_n {k : Fin 4} {i : Nat} (hx : zEx M Γ 0 t a b x) (h5 : 5 ≤ t) (hd : decode (zcc M) b = .ok (.astore_n k, 1)) (hi : (k : Nat) = i) (hn : i < znl M) (h2 : ∀ q ∈ Γ2, q ∈ zset1 i t Γ) : zSt M Γ a (b + 1) Γ2 X (sS i x) := by
  intro e σ t0 u τ ho hE h
  obtain ⟨⟨v, σ1⟩, h1, h3⟩ := Option.bind_eq_some_iff.mp h
  cases h3
  obtain ⟨⟨r1, o1⟩, k1⟩ := hx e σ v _ [] ho hE h1 (Nat.le_refl 0)
  exact ⟨o1, fun _ => ⟨zE_sub h2 (zE_set1 hE (by omega) r1), fun k => k1 (zr_astore_n hd hi h5 hn hE.1 (zRn_sub h2 k))⟩, fun z => (by cases z), fun z => by omega⟩
theorem zs_astore {i : Nat} (hx : zEx M Γ 0 t a b x) (h5 : 5 ≤ t) (hd : decode (zcc M) b = .ok (.astore i, 2)) (hn : i < znl M) (h2 : ∀ q ∈ Γ2, q ∈ zset1 i t Γ) : zSt M Γ a (b + 2) Γ2 X (sS i x) := by
  intro e σ t0 u τ ho hE h
  obtain ⟨⟨v, σ1⟩, h1, h3⟩ := Option.bind_eq_some_iff.mp h
  cases h3
  obtain ⟨⟨r1, o1⟩, k1⟩ := hx e σ v _ [] ho hE h1 (Nat.le_refl 0)
  exact ⟨o1, fun _ => ⟨zE_sub h2 (zE_set1 hE (by omega) r1), fun k => k1 (zr_astore hd h5 hn hE.1 (zRn_sub h2 k))⟩, fun z => (by cases z), fun z => by omega⟩
theorem zs_iinc {i : Nat} {m : Int} (hd : decode (zcc M) a = .ok (.iinc i m, 3)) (hm : (i, 0) ∈ Γ) (hn : i < znl M) (h2 : ∀ q ∈ Γ2, q ∈ zset1 i 0 Γ) : zSt M Γ a (a + 3) Γ2 X (sS i (xB o_iadd (xL i) (xC m))) := by
  intro e σ t0 u τ ho hE h
  cases h
  exact ⟨ho, fun _ => ⟨zE_sub h2 (zE_set1 hE hn (w32_r _)), fun k => zr_iinc hd hm hn hE.1 (zRn_sub h2 k)⟩, fun z => (by cases z), fun z => by omega⟩
theorem zs_pop (hx : zEx M Γ 0 t a b x) (hc : zcat t = 1) (hd : decode (zcc M) b = .ok (.pop, 1)) : zSt M Γ a (b + 1) Γ X (sX x) := by
  intro e σ t0 u τ ho hE h
  obtain ⟨⟨v, σ1⟩, h1, h3⟩ := Option.bind_eq_some_iff.mp h
  cases h3
  obtain ⟨⟨r1, o1⟩, k1⟩ := hx e σ v _ [] ho hE h1 (Nat.le_refl 0)
  exact ⟨o1, fun _ => ⟨hE, fun k => k1 (zr_pop hc hd k)⟩, fun z => (by cases z), fun z => by omega⟩
section FLD
variable {k index N t2 c : Nat} {C : String} {T : u_T} {ty0 : Nat → FieldType} {ty : FieldType} {w : Int} {fo : zX}
theorem zs_putf (hf : zEx M Γ 0 t a b fo) (hx : zEx M Γ 1 t2 b c x) (ht : 5 ≤ t) (h7 : t ≤ 7 ∨ 10 ≤ t) (hc : vwCl[zcl t]? = some (C, T, N)) (hN : zln t = N) (hk : k < N) (hin : ∀ w ∈ u_ws C T N, w ∈ zTs M)
    (hw : Cond.fieldLink (zown M) index (T k).1 (T k).2.1 (T k).2.2.1 ∈ zTs M) (hty : ∀ k, k < N → parseFieldDescriptor (T k).2.2.1 = some (ty0 k)) (hnm : ∀ a, a < N → ∀ b, b < N → a ≠ b → (T a).2.1 ≠ (T b).2.1) (hfin : (T k).2.2.2 = false) (hds : parseFieldDescriptor (T k).2.2.1 = some ty)
    (hft : zft (zcl t) k = t2) (h2 : t2 = 0 ∧ ty = .int ∨ t2 = 1 ∧ ty = .long ∨ t2 = 4 ∧ ty = .boolean) (hwk : w = (k : Int)) (hd : decode (zcc M) c = .ok (.putfield index, 3)) : zSt M Γ a (c + 3) Γ X (sF fo w x) := by
  subst hwk
  have hcat : zcat t = 1 := by unfold zcat; split <;> first | omega | rfl
  intro e σ t0 u τ ho hE h
  obtain ⟨⟨y, σ1⟩, h1, h3⟩ := Option.bind_eq_some_iff.mp h
  obtain ⟨⟨v, σ2⟩, h4, h5⟩ := Option.bind_eq_some_iff.mp h3
  cases h5
  obtain ⟨⟨r1, o1⟩, k1⟩ := hf e σ y σ1 [] ho hE h1 (Nat.le_refl 0)
  obtain ⟨⟨r2, o2⟩, k2⟩ := hx e σ1 v σ2 [(t, y)] o1 hE h4 (by rw [zwt_cons, zwt_nil]; omega)
  refine ⟨?_, fun _ => ⟨hE, fun k => k1 (k2 (zr_putf ht h7 r1 r2 hc hN hk hin hw hty hnm hfin hds hft h2 hd k))⟩, fun z => (by cases z), fun z => by omega⟩
  obtain ⟨o, q1, rfl, q3, q4⟩ := zcl_ok ht h7 r1
  have hlt := zcl_lt hc
  refine zOk_put o2 ?_
  have : zst o k = t2 := by
    unfold zst
    rw [if_neg (by omega), if_neg (by omega), if_neg (by omega), q3, hft, if_neg (by omega)]
  rw [this]; exact r2
theorem zs_putS {o : Nat} {w0 : Int} (hf : zEx M Γ 0 (o + 10) a b (xC w0)) (hx : zEx M Γ 1 t2 b c x) (hc : vwCl[zcl (o + 10)]? = some (C, T, N)) (hN : zln (o + 10) = N) (hk : k < N) (hin : ∀ w ∈ u_ws C T N, w ∈ zTs M)
    (hw : Cond.fieldLink (zown M) index (T k).1 (T k).2.1 (T k).2.2.1 ∈ zTs M) (hty : ∀ k, k < N → parseFieldDescriptor (T k).2.2.1 = some (ty0 k)) (hnm : ∀ a, a < N → ∀ b, b < N → a ≠ b → (T a).2.1 ≠ (T b).2.1) (hfin : (T k).2.2.2 = false) (hds : parseFieldDescriptor (T k).2.2.1 = some ty)
    (hft : zft (zcl (o + 10)) k = t2) (h2 : t2 = 0 ∧ ty = .int ∨ t2 = 1 ∧ ty = .long ∨ t2 = 4 ∧ ty = .boolean) (hwk : w = (k : Int)) (hd : decode (zcc M) c = .ok (.putfield index, 3)) : zSt M Γ a (c + 3) Γ X (sG w0 w x) :=
  zs_putf hf hx (by omega) (by omega) hc hN hk hin hw hty hnm hfin hds hft h2 hwk hd
/-- a field of cell o becomes op of what it is and x: the cell's address is doubled first -/
theorem zs_putO {o : Nat} {w0 : Int} {op : Int → Int → Int} (hf : zEx M Γ 0 (o + 10) a b (xC w0)) (hd1 : decode (zcc M) b = .ok (.dup, 1)) (hd2 : decode (zcc M) (b + 1) = .ok (.getfield index, 3))
    (hm : 1 + zcat t2 = n) (hx : zEx M Γ n t2 (b + 4) c x) (hs : zOp M Γ t2 c op) (hc : vwCl[zcl (o + 10)]? = some (C, T, N)) (hN : zln (o + 10) = N) (hk : k < N) (hin : ∀ w ∈ u_ws C T N, w ∈ zTs M)
    (hw : Cond.fieldLink (zown M) index (T k).1 (T k).2.1 (T k).2.2.1 ∈ zTs M) (hty : ∀ k, k < N → parseFieldDescriptor (T k).2.2.1 = some (ty0 k)) (hnm : ∀ a, a < N → ∀ b, b < N → a ≠ b → (T a).2.1 ≠ (T b).2.1) (hfin : (T k).2.2.2 = false) (hds : parseFieldDescriptor (T k).2.2.1 = some ty)
    (hft : zft (zcl (o + 10)) k = t2) (h2 : t2 = 0 ∧ ty = .int ∨ t2 = 1 ∧ ty = .long ∨ t2 = 4 ∧ ty = .boolean) (hwk : w = (k : Int)) (hd : decode (zcc M) (c + 1) = .ok (.putfield index, 3)) : zSt M Γ a (c + 4) Γ X (sG w0 w (xB op (xG w0 w) x)) := by
  subst hwk
  subst hm
  have hcat : zcat (o + 10) = 1 := by unfold zcat; split <;> first | omega | rfl
  intro e σ t0 u τ ho hE h
  obtain ⟨⟨v, σ2⟩, h4, h5⟩ := Option.bind_eq_some_iff.mp h
  cases h5
  obtain ⟨⟨y, σ1⟩, h1, h3⟩ := Option.bind_eq_some_iff.mp h4
  cases h1
  obtain ⟨⟨z, σ3⟩, h6, h7⟩ := Option.bind_eq_some_iff.mp h3
  cases h7
  obtain ⟨⟨r1, o1⟩, k1⟩ := hf e σ w0 σ [] ho hE rfl (Nat.le_refl 0)
  obtain ⟨e0, e1, e2⟩ := inR_o r1
  subst e0
  have hlt := zcl_lt hc
  obtain ⟨o', p1, p2, p3, p4⟩ := zcl_ok (t := o + 10) (by omega) (by omega) r1
  have hoo : o' = o := by omega
  subst hoo
  have rv : inR t2 (σ (o' : Int) k) := zOk_f ho p3 hlt hft (by omega)
  obtain ⟨⟨r2, o2⟩, k2⟩ := hx e σ z _ [(t2, σ (o' : Int) k), (o' + 10, (o' : Int))] ho hE h6 (by rw [zwt_cons, zwt_cons, zwt_nil]; omega)
  obtain ⟨r3, k3⟩ := hs e [(o' + 10, (o' : Int))] _ _ z rv r2
  refine ⟨?_, fun _ => ⟨hE, fun k => k1 (zr_dup hcat hd1 (zr_getf (by omega) (by omega) r1 hc hN hk hin hw hft (by omega) hd2 (k2 (k3 (zr_putf (by omega) (by omega) r1 r3 hc hN hk hin hw hty hnm hfin hds hft h2 hd k)))))⟩, fun z => (by cases z), fun z => by omega⟩
  refine zOk_put o2 ?_
  have : zst o' k = t2 := by
    unfold zst
    rw [if_neg (by omega), if_neg (by omega), if_neg (by omega), p3, hft, if_neg (by omega)]
  rw [this]; exact r3
end FLD
theorem zs_iast {c : Nat} {N : Int} {fo gi : zX} (hf : zEx M Γ 0 t a b fo) (hg : zEx M Γ 1 0 b c gi) (hx : zEx M Γ 2 0 c d x) (ht : 5 ≤ t) (h7 : zpr M t) (hc : zcl t = 100) (hN : (zln t : Int) = N) (hd : decode (zcc M) d = .ok (.iastore, 1)) : zSt M Γ a (d + 1) Γ X (sA fo N gi x) := by
  have hcat : zcat t = 1 := by unfold zcat; split <;> first | omega | rfl
  have hc0 : zcat 0 = 1 := rfl
  subst hN
  intro e σ t0 u τ ho hE h
  obtain ⟨⟨y, σ1⟩, h1, h2⟩ := Option.bind_eq_some_iff.mp h
  obtain ⟨⟨i, σ2⟩, h3, h4⟩ := Option.bind_eq_some_iff.mp h2
  obtain ⟨⟨v, σ3⟩, h5, h6⟩ := Option.bind_eq_some_iff.mp h4
  dsimp only at h6
  by_cases hi : 0 ≤ i ∧ i < (zln t : Int)
  case neg => rw [if_neg hi] at h6; cases h6
  rw [if_pos hi] at h6
  cases h6
  obtain ⟨⟨r1, o1⟩, k1⟩ := hf e σ y σ1 [] ho hE h1 (Nat.le_refl 0)
  obtain ⟨⟨r2, o2⟩, k2⟩ := hg e σ1 i σ2 [(t, y)] o1 hE h3 (by rw [zwt_cons, zwt_nil]; omega)
  obtain ⟨⟨r3, o3⟩, k3⟩ := hx e σ2 v σ3 [(0, i), (t, y)] o2 hE h5 (by rw [zwt_cons, zwt_cons, zwt_nil]; omega)
  refine ⟨?_, fun _ => ⟨hE, fun k => k1 (k2 (k3 (zr_iast ht h7 r1 r3 hc hi.1 hi.2 hd k)))⟩, fun z => (by cases z), fun z => by omega⟩
  obtain ⟨o, q1, rfl, q3, q4⟩ := zcl_ok ht (zp_7 h7) r1
  obtain ⟨j, rfl⟩ : ∃ j : Nat, i = j := ⟨i.toNat, by omega⟩
  refine zOk_put o3 ?_
  have : zst o j = 0 := by unfold zst; rw [q3, hc]; rfl
  rw [this]; exact r3
theorem zs_iastS {c o : Nat} {N w : Int} {gi : zX} (hf : zEx M Γ 0 (o + 10) a b (xC w)) (hg : zEx M Γ 1 0 b c gi) (hx : zEx M Γ 2 0 c d x) (h7 : zpr M (o + 10)) (hc : zcl (o + 10) = 100) (hN : (zln (o + 10) : Int) = N) (hd : decode (zcc M) d = .ok (.iastore, 1)) : zSt M Γ a (d + 1) Γ X (sE w N gi x) :=
  zs_iast hf hg hx (by omega) h7 hc hN hd
theorem zs_last {c : Nat} {N : Int} {fo gi : zX} (hf : zEx M Γ 0 t a b fo) (hg : zEx M Γ 1 0 b c gi) (hx : zEx M Γ 2 1 c d x) (ht : 5 ≤ t) (h7 : zpr M t) (hc : zcl t = 101) (hN : (zln t : Int) = N) (hd : decode (zcc M) d = .ok (.lastore, 1)) : zSt M Γ a (d + 1) Γ X (sA fo N gi x) := by
  have hcat : zcat t = 1 := by unfold zcat; split <;> first | omega | rfl
  have hc0 : zcat 0 = 1 := rfl
  subst hN
  intro e σ t0 u τ ho hE h
  obtain ⟨⟨y, σ1⟩, h1, h2⟩ := Option.bind_eq_some_iff.mp h
  obtain ⟨⟨i, σ2⟩, h3, h4⟩ := Option.bind_eq_some_iff.mp h2
  obtain ⟨⟨v, σ3⟩, h5, h6⟩ := Option.bind_eq_some_iff.mp h4
  dsimp only at h6
  by_cases hi : 0 ≤ i ∧ i < (zln t : Int)
  case neg => rw [if_neg hi] at h6; cases h6
  rw [if_pos hi] at h6
  cases h6
  obtain ⟨⟨r1, o1⟩, k1⟩ := hf e σ y σ1 [] ho hE h1 (Nat.le_refl 0)
  obtain ⟨⟨r2, o2⟩, k2⟩ := hg e σ1 i σ2 [(t, y)] o1 hE h3 (by rw [zwt_cons, zwt_nil]; omega)
  obtain ⟨⟨r3, o3⟩, k3⟩ := hx e σ2 v σ3 [(0, i), (t, y)] o2 hE h5 (by rw [zwt_cons, zwt_cons, zwt_nil]; omega)
  refine ⟨?_, fun _ => ⟨hE, fun k => k1 (k2 (k3 (zr_last ht h7 r1 r3 hc hi.1 hi.2 hd k)))⟩, fun z => (by cases z), fun z => by omega⟩
  obtain ⟨o, q1, rfl, q3, q4⟩ := zcl_ok ht (zp_7 h7) r1
  obtain ⟨j, rfl⟩ : ∃ j : Nat, i = j := ⟨i.toNat, by omega⟩
  refine zOk_put o3 ?_
  have : zst o j = 1 := by unfold zst; rw [q3, hc]; rfl
  rw [this]; exact r3
theorem zs_lastS {c o : Nat} {N w : Int} {gi : zX} (hf : zEx M Γ 0 (o + 10) a b (xC w)) (hg : zEx M Γ 1 0 b c gi) (hx : zEx M Γ 2 1 c d x) (h7 : zpr M (o + 10)) (hc : zcl (o + 10) = 101) (hN : (zln (o + 10) : Int) = N) (hd : decode (zcc M) d = .ok (.lastore, 1)) : zSt M Γ a (d + 1) Γ X (sE w N gi x) :=
  zs_last hf hg hx (by omega) h7 hc hN hd
theorem zs_iastO {c o : Nat} {N w : Int} {gi : zX} {op : Int → Int → Int} (hf : zEx M Γ 0 (o + 10) a b (xC w)) (hg : zEx M Γ 1 0 b c gi) (hd1 : decode (zcc M) c = .ok (.dup2, 1)) (hd2 : decode (zcc M) (c + 1) = .ok (.iaload, 1)) (hx : zEx M Γ 3 0 (c + 2) d x) (hs : zOp M Γ 0 d op) (h7 : zpr M (o + 10)) (hc : zcl (o + 10) = 100) (hN : (zln (o + 10) : Int) = N) (hd : decode (zcc M) (d + 1) = .ok (.iastore, 1)) : zSt M Γ a (d + 2) Γ X (sEo op w N gi x) := by
  have hcat : zcat (o + 10) = 1 := by unfold zcat; split <;> first | omega | rfl
  have hc0 : zcat 0 = 1 := rfl
  subst hN
  intro e σ t0 u τ ho hE h
  obtain ⟨⟨i, σ2⟩, h3, h4⟩ := Option.bind_eq_some_iff.mp h
  dsimp only at h4
  by_cases hi : 0 ≤ i ∧ i < (zln (o + 10) : Int)
  case neg => rw [if_neg hi] at h4; cases h4
  rw [if_pos hi] at h4
  obtain ⟨⟨v, σ3⟩, h5, h6⟩ := Option.bind_eq_some_iff.mp h4
  cases h6
  obtain ⟨⟨r1, o1⟩, k1⟩ := hf e σ w σ [] ho hE rfl (Nat.le_refl 0)
  obtain ⟨⟨r2, o2⟩, k2⟩ := hg e σ i σ2 [(o + 10, w)] ho hE h3 (by rw [zwt_cons, zwt_nil]; omega)
  obtain ⟨o', q1, e1, q3, q4⟩ := zcl_ok (t := o + 10) (by omega) (by omega) r1
  obtain ⟨j, rfl⟩ : ∃ j : Nat, i = j := ⟨i.toNat, by omega⟩
  have hst : zst o' j = 0 := by unfold zst; rw [q3, hc]; rfl
  have rv : inR 0 (σ2 w j) := by
    have := o2.1 o' j
    rw [hst] at this
    rw [e1]; exact this
  obtain ⟨⟨r3, o3⟩, k3⟩ := hx e σ2 v σ3 [(0, σ2 w j), (0, (j : Int)), (o + 10, w)] o2 hE h5 (by rw [zwt_cons, zwt_cons, zwt_cons, zwt_nil]; omega)
  obtain ⟨r4, k4⟩ := hs e [(0, (j : Int)), (o + 10, w)] σ3 _ v rv r3
  refine ⟨?_, fun _ => ⟨hE, fun k => k1 (k2 (zr_dup2 rfl hcat hd1 (zr_iald (by omega) h7 r1 hc hi.1 hi.2 hd2 (k3 (k4 (zr_iast (by omega) h7 r1 r4 hc hi.1 hi.2 hd k))))))⟩, fun z => (by cases z), fun z => by omega⟩
  rw [e1]
  refine zOk_put o3 ?_
  rw [hst]
  rw [← e1]; exact r4
theorem zs_lastO {c o : Nat} {N w : Int} {gi : zX} {op : Int → Int → Int} (hf : zEx M Γ 0 (o + 10) a b (xC w)) (hg : zEx M Γ 1 0 b c gi) (hd1 : decode (zcc M) c = .ok (.dup2, 1)) (hd2 : decode (zcc M) (c + 1) = .ok (.laload, 1)) (hx : zEx M Γ 4 1 (c + 2) d x) (hs : zOp M Γ 1 d op) (h7 : zpr M (o + 10)) (hc : zcl (o + 10) = 101) (hN : (zln (o + 10) : Int) = N) (hd : decode (zcc M) (d + 1) = .ok (.lastore, 1)) : zSt M Γ a (d + 2) Γ X (sEo op w N gi x) := by
  have hcat : zcat (o + 10) = 1 := by unfold zcat; split <;> first | omega | rfl
  have hc0 : zcat 0 = 1 := rfl
  have hc1 : zcat 1 = 2 := rfl
  subst hN
  intro e σ t0 u τ ho hE h
  obtain ⟨⟨i, σ2⟩, h3, h4⟩ := Option.bind_eq_some_iff.mp h
  dsimp only at h4
  by_cases hi : 0 ≤ i ∧ i < (zln (o + 10) : Int)
  case neg => rw [if_neg hi] at h4; cases h4
  rw [if_pos hi] at h4
  obtain ⟨⟨v, σ3⟩, h5, h6⟩ := Option.bind_eq_some_iff.mp h4
  cases h6
  obtain ⟨⟨r1, o1⟩, k1⟩ := hf e σ w σ [] ho hE rfl (Nat.le_refl 0)
  obtain ⟨⟨r2, o2⟩, k2⟩ := hg e σ i σ2 [(o + 10, w)] ho hE h3 (by rw [zwt_cons, zwt_nil]; omega)
  obtain ⟨o', q1, e1, q3, q4⟩ := zcl_ok (t := o + 10) (by omega) (by omega) r1
  obtain ⟨j, rfl⟩ : ∃ j : Nat, i = j := ⟨i.toNat, by omega⟩
  have hst : zst o' j = 1 := by unfold zst; rw [q3, hc]; rfl
  have rv : inR 1 (σ2 w j) := by
    have := o2.1 o' j
    rw [hst] at this
    rw [e1]; exact this
  obtain ⟨⟨r3, o3⟩, k3⟩ := hx e σ2 v σ3 [(1, σ2 w j), (0, (j : Int)), (o + 10, w)] o2 hE h5 (by rw [zwt_cons, zwt_cons, zwt_cons, zwt_nil]; omega)
  obtain ⟨r4, k4⟩ := hs e [(0, (j : Int)), (o + 10, w)] σ3 _ v rv r3
  refine ⟨?_, fun _ => ⟨hE, fun k => k1 (k2 (zr_dup2 rfl hcat hd1 (zr_lald (by omega) h7 r1 hc hi.1 hi.2 hd2 (k3 (k4 (zr_last (by omega) h7 r1 r4 hc hi.1 hi.2 hd k))))))⟩, fun z => (by cases z), fun z => by omega⟩
  rw [e1]
  refine zOk_put o3 ?_
  rw [hst]
  rw [← e1]; exact r4
section CALLS
variable {y : MethodName} {cc2 : ByteArray} {maxL fr lo index c nn : Nat} {ret : Option FieldType} {ws ws2 : List Cond} {ts : List Nat} {fs : zAs} {mm : List Int → zHp → Option (Int × zHp)} {nd ab : List Nat} {sc : zSc}
theorem zs_callS (ha : zAr M Γ 0 ts a c fs) (hc : zCon y ws nd ab sc fr lo ts 9 mm) (hu : zFor M nd ab sc) (hws : ws = Cond.code y cc2 maxL ret :: ws2) (hG : GoodIn (zTs M) (va_wsS (zown M) index y ws)) (hn : ts.length = nn)
    (hy : y.cls ≠ "java/lang/invoke/MethodHandle" ∧ y.cls ≠ "java/lang/invoke/VarHandle" ∧ (parseMethodDescriptor y.desc).map (fun d => d.parameters.length) = some nn) (hR : fr + 1 ≤ zfr M ∧ 8 + (maxL + 11) + lo ≤ zlo M) (hd : decode (zcc M) c = .ok (.invokestatic index, 3)) : zSt M Γ a (c + 3) Γ X (sX (xK mm fs)) := by
  intro e σ t0 u τ ho hE h
  obtain ⟨⟨v, σ1⟩, h1, h2⟩ := Option.bind_eq_some_iff.mp h
  cases h2
  obtain ⟨⟨xs, σ2⟩, h4, h5⟩ := Option.bind_eq_some_iff.mp h1
  obtain ⟨⟨r1, o1⟩, k1⟩ := ha e σ xs σ2 [] ho hE h4 (Nat.le_refl 0)
  obtain ⟨q1, q2, -⟩ := hc.1 xs σ2 v _ o1 r1 h5
  exact ⟨q2, fun _ => ⟨hE, fun k => k1 (zr_callS hc hu (by omega) o1 r1 h5 hws hG hn hy hR (by rw [zwt_nil]; omega) hd k)⟩, fun z => (by cases z), fun z => by omega⟩
theorem zs_callV {C : String} {T : u_T} {N : Nat} (ha : zAr M Γ 0 (t :: ts) a c fs) (hc : zCon y ws nd ab sc fr lo (t :: ts) 9 mm) (hu : zFor M nd ab sc) (ht : 5 ≤ t) (h7 : t ≤ 7 ∨ 10 ≤ t) (hcl : vwCl[zcl t]? = some (C, T, N)) (hws : ws = Cond.code y cc2 maxL ret :: ws2) (hG : GoodIn (zTs M) (wsV (zown M) index C y ws)) (hn : ts.length = nn)
    (hy : y.cls = C ∧ y.cls ≠ "java/lang/invoke/MethodHandle" ∧ y.cls ≠ "java/lang/invoke/VarHandle" ∧ (parseMethodDescriptor y.desc).map (fun d => d.parameters.length) = some nn) (hR : fr + 1 ≤ zfr M ∧ 8 + (maxL + 11) + lo ≤ zlo M) (hd : decode (zcc M) c = .ok (.invokevirtual index, 3)) : zSt M Γ a (c + 3) Γ X (sX (xK mm fs)) := by
  intro e σ t0 u τ ho hE h
  obtain ⟨⟨v, σ1⟩, h1, h2⟩ := Option.bind_eq_some_iff.mp h
  cases h2
  obtain ⟨⟨xs, σ2⟩, h4, h5⟩ := Option.bind_eq_some_iff.mp h1
  obtain ⟨⟨r1, o1⟩, k1⟩ := ha e σ xs σ2 [] ho hE h4 (Nat.le_refl 0)
  obtain ⟨q1, q2, -⟩ := hc.1 xs σ2 v _ o1 r1 h5
  cases xs with
  | nil => exact r1.elim
  | cons z zs => exact ⟨q2, fun _ => ⟨hE, fun k => k1 (zr_callV hc hu (by omega) o1 ht h7 r1 hcl h5 hws hG hn hy hR (by rw [zwt_nil]; omega) hd k)⟩, fun z => (by cases z), fun z => by omega⟩
end CALLS
def zSws (M : zM) (Γ : List (Nat × Nat)) (en : Nat) (Γ2 : List (Nat × Nat)) (Y : Nat → Nat × List (Nat × Nat)) : List Nat → List zS → Prop
  | [], [] => True
  | t :: ts, g :: gs => zSt M Γ t en Γ2 Y g ∧ zSws M Γ en Γ2 Y ts gs
  | _, _ => False
def zZ (en : Nat) (Γ2 : List (Nat × Nat)) (X : Nat → Nat × List (Nat × Nat)) : Nat → Nat × List (Nat × Nat) := fun i => if i = 2 then (en, Γ2) else X i
theorem zZ_ok {en : Nat} {ks : List Nat} (h : ∀ q ∈ Γ2, q.1 ∉ ks) (hX : ∀ i : Nat, ∀ q ∈ (X i).2, q.1 ∉ ks) : ∀ i : Nat, ∀ q ∈ (zZ en Γ2 X i).2, q.1 ∉ ks := by
  intro i q hq
  unfold zZ at hq
  split at hq
  · exact h q hq
  · exact hX i q hq
theorem zSws_in {en : Nat} {Y : Nat → Nat × List (Nat × Nat)} {dd : zS} : ∀ {ts : List Nat} {gs : List zS}, zSws M Γ en Γ2 Y ts gs → ∀ i : Nat, (∀ tg, ts[i]? = some tg → zSt M Γ tg en Γ2 Y (zpick dd gs i)) ∧ (ts.length ≤ i → zpick dd gs i = dd)
  | [], [], _, i => ⟨fun tg h => by simp at h, fun _ => rfl⟩
  | t :: ts, g :: gs, h, 0 => ⟨fun tg q => by
      have : t = tg := by simpa using q
      subst this
      exact h.1, fun q => by simp at q⟩
  | t :: ts, g :: gs, h, i + 1 => by
      obtain ⟨p1, p2⟩ := zSws_in (dd := dd) h.2 i
      have e : zpick dd (g :: gs) ((i + 1 : Nat) : Int) = zpick dd gs (i : Int) := by
        show (if ((i + 1 : Nat) : Int) = 0 then g else zpick dd gs (((i + 1 : Nat) : Int) - 1)) = _
        rw [if_neg (by omega)]
        congr 1
        omega
      rw [e]
      exact ⟨fun tg q => p1 tg (by simpa using q), fun q => p2 (by simp at q; omega)⟩
  | [], _ :: _, h, _ => h.elim
  | _ :: _, [], h, _ => h.elim
theorem zs_switch {dflt lo hi : Int} {offs : Array Int} {len en td : Nat} {ts : List Nat} {gs : List zS} {dd : zS} (hx : zEx M Γ 0 0 a b x) (hd : decode (zcc M) b = .ok (.tableswitch dflt lo hi offs, len)) (hts : offs.toList = ts.map (fun t : Nat => (t : Int) - (b : Int))) (hhi : hi = lo + (ts.length : Int) - 1) (htd : (b : Int) + dflt = (td : Int)) (hgs : zSws M Γ en Γ2 (zZ en Γ2 X) ts gs) (hdd : zSt M Γ td en Γ2 (zZ en Γ2 X) dd) : zSt M Γ a en Γ2 X (sN x lo gs dd) := by
  intro e σ t0 u τ ho hE h
  obtain ⟨⟨v, σ1⟩, h1, h2⟩ := Option.bind_eq_some_iff.mp h
  obtain ⟨⟨t3, u3, σ3⟩, h3, h4⟩ := Option.bind_eq_some_iff.mp h2
  obtain ⟨⟨r1, o1⟩, k1⟩ := hx e σ v σ1 [] ho hE h1 (Nat.le_refl 0)
  have hv : (Int32.ofInt v).toInt = v := z32_ti r1
  have key : ∃ tg : Nat, zSt M Γ tg en Γ2 (zZ en Γ2 X) (if v < lo then dd else zpick dd gs (v - lo)) ∧ (zRn M tg Γ e [] σ1 → zRn M b Γ e [(0, v)] σ1) := by
    by_cases hlo : v < lo
    · refine ⟨td, by rw [if_pos hlo]; exact hdd, fun k => zr_a k (fun p l en R s m args below meth c cells slots Q D cs ad A b' H locs ls K hc ho hP hS hl kk => ?_)⟩
      exact lv_tableOut K.1 K.2.1 hd (Or.inl (by rw [hv]; exact hlo)) htd kk
    · rw [if_neg hlo]
      obtain ⟨i, hi⟩ : ∃ i : Nat, v - lo = i := ⟨(v - lo).toNat, by omega⟩
      obtain ⟨p1, p2⟩ := zSws_in (dd := dd) hgs i
      rw [hi]
      by_cases hl : i < ts.length
      · obtain ⟨tg, htg⟩ : ∃ tg, ts[i]? = some tg := ⟨_, List.getElem?_eq_getElem hl⟩
        refine ⟨tg, p1 tg htg, fun k => zr_a k (fun p l en R s m args below meth c cells slots Q D cs ad A b' H locs ls K hc ho hP hS hlv kk => ?_)⟩
        refine lv_tableIn (off := (tg : Int) - (b : Int)) K.1 K.2.1 hd (by rw [hv]; exact hlo) (by rw [hv]; omega) ?_ (by omega) kk
        rw [hv, hi, Int.toNat_natCast, ← Array.getElem?_toList, hts, List.getElem?_map, htg]
        rfl
      · rw [p2 (by omega)]
        refine ⟨td, hdd, fun k => zr_a k (fun p l en R s m args below meth c cells slots Q D cs ad A b' H locs ls K hc ho hP hS hlv kk => ?_)⟩
        exact lv_tableOut K.1 K.2.1 hd (Or.inr (by rw [hv]; omega)) htd kk
  obtain ⟨tg, hst, kt⟩ := key
  obtain ⟨q1, q2, q3, q4⟩ := hst e σ1 t3 u3 σ3 o1 hE h3
  dsimp only at h4
  by_cases ht : t3 = 2
  · rw [if_pos ht] at h4
    cases h4
    subst ht
    obtain ⟨p1, p2⟩ := q4 (by decide)
    exact ⟨q1, fun _ => ⟨p1, fun k => k1 (kt (p2 k))⟩, fun z => (by cases z), fun z => by omega⟩
  · rw [if_neg ht] at h4
    cases h4
    refine ⟨q1, fun z => ⟨(q2 z).1, fun k => k1 (kt ((q2 z).2 k))⟩, fun z => ⟨(q3 z).1, fun k => k1 (kt ((q3 z).2 k))⟩, fun z => ?_⟩
    have e2 : zZ en Γ2 X t0 = X t0 := by unfold zZ; rw [if_neg ht]
    have q5 := q4 z
    rw [e2] at q5
    exact ⟨q5.1, fun k => k1 (kt (q5.2 k))⟩
end ZS
end
section
section ZMORE
variable {M : zM} {Γ : List (Nat × Nat)} {n a b : Nat}
theorem zx_bconst {c m : Int} (hd : decode (zcc M) a = .ok (.iconst m, 1)) (hm : m = c) (hc : c = 0 ∨ c = 1) : zEx M Γ n 4 a (a + 1) (xC c) := zx_leaf (fun _ _ => hc) (fun _ _ _ _ k => zr_iconst hd hm k)
end ZMORE
theorem zx_w7 {M : zM} {Γ : List (Nat × Nat)} {n o a b : Nat} {f : zX} (ho : o = 9 ∨ o = 26) (hf : zEx M Γ n (o + 10) a b f) : zEx M Γ n 7 a b f := by
  intro e σ v τ st hok hE h hwt
  obtain ⟨⟨r1, r2⟩, k1⟩ := hf e σ v τ st hok hE h hwt
  refine ⟨⟨?_, r2⟩, fun kn => k1 ?_⟩
  · obtain ⟨q, -, -⟩ := inR_o r1
    show v = 9 ∨ v = 26
    omega
  · refine ⟨kn.1, ?_⟩
    intro p l en R s m args below meth c cells slots Q D cs ad A bb H locs ls K hc hr ho hP hS hl
    have e1 : zsv ad bb ((o + 10, v) :: st) = zsv ad bb ((7, v) :: st) := by rw [zsv_ref (by omega), zsv_ref (by decide)]
    rw [e1]
    exact kn.2 p l en R s m args below meth c cells slots Q D cs ad A bb H locs ls K hc hr ho hP hS hl
section ZSCR
variable {M : zM} {Γ : List (Nat × Nat)} {n a b : Nat}
theorem zx_sarg {k : Fin 4} {i : Nat} (hd : decode (zcc M) a = .ok (.aload_n k, 1)) (hi : (k : Nat) = i) (hm : (i, 3) ∈ Γ) : zEx M Γ n 3 a (a + 1) (xC 0) := zx_leaf (fun _ _ => trivial) (fun _ _ _ _ q => zr_saload_n hd hi hm q)
theorem zx_thisW {o i : Nat} {w : Int} (hd : decode (zcc M) a = .ok (.aload i, 2)) (hw : w = (o : Int)) (ho : o < 43) (hm : (i, o + 10) ∈ Γ) : zEx M Γ n (o + 10) a (a + 2) (xC w) := by
  subst hw
  refine zx_leaf (w := fun _ => (o : Int)) (fun e hE => inR_of ho) (fun e σ st hE q => zr_aload hd (by omega) hm ?_)
  have h0 : zg e i = (o : Int) := (inR_o (hE.2 (i, o + 10) hm)).1
  rw [h0]
  exact q
theorem zc_gotoT {off : Int} {tt ff tgt : Nat} {f : zC} (hf : zCn M Γ n a tt ff f) (hd : decode (zcc M) tt = .ok (.goto off, 3)) (ht : (tt : Int) + off = (tgt : Int)) : zCn M Γ n a tgt ff f := by
  intro e σ v τ st hok hE h hwt
  obtain ⟨o1, k1⟩ := hf e σ v τ st hok hE h hwt
  refine ⟨o1, fun k => k1 ?_⟩
  cases v with
  | true => exact zr_goto hd ht k
  | false => exact k
theorem zs_cnt {Γ2 Γ3 : List (Nat × Nat)} {d : Nat} {X : Nat → Nat × List (Nat × Nat)} (hb : X 3 = (a, Γ2)) (hs : ∀ q ∈ Γ2, q ∈ Γ) : zSt M Γ a d Γ3 X sC := by
  intro e σ t0 u τ ho hE h
  cases h
  refine ⟨ho, fun z => (by cases z), fun z => (by cases z), fun _ => ?_⟩
  rw [hb]
  exact ⟨zE_sub hs hE, fun k => zRn_sub hs k⟩
end ZSCR
end
section
/-! a row made on the way: cell k, of N places; it is in the world until the block's end -/
def zfresh (σ : zHp) (k : Int) : zHp := fun a b => if a = k then 0 else if a = -1 ∧ b = 0 then σ (-1) 0 + 1 else σ a b
def sNw (k slot : Nat) (f : zS) : zS := fun e σ => if zct σ < zcap then f (e.set slot k) (zfresh σ k) else none
theorem zct_fresh (σ : zHp) (k : Nat) : zct (zfresh σ k) = zct σ + 1 := by
  unfold zct zfresh
  rw [if_neg (by omega), if_pos ⟨rfl, rfl⟩]
theorem zfresh_k (σ : zHp) (k b : Int) : zfresh σ k k b = 0 := by
  unfold zfresh
  rw [if_pos rfl]
theorem zfresh_o {σ : zHp} {k a : Int} (h : a ≠ k) (h1 : 0 ≤ a) (b : Int) : zfresh σ k a b = σ a b := by
  unfold zfresh
  rw [if_neg h, if_neg (by omega)]
theorem zOk_fresh {σ : zHp} {k : Nat} (hk : zoc k = 100 ∨ zoc k = 101) (h : zOk σ) (hc : zct σ < zcap) : zOk (zfresh σ k) := by
  refine ⟨fun a b => ?_, by rw [zct_fresh]; have := h.2.1; omega, by rw [zct_fresh]; omega⟩
  by_cases q : (a : Int) = k
  · have e : a = k := by omega
    subst e
    rw [zfresh_k]
    rcases hk with hk | hk
    · have : zst a b = 0 := by unfold zst; rw [if_pos hk]
      rw [this]; exact ⟨by decide, by decide⟩
    · have : zst a b = 1 := by unfold zst; rw [if_neg (by omega), if_pos hk]
      rw [this]; exact ⟨by decide, by decide⟩
  · rw [zfresh_o q (by omega)]
    exact h.1 a b
abbrev zMn (M : zM) (k : Nat) : zM := (M.1, M.2.1, M.2.2.1, M.2.2.2.1, M.2.2.2.2.1, M.2.2.2.2.2.1, M.2.2.2.2.2.2.1, M.2.2.2.2.2.2.2.1, zn0 M, k :: zns M, zcp M, zpo M)
def zup (ad : Nat → Nat) (k q : Nat) : Nat → Nat := fun i => if i = k then q else ad i
theorem zup_k (ad : Nat → Nat) (k q : Nat) : zup ad k q k = q := by unfold zup; rw [if_pos rfl]
theorem zup_o {ad : Nat → Nat} {k q i : Nat} (h : i ≠ k) : zup ad k q i = ad i := by unfold zup; rw [if_neg h]
theorem zfv_kind (ci k : Nat) : zft ci k = 0 ∨ zft ci k = 1 ∨ zft ci k = 2 ∨ zft ci k = 4 := by
  have hall : ∀ l ∈ zFT, ∀ z ∈ l, z = 0 ∨ z = 1 ∨ z = 2 ∨ z = 4 := by decide +kernel
  unfold zft
  rw [List.getD_eq_getElem?_getD, List.getD_eq_getElem?_getD]
  cases q1 : zFT[ci]? with
  | none => left; simp
  | some l =>
    simp only [Option.getD_some]
    cases q2 : l[k]? with
    | none => left; simp
    | some z => simpa using hall l (List.mem_of_getElem? q1) z (List.mem_of_getElem? q2)
/-- a cell stays what it is where another is put beside it -/
theorem zcell_up {cs : zCs} {ad : Nat → Nat} {σ : zHp} {k q o : Nat} (hk : 37 ≤ k) : zcell cs (zup ad k q) σ o = zcell cs ad σ o := by
  have hs : ∀ j, zup ad k q (zsh o j) = ad (zsh o j) := fun j => zup_o (by have := zsh_lt o j; omega)
  have hv : ∀ j, zfv (zup ad k q) σ o j = zfv ad σ o j := fun j => by
    unfold zfv
    rw [hs]
    rcases zfv_kind (zoc o) j with h | h | h | h <;> rw [h] <;> rfl
  unfold zcell
  have hf : zfv (zup ad k q) σ o = zfv ad σ o := funext hv
  rw [hf]
  simp only [hs]
theorem zW_up {cs : zCs} {ad : Nat → Nat} {σ τ : zHp} {k q : Nat} {ns : List Nat} (hk : 37 ≤ k) (hn : k ∉ ns) (h : ∀ o : Nat, o ≠ k → ∀ j : Int, τ o j = σ o j) : zW cs (zup ad k q) τ ns = zW cs ad σ ns := by
  unfold zW
  refine List.map_congr_left (fun o ho => ?_)
  have hne : o ≠ k := fun e => hn (e ▸ ho)
  rw [zup_o hne, zcell_up hk, zcell_eq (h o hne)]
theorem zV_up {ad : Nat → Nat} {b t k q : Nat} {x : Int} (hk : 37 ≤ k) (ht : t ≠ k + 10 ∧ t ≠ 2) (hx : inR t x) : zV (zup ad k q) b t x = zV ad b t x := by
  by_cases h5 : 5 ≤ t
  · rw [zV_ref h5, zV_ref h5, zup_o]
    intro e
    by_cases h10 : 10 ≤ t
    · obtain ⟨n, rfl⟩ : ∃ n, t = n + 10 := ⟨t - 10, by omega⟩
      obtain ⟨h1, h2, h3⟩ := inR_o hx
      omega
    · rcases (show t = 5 ∨ t = 6 ∨ t = 7 ∨ t = 8 ∨ t = 9 by omega) with rfl | rfl | rfl | rfl | rfl
      · have : x = 29 ∨ x = 31 ∨ x = 33 ∨ x = 35 := hx
        omega
      · have : x = 30 ∨ x = 32 ∨ x = 34 ∨ x = 36 := hx
        omega
      · have : x = 9 ∨ x = 26 := hx
        omega
      · have : x = ((8 : Nat) : Int) - 10 ∧ 0 ≤ x ∧ x < 43 := hx
        omega
      · have : x = ((9 : Nat) : Int) - 10 ∧ 0 ≤ x ∧ x < 43 := hx
        omega
  · rcases (show t = 0 ∨ t = 1 ∨ t = 3 ∨ t = 4 by omega) with rfl | rfl | rfl | rfl <;> rfl
theorem zLs_up {ad : Nat → Nat} {b k q : Nat} {M : zM} {Γ : List (Nat × Nat)} {e : List Int} (hk : 37 ≤ k) (hE : zE M Γ e) (hΓ : ∀ z ∈ Γ, z.2 ≠ k + 10 ∧ z.2 ≠ 2) : zLs (zup ad k q) b Γ e = zLs ad b Γ e := by
  unfold zLs
  refine List.map_congr_left (fun z hz => ?_)
  rw [zV_up hk (hΓ z hz) (hE.2 z hz)]
/-- what the row is at first -/
def zrow0 (cA : ClassId) (k : Nat) : va_E := if zoc k = 100 then .inl (cA, zon k, .inl (fun _ => (0 : Int32))) else .inl (cA, zon k, .inr (.inl (fun _ => (0 : Int64))))
theorem zrow_i {cs : zCs} {ad : Nat → Nat} {σ : zHp} {k : Nat} (h : zoc k = 100) : zcell cs ad (zfresh σ k) k = .inl (cs.1, zon k, .inl (fun _ => (0 : Int32))) := by
  rw [zcell_i h]
  congr 4
  funext j
  rw [zfresh_k]
  rfl
theorem zrow_l {cs : zCs} {ad : Nat → Nat} {σ : zHp} {k : Nat} (h : zoc k = 101) : zcell cs ad (zfresh σ k) k = .inl (cs.2.1, zon k, .inr (.inl (fun _ => (0 : Int64)))) := by
  rw [zcell_l h]
  congr 5
  funext j
  rw [zfresh_k]
  rfl
section ZNEW
variable {M : zM} {Γ Γ1 Γ2 Γ3 : List (Nat × Nat)} {a b a1 a3 k N slot : Nat} {X : Nat → Nat × List (Nat × Nat)} {f : zS}
/-- from behind 'newarray' with the row on the stack, back to ahead of it -/
theorem zr_new {e : List Int} {σ : zHp} {pc : Nat} {at0 : ArrayType} (hk : 37 ≤ k) (hN : zon k = N) (hN16 : N ≤ 16) (hm : k ∉ zns M) (hm0 : k ∉ zn0 M) (hE : zE M Γ e) (hΓ : ∀ z ∈ Γ, z.2 ≠ k + 10 ∧ z.2 ≠ 2) (ho : zOk σ) (hc : zct σ < zcap)
    (hty : at0 = .int ∧ zoc k = 100 ∨ at0 = .long ∧ zoc k = 101) (harr : Cond.arrayClass (newarray.typeOf at0) ∈ zTs M) (hd : decode (zcc M) pc = .ok (.newarray at0, 2))
    (kn : zRn (zMn M k) (pc + 2) Γ e [(k + 10, (k : Int))] (zfresh σ k)) : zRn M pc Γ e [(0, (N : Int))] σ := by
  have hct := zct_fresh σ k
  refine ⟨by have := kn.1; show zct σ ≤ zcp M; have h2 : zct (zfresh σ k) ≤ zcp M := this; omega, ?_⟩
  intro p l en R s m args below meth c cells slots Q D cs ad A b H locs ls K hcc hr hok hP hS hl
  have hle : zct (zfresh σ k) ≤ zcp M := kn.1
  unfold zRo at hcc
  have hokf : zOk (zfresh σ k) := zOk_fresh (hty.elim (fun q => Or.inl q.2) (fun q => Or.inr q.2)) ho hc
  have nK : zNs (zns M) := K.2.2.2.2.2.2.2.2.2.2.2.2.1
  have hn0 : ¬ Int32.ofInt (N : Int) < 0 := fun q => by
    have := (z32_lt (x := (N : Int)) (y := 0) ⟨by omega, by omega⟩ z32_00).mp q
    omega
  have hcl : (Int32.ofInt (N : Int)).toNatClampNeg = N := by
    rw [Int32.toNatClampNeg_ofInt_of_le (by omega) (by omega)]
    omega
  have go : ∀ (q : Nat) (H1 : Heap) (x0 : va_E), zcell cs (zup ad k q) (zfresh σ k) k = x0 → va_P D vwCl (zW cs ad σ (zns M) ++ [(q, x0)]) H1 → va_D A (zW cs ad σ (zns M) ++ [(q, x0)]) → va_S A s.heap H1 locs →
      W p l en R s m args below meth c H1 locs (cells + 1) (slots + N) Q (F0 m (pc + 2) ls (Value.ref q :: [])) := by
    intro q H1 x0 hx0 hP1 hD1 hS1
    have hw : zW cs (zup ad k q) (zfresh σ k) (zns M) = zW cs ad σ (zns M) := zW_up hk hm (fun o h j => zfresh_o (by omega) (by omega) j)
    have hlen : (zW cs ad σ (zns M)).length = (zns M).length := by unfold zW; rw [List.length_map]
    have hlast : (zW cs ad σ (zns M) ++ [(q, x0)])[(zns M).length]? = some (q, x0) := by
      rw [← hlen, List.getElem?_append_right (Nat.le_refl _), Nat.sub_self]; rfl
    have hat : ∀ i ∈ zns M, (zW cs ad σ (zns M) ++ [(q, x0)])[(zns M).idxOf i]? = some (ad i, zcell cs ad σ i) := fun i hi => by
      rw [List.getElem?_append_left (by rw [hlen]; exact List.idxOf_lt_length_of_mem hi)]
      exact zW_get cs ad σ hi
    have hq : ∀ i ∈ zns M, ad i ≠ q := fun i hi e => by
      have h1 := hD1.1 _ _ _ _ (hat i hi) hlast e
      have h2 := List.idxOf_lt_length_of_mem hi
      omega
    have hP2 : va_P D vwCl (zW cs (zup ad k q) (zfresh σ k) (k :: zns M)) H1 := by
      intro i z hz
      obtain ⟨o, h1, h2, rfl⟩ := zW_of hz
      rcases List.mem_cons.mp h2 with rfl | h2
      · rw [zup_k, hx0]
        exact hP1 _ _ hlast
      · have h3 := zW_get cs (zup ad k q) (zfresh σ k) h2
        rw [hw] at h3
        refine hP1 ((zns M).idxOf o) _ ?_
        rw [List.getElem?_append_left (by rw [hlen]; exact List.idxOf_lt_length_of_mem h2)]
        exact h3
    have hne : ∀ i ∈ zns M, i ≠ k := fun i hi e => hm (e ▸ hi)
    have e2 : zsv (zup ad k q) b [(k + 10, (k : Int))] = [Value.ref q] := by
      rw [zsv_ref (by omega), Int.toNat_natCast, zup_k]
      rfl
    show W p l en R s m args below meth c H1 locs (cells + 1) (slots + N) Q (F0 m (pc + 2) ls [Value.ref q])
    rw [← e2]
    refine kn.2 p l en R s m args below meth c (cells + 1) (slots + N) Q D cs (zup ad k q) A b H1 locs ls ⟨K.1, K.2.1, K.2.2.1, K.2.2.2.1, K.2.2.2.2.1, K.2.2.2.2.2.1, ?_, ?_, K.2.2.2.2.2.2.2.2.1, K.2.2.2.2.2.2.2.2.2.1, K.2.2.2.2.2.2.2.2.2.2.1, K.2.2.2.2.2.2.2.2.2.2.2.1, ⟨List.nodup_cons.mpr ⟨hm, nK.1⟩, fun o h => List.mem_cons_of_mem _ (nK.2 o h)⟩, fun o h => List.mem_cons_of_mem _ (K.2.2.2.2.2.2.2.2.2.2.2.2.2 o h)⟩ ?_ ?_ hokf hP2 hS1 ?_
    · intro i j hi hj hij
      rcases List.mem_cons.mp hi with e1 | i2
      · rcases List.mem_cons.mp hj with e2 | j2
        · exact e1.trans e2.symm
        · rw [e1, zup_k, zup_o (hne j j2)] at hij
          exact absurd hij.symm (hq j j2)
      · rcases List.mem_cons.mp hj with e2 | j2
        · rw [e2, zup_k, zup_o (hne i i2)] at hij
          exact absurd hij (hq i i2)
        · rw [zup_o (hne i i2), zup_o (hne j j2)] at hij
          exact K.2.2.2.2.2.2.1 i j i2 j2 hij
    · intro i hi
      rcases List.mem_cons.mp hi with rfl | hi
      · rw [zup_k]
        exact hD1.2 _ _ hlast
      · rw [zup_o (hne i hi)]
        exact K.2.2.2.2.2.2.2.1 i hi
    · show ((cells + 1 : Nat) : Int) + (zcp M - zct (zfresh σ k)) ≤ R.cells ∧ ((slots + N : Nat) : Int) + 16 * (zcp M - zct (zfresh σ k)) ≤ R.slots
      omega
    · intro v τ H2 locs2 ls2 pc2 cells2 slots2 h1 h2 h3 h4 h5 h6
      refine hr v τ H2 locs2 ls2 pc2 cells2 slots2 h1 h2 h3 h4 h5 ?_
      have e0 : zW cs (zup ad k q) τ (zn0 M) = zW cs ad τ (zn0 M) := zW_up hk hm0 (fun o h j => rfl)
      rw [← e0]
      exact h6
    · have e1 : zLs (zup ad k q) b Γ e = zLs ad b Γ e := zLs_up hk hE hΓ
      show lv_has ls (znl M) (zLs (zup ad k q) b Γ e)
      rw [e1]
      exact hl
  have hK := K.2.2.2.2.2.1
  rcases hty with ⟨rfl, hz⟩ | ⟨rfl, hz⟩
  · refine va_newa (atype := .int) (ty := .int) (a0 := (N, .inl (fun _ => (0 : Int32)))) K.1 K.2.1 (K.2.2.2.2.1 _ harr) rfl hK hP (zD σ nK.1 K.2.2.2.2.2.2.1 K.2.2.2.2.2.2.2.1) hS K.2.2.2.2.2.2.2.2.1 (fun _ => rfl) hn0 hcl (Nat.le_trans (Nat.mul_le_mul_right _ hN16) (by decide)) (by omega) (by omega) hd (fun q cA H1 hK1 hP1 hD1 hS1 => ?_)
    have e1 : cA = cs.1 := by
      have h1 : s.vm.findClass ("[" ++ (.int : FieldType).toString) = some cA := (hK1.2 3 (cA, .int) rfl).2
      have h2 : s.vm.findClass ("[" ++ (.int : FieldType).toString) = some cs.1 := (hK.2 0 (cs.1, .int) rfl).2
      exact Option.some.inj (h1.symm.trans h2)
    subst e1
    exact go q H1 _ (by rw [zrow_i hz, hN]) hP1 hD1 hS1
  · refine va_newa (atype := .long) (ty := .long) (a0 := (N, .inr (.inl (fun _ => (0 : Int64))))) K.1 K.2.1 (K.2.2.2.2.1 _ harr) rfl hK hP (zD σ nK.1 K.2.2.2.2.2.2.1 K.2.2.2.2.2.2.2.1) hS K.2.2.2.2.2.2.2.2.1 (fun _ => rfl) hn0 hcl (Nat.le_trans (Nat.mul_le_mul_right _ hN16) (by decide)) (by omega) (by omega) hd (fun q cA H1 hK1 hP1 hD1 hS1 => ?_)
    have e1 : cA = cs.2.1 := by
      have h1 : s.vm.findClass ("[" ++ (.long : FieldType).toString) = some cA := (hK1.2 3 (cA, .long) rfl).2
      have h2 : s.vm.findClass ("[" ++ (.long : FieldType).toString) = some cs.2.1 := (hK.2 1 (cs.2.1, .long) rfl).2
      exact Option.some.inj (h1.symm.trans h2)
    subst e1
    exact go q H1 _ (by rw [zrow_l hz, hN]) hP1 hD1 hS1
/-- the row is forgotten -/
theorem zr_drop {e : List Int} {st : List (Nat × Int)} {σ : zHp} {pc : Nat} (hk : 37 ≤ k) (hm0 : k ∉ zn0 M) (kn : zRn M pc Γ e st σ) : zRn (zMn M k) pc Γ e st σ := by
  refine ⟨kn.1, ?_⟩
  intro p l en R s m args below meth c cells slots Q D cs ad A b H locs ls K hcc hr hok hP hS hl
  have nK : zNs (k :: zns M) := K.2.2.2.2.2.2.2.2.2.2.2.2.1
  have nn := List.nodup_cons.mp nK.1
  have h0 : ∀ o ∈ zn0 M, o ∈ zns M := fun o h => by
    rcases List.mem_cons.mp (K.2.2.2.2.2.2.2.2.2.2.2.2.2 o h) with e | h2
    · exact absurd h (e ▸ hm0)
    · exact h2
  exact kn.2 p l en R s m args below meth c cells slots Q D cs ad A b H locs ls ⟨K.1, K.2.1, K.2.2.1, K.2.2.2.1, K.2.2.2.2.1, K.2.2.2.2.2.1, fun i j hi hj h => K.2.2.2.2.2.2.1 i j (List.mem_cons_of_mem _ hi) (List.mem_cons_of_mem _ hj) h, fun i hi => K.2.2.2.2.2.2.2.1 i (List.mem_cons_of_mem _ hi), K.2.2.2.2.2.2.2.2.1, K.2.2.2.2.2.2.2.2.2.1, K.2.2.2.2.2.2.2.2.2.2.1, K.2.2.2.2.2.2.2.2.2.2.2.1, ⟨nn.2, fun o h => (List.mem_cons.mp (nK.2 o h)).resolve_left (by omega)⟩, h0⟩ hcc hr hok (zW_sub (fun o h => List.mem_cons_of_mem _ h) hP) hS hl
theorem zE_Mn {e : List Int} (h : zE (zMn M k) Γ e) : zE M Γ e := h
theorem zr_st {e : List Int} {σ : zHp} {t : Nat} {v : Int} (h5 : 5 ≤ t) (hn : slot < znl M) (he : e.length = znl M)
    (hst : (∃ j : Fin 4, decode (zcc M) a = .ok (.astore_n j, 1) ∧ (j : Nat) = slot ∧ b = a + 1) ∨ decode (zcc M) a = .ok (.astore slot, 2) ∧ b = a + 2) (kn : zRn M b (zset1 slot t Γ) (e.set slot v) [] σ) : zRn M a Γ e [(t, v)] σ := by
  rcases hst with ⟨j, h1, h2, rfl⟩ | ⟨h1, rfl⟩
  · exact zr_astore_n h1 h2 h5 hn he kn
  · exact zr_astore h1 h5 hn he kn
/-- a block that begins with a row of its own -/
theorem zs_new {at0 : ArrayType} {c0 : Int} (hx : zEx M Γ 0 0 a a1 (xC c0)) (hc0 : c0 = (N : Int)) (hk : 37 ≤ k) (hk2 : k < 43) (hN : zon k = N) (hN16 : N ≤ 16) (hty : at0 = .int ∧ zoc k = 100 ∨ at0 = .long ∧ zoc k = 101) (harr : Cond.arrayClass (newarray.typeOf at0) ∈ zTs M)
    (hm : k ∉ zns M) (hm0 : k ∉ zn0 M) (hΓ : ∀ z ∈ Γ, z.2 ≠ k + 10 ∧ z.2 ≠ 2) (hd1 : decode (zcc M) a1 = .ok (.newarray at0, 2)) (hn : slot < znl M)
    (hst : (∃ j : Fin 4, decode (zcc M) (a1 + 2) = .ok (.astore_n j, 1) ∧ (j : Nat) = slot ∧ a3 = a1 + 2 + 1) ∨ decode (zcc M) (a1 + 2) = .ok (.astore slot, 2) ∧ a3 = a1 + 2 + 2)
    (h1 : ∀ q ∈ Γ1, q ∈ zset1 slot (k + 10) Γ) (hf : zSt (zMn M k) Γ1 a3 b Γ3 X f) (h2 : ∀ q ∈ Γ2, q ∈ Γ3) : zSt M Γ a b Γ2 X (sNw k slot f) := by
  subst hc0
  intro e σ t0 u τ ho hE h
  unfold sNw at h
  by_cases hc : zct σ < zcap
  case neg => rw [if_neg hc] at h; cases h
  rw [if_pos hc] at h
  have hkr : zoc k = 100 ∨ zoc k = 101 := hty.elim (fun q => Or.inl q.2) (fun q => Or.inr q.2)
  have hE1 : zE (zMn M k) Γ1 (e.set slot (k : Int)) := zE_sub (M := zMn M k) h1 (zE_set1 (M := zMn M k) (Γ := Γ) hE hn (inR_of hk2))
  have go : zRn (zMn M k) a3 Γ1 (e.set slot (k : Int)) [] (zfresh σ k) → zRn M a Γ e [] σ := fun kn => by
    refine (hx e σ (N : Int) σ [] ho hE rfl (Nat.le_refl 0)).2 ?_
    refine zr_new hk hN hN16 hm hm0 hE hΓ ho hc hty harr hd1 ?_
    exact zr_st (M := zMn M k) (by omega) hn hE.1 hst (zRn_sub h1 kn)
  obtain ⟨q1, q2, q3, q4⟩ := hf _ _ _ _ _ (zOk_fresh hkr ho hc) hE1 h
  refine ⟨q1, fun z => ⟨zE_sub h2 (q2 z).1, fun kn => go ((q2 z).2 (zRn_sub (M := zMn M k) h2 (zr_drop hk hm0 kn)))⟩, fun z => ⟨(q3 z).1, fun kn => go ((q3 z).2 kn)⟩, fun z => ⟨(q4 z).1, fun kn => go ((q4 z).2 (zr_drop hk hm0 kn))⟩⟩
end ZNEW
end
section
theorem znm_c {k j : Nat} {l : List Nat} (h : k ≠ j) (h2 : k ∉ l) : k ∉ j :: l := fun q => (List.mem_cons.mp q).elim h h2
/-! 'if (o.put(0, at++, E) != 1) return ..' -/
section ZAT
variable {M : zM} {Γ : List (Nat × Nat)} {X : Nat → Nat × List (Nat × Nat)} {a c tgt i index maxL fr lo N : Nat} {off : Int} {cc2 : ByteArray} {ret : Option FieldType} {ws ws2 : List Cond} {y : MethodName} {mm : List Int → zHp → Option (Int × zHp)} {E : zX} {f : zS} {C : String} {T : u_T}
theorem zs_at (hd0 : decode (zcc M) a = .ok (.aload_n 0, 1)) (hd1 : decode (zcc M) (a + 1) = .ok (.iconst 0, 1)) (hd2 : decode (zcc M) (a + 2) = .ok (.iload i, 2)) (hd3 : decode (zcc M) (a + 4) = .ok (.iinc i 1, 3)) (hE : zEx M Γ 3 0 (a + 7) c E)
    (hc : zCon y ws [] [] none fr lo [10, 0, 0, 0] 0 mm) (hu : zFor M [] [] none) (hcl : vwCl[zcl 10]? = some (C, T, N)) (hws : ws = Cond.code y cc2 maxL ret :: ws2) (hG : GoodIn (zTs M) (wsV (zown M) index C y ws))
    (hy : y.cls = C ∧ y.cls ≠ "java/lang/invoke/MethodHandle" ∧ y.cls ≠ "java/lang/invoke/VarHandle" ∧ (parseMethodDescriptor y.desc).map (fun d => d.parameters.length) = some 3) (hR : fr + 1 ≤ zfr M ∧ 8 + (maxL + 11) + lo ≤ zlo M) (hd4 : decode (zcc M) c = .ok (.invokevirtual index, 3))
    (hd5 : decode (zcc M) (c + 3) = .ok (.iconst 1, 1)) (hd6 : decode (zcc M) (c + 3 + 1) = .ok (.if_icmp .eq off, 3)) (ht : ((c + 3 + 1 : Nat) : Int) + off = (tgt : Int))
    (hm0 : (0, 10) ∈ Γ) (hmi : (i, 0) ∈ Γ) (hn : i < znl M) (hs : ∀ q ∈ Γ, q ∈ zset1 i 0 Γ) (hf : zSt M Γ (c + 3 + 1 + 3) tgt Γ X f) :
    zSt M Γ a tgt Γ X (sQ (sS i (xB o_iadd (xL i) (xC 1))) (sI (cR r_ne (xK mm (aC (xC 0) (aC (xC 0) (aC (xB o_isub (xL i) (xC 1)) (aC E aN))))) (xC 1)) f sK)) := by
  intro e σ t u τ ho hE0 h
  have rv : r32 (zg e i) := hE0.2 (i, 0) hmi
  have hE1 : zE M Γ (e.set i (w32 (zg e i + 1))) := zE_sub hs (zE_set1 hE0 hn (w32_r _))
  have h0 : zg e 0 = 0 := (inR_o (o := 0) (hE0.2 (0, 10) hm0)).1
  have hlen : i < e.length := by rw [hE0.1]; exact hn
  have hv : o_isub (zg (e.set i (w32 (zg e i + 1))) i) 1 = zg e i := by
    rw [zg_set_self hlen]
    have h1 := rv.1
    have h2 := rv.2
    unfold o_isub w32
    omega
  have go0 : zRn M (a + 7) Γ (e.set i (w32 (zg e i + 1))) [(0, zg e i), (0, 0), (10, 0)] σ → zRn M a Γ e [] σ := fun kn => by
    refine zr_aload_n hd0 rfl (by decide) hm0 ?_
    show zRn M (a + 1) Γ e [(10, zg e 0)] σ
    rw [h0]
    refine zr_iconst hd1 rfl ?_
    refine zr_iload hd2 hmi ?_
    exact zr_iinc hd3 hmi hn hE0.1 (zRn_sub hs kn)
  have h : sI (cR r_ne (xK mm (aC (xC 0) (aC (xC 0) (aC (xB o_isub (xL i) (xC 1)) (aC E aN))))) (xC 1)) f sK (e.set i (w32 (zg e i + 1))) σ = some (t, u, τ) := h
  generalize he1 : e.set i (w32 (zg e i + 1)) = e1 at h hE1 hv go0
  obtain ⟨⟨bb, σ2⟩, h1, h2⟩ := Option.bind_eq_some_iff.mp h
  obtain ⟨⟨r, σ3⟩, h3, h4⟩ := Option.bind_eq_some_iff.mp h1
  have h4 : some (r_ne r 1, σ3) = some (bb, σ2) := h4
  obtain ⟨rfl, rfl⟩ : r_ne r 1 = bb ∧ σ3 = σ2 := by
    have := Option.some.inj h4
    exact ⟨congrArg Prod.fst this, congrArg Prod.snd this⟩
  obtain ⟨⟨xs, σ4⟩, h5, h6⟩ := Option.bind_eq_some_iff.mp h3
  have h6 : mm xs σ4 = some (r, σ3) := h6
  obtain ⟨⟨ev, σ5⟩, hEv, hxs⟩ : ∃ q : Int × zHp, E e1 σ = some q ∧ some (([0, 0, zg e i, q.1] : List Int), q.2) = some (xs, σ4) := by
    cases hq : E e1 σ with
    | none =>
      exfalso
      simp [aC, aN, xC, xB, xL, hq] at h5
    | some q =>
      refine ⟨q, rfl, ?_⟩
      simp [aC, aN, xC, xB, xL, hq, hv] at h5
      rw [h5.1, h5.2]
  obtain ⟨rfl, rfl⟩ : ([0, 0, zg e i, ev] : List Int) = xs ∧ σ5 = σ4 := by
    have := Option.some.inj hxs
    exact ⟨congrArg Prod.fst this, congrArg Prod.snd this⟩
  obtain ⟨⟨rE, oE⟩, kE⟩ := hE e1 σ ev σ5 [(0, zg e i), (0, 0), (10, 0)] ho hE1 hEv (Nat.le_refl 3)
  have hxa : zOkA [10, 0, 0, 0] [0, 0, zg e i, ev] := ⟨⟨rfl, by decide, by decide⟩, z32_00, rv, rE, trivial⟩
  obtain ⟨hrr, ho3, -⟩ := hc.1 _ σ5 r σ3 oE hxa h6
  have rr : r32 r := hrr.resolve_left (by decide)
  have r1 : r32 1 := ⟨by decide, by decide⟩
  have go : (¬ r = 1 → zRn M (c + 3 + 1 + 3) Γ e1 [] σ3) → (r = 1 → zRn M tgt Γ e1 [] σ3) → zRn M a Γ e [] σ := fun k1 k2 => by
    refine go0 (kE ?_)
    refine zr_callV (st := []) hc hu (Or.inl rfl) oE (by decide) (by decide) hxa hcl h6 hws hG rfl hy hR (by decide) hd4 ?_
    show zRn M (c + 3) Γ e1 [(0, r)] σ3
    refine zr_iconst hd5 rfl ?_
    exact zr_icmp_eq rr r1 hd6 ht k2 k1
  by_cases hr : r = 1
  · have hb : r_ne r 1 = false := by unfold r_ne; rw [hr]; rfl
    have h2 : (if r_ne r 1 = true then f e1 σ3 else sK e1 σ3) = some (t, u, τ) := h2
    rw [hb] at h2
    have h2 : some (0, e1, σ3) = some (t, u, τ) := h2
    cases h2
    exact ⟨ho3, fun _ => ⟨hE1, fun k => go (fun q => absurd hr q) (fun _ => k)⟩, fun z => (by cases z), fun z => by omega⟩
  · have hb : r_ne r 1 = true := by unfold r_ne; exact decide_eq_true hr
    have h2 : (if r_ne r 1 = true then f e1 σ3 else sK e1 σ3) = some (t, u, τ) := h2
    rw [if_pos hb] at h2
    obtain ⟨q1, q2, q3, q4⟩ := hf e1 σ3 t u τ ho3 hE1 h2
    exact ⟨q1, fun z => ⟨(q2 z).1, fun k => go (fun _ => (q2 z).2 k) (fun q => absurd q hr)⟩, fun z => ⟨(q3 z).1, fun k => go (fun _ => (q3 z).2 k) (fun q => absurd q hr)⟩, fun z => ⟨(q4 z).1, fun k => go (fun _ => (q4 z).2 k) (fun q => absurd q hr)⟩⟩
end ZAT
end
section
abbrev wz_J7_fill_53178 : List Cond := Cond.code yJ7_fill_53178 cJ7_fill_53178 4 none :: zG
def lc_J7_fill_53178_a_1 : zC := cR r_lt (xL 2) (xL 3)
def lf_J7_fill_53178_a_1 : zS := sE 5 10 (xL 2) (xL 1)
def ls_J7_fill_53178_a_1 : zS := sS 2 (xB o_iadd (xL 2) (xC 1))
def d_J7_fill_53178_a : zS := sQ (sD [2, 3] (sQ (sS 2 (xC 0)) (sQ (sS 3 (xU (fun _ => 10) (xC 5))) (sW lc_J7_fill_53178_a_1 lf_J7_fill_53178_a_1 ls_J7_fill_53178_a_1)))) sV
def m_J7_fill_53178_a : List Int → zHp → Option (Int × zHp) := zRun 4 [15, 0] d_J7_fill_53178_a
set_option maxRecDepth 100000 in
set_option maxHeartbeats 4000000 in
theorem s_J7_fill_53178_a (ns : List Nat) (cp : Int) (P : Int → zHp → Prop) : zSt (RJ7, cJ7_fill_53178, 4, wz_J7_fill_53178, 1, 25, none, 9, ns, ns, cp, P) [(0, 15), (1, 0)] 0 0 [] zX0 (d_J7_fill_53178_a) := zs_seq (zs_blk (Γ2 := [(0, 15), (1, 0)]) (Γ3 := [(0, 15), (1, 0), (2, 0), (3, 0)]) (ks := [2, 3]) (zs_seq (zs_istore_n (Γ2 := [(0, 15), (1, 0), (2, 0)]) (zx_iconst dJ7_fill_53178_0 rfl ⟨by decide, by decide⟩) dJ7_fill_53178_1 rfl (Nat.le_of_ble_eq_true rfl) (by decide)) (zs_seq (zs_istore_n (Γ2 := [(0, 15), (1, 0), (2, 0), (3, 0)]) (zx_len (zx_this (o := 5) dJ7_fill_53178_2 rfl rfl (by decide) (by decide)) (by decide) (zp_a (by decide)) rfl rfl dJ7_fill_53178_3) dJ7_fill_53178_4 rfl (Nat.le_of_ble_eq_true rfl) (by decide)) (zs_loop (Γ := [(0, 15), (1, 0), (2, 0), (3, 0)]) (zc_icmpN_lt (zx_iload_n dJ7_fill_53178_5 rfl (by decide)) (zx_iload_n dJ7_fill_53178_6 rfl (by decide)) dJ7_fill_53178_7 (by decide)) (zs_iastS (o := 5) (zx_this (o := 5) dJ7_fill_53178_10 rfl rfl (by decide) (by decide)) (zx_iload_n dJ7_fill_53178_11 rfl (by decide)) (zx_iload_n dJ7_fill_53178_12 rfl (by decide)) (zp_a (by decide)) rfl rfl dJ7_fill_53178_13) (zs_goto (zs_iinc (Γ2 := [(0, 15), (1, 0), (2, 0), (3, 0)]) dJ7_fill_53178_14 (by decide) (Nat.le_of_ble_eq_true rfl) (by decide)) dJ7_fill_53178_17 (by decide))))) (by decide) (by decide) zX0_ok) (zs_retv rfl dJ7_fill_53178_20)
theorem k_J7_fill_53178_a : zCon yJ7_fill_53178 wz_J7_fill_53178 [] [] (none) 1 25 [15, 0] 9 (m_J7_fill_53178_a) := zMk (own := RJ7) (cc := cJ7_fill_53178) (b := 0) (Γ2 := []) (X := zX0) (by decide +kernel) rfl rfl (by decide) (Or.inr (Or.inr (Or.inr ⟨rfl, rfl⟩))) zex_0 (fun P cp ns hh => s_J7_fill_53178_a ns cp P)
theorem e_J7_fill_53178_a (x0 x1 : Int) (σ : zHp) : m_J7_fill_53178_a [x0, x1] σ = (d_J7_fill_53178_a [x0, x1, 0, 0] σ).bind fun q => if q.1 = 1 then some (zg q.2.1 0, q.2.2) else none := rfl
abbrev wz_J6_bitCount_0f7a4 : List Cond := Cond.code yJ6_bitCount_0f7a4 cJ6_bitCount_0f7a4 1 (some .int) :: zG
def d_J6_bitCount_0f7a4 : zS := sQ (sS 0 (xB o_isub (xL 0) (xB zAnd (xB zUshr (xL 0) (xC 1)) (xC 1431655765)))) (sQ (sS 0 (xB o_iadd (xB zAnd (xL 0) (xC 858993459)) (xB zAnd (xB zUshr (xL 0) (xC 2)) (xC 858993459)))) (sQ (sS 0 (xB zAnd (xB o_iadd (xL 0) (xB zUshr (xL 0) (xC 4))) (xC 252645135))) (sQ (sS 0 (xB o_iadd (xL 0) (xB zUshr (xL 0) (xC 8)))) (sQ (sS 0 (xB o_iadd (xL 0) (xB zUshr (xL 0) (xC 16)))) (sR (xB zAnd (xL 0) (xC 63)))))))
def m_J6_bitCount_0f7a4 : List Int → zHp → Option (Int × zHp) := zRun 1 [0] d_J6_bitCount_0f7a4
set_option maxRecDepth 100000 in
set_option maxHeartbeats 4000000 in
theorem s_J6_bitCount_0f7a4 (ns : List Nat) (cp : Int) (P : Int → zHp → Prop) : zSt (RJ6, cJ6_bitCount_0f7a4, 1, wz_J6_bitCount_0f7a4, 1, 25, none, 0, ns, ns, cp, P) [(0, 0)] 0 0 [] zX0 (d_J6_bitCount_0f7a4) := zs_seq (zs_istore_n (Γ2 := [(0, 0)]) (zx_isub (zx_iload_n dJ6_bitCount_0f7a4_0 rfl (by decide)) (zx_iand (zx_iushr (zx_iload_n dJ6_bitCount_0f7a4_1 rfl (by decide)) (zx_iconst dJ6_bitCount_0f7a4_2 rfl ⟨by decide, by decide⟩) dJ6_bitCount_0f7a4_3) (zx_ldcw dJ6_bitCount_0f7a4_4 (List.mem_cons_of_mem _ zw_392) rfl ⟨by decide, by decide⟩) dJ6_bitCount_0f7a4_7) dJ6_bitCount_0f7a4_8) dJ6_bitCount_0f7a4_9 rfl (Nat.le_of_ble_eq_true rfl) (by decide)) (zs_seq (zs_istore_n (Γ2 := [(0, 0)]) (zx_iadd (zx_iand (zx_iload_n dJ6_bitCount_0f7a4_10 rfl (by decide)) (zx_ldcw dJ6_bitCount_0f7a4_11 (List.mem_cons_of_mem _ zw_393) rfl ⟨by decide, by decide⟩) dJ6_bitCount_0f7a4_14) (zx_iand (zx_iushr (zx_iload_n dJ6_bitCount_0f7a4_15 rfl (by decide)) (zx_iconst dJ6_bitCount_0f7a4_16 rfl ⟨by decide, by decide⟩) dJ6_bitCount_0f7a4_17) (zx_ldcw dJ6_bitCount_0f7a4_18 (List.mem_cons_of_mem _ zw_393) rfl ⟨by decide, by decide⟩) dJ6_bitCount_0f7a4_21) dJ6_bitCount_0f7a4_22) dJ6_bitCount_0f7a4_23 rfl (Nat.le_of_ble_eq_true rfl) (by decide)) (zs_seq (zs_istore_n (Γ2 := [(0, 0)]) (zx_iand (zx_iadd (zx_iload_n dJ6_bitCount_0f7a4_24 rfl (by decide)) (zx_iushr (zx_iload_n dJ6_bitCount_0f7a4_25 rfl (by decide)) (zx_iconst dJ6_bitCount_0f7a4_26 rfl ⟨by decide, by decide⟩) dJ6_bitCount_0f7a4_27) dJ6_bitCount_0f7a4_28) (zx_ldcw dJ6_bitCount_0f7a4_29 (List.mem_cons_of_mem _ zw_394) rfl ⟨by decide, by decide⟩) dJ6_bitCount_0f7a4_32) dJ6_bitCount_0f7a4_33 rfl (Nat.le_of_ble_eq_true rfl) (by decide)) (zs_seq (zs_istore_n (Γ2 := [(0, 0)]) (zx_iadd (zx_iload_n dJ6_bitCount_0f7a4_34 rfl (by decide)) (zx_iushr (zx_iload_n dJ6_bitCount_0f7a4_35 rfl (by decide)) (zx_bipush dJ6_bitCount_0f7a4_36 rfl ⟨by decide, by decide⟩) dJ6_bitCount_0f7a4_38) dJ6_bitCount_0f7a4_39) dJ6_bitCount_0f7a4_40 rfl (Nat.le_of_ble_eq_true rfl) (by decide)) (zs_seq (zs_istore_n (Γ2 := [(0, 0)]) (zx_iadd (zx_iload_n dJ6_bitCount_0f7a4_41 rfl (by decide)) (zx_iushr (zx_iload_n dJ6_bitCount_0f7a4_42 rfl (by decide)) (zx_bipush dJ6_bitCount_0f7a4_43 rfl ⟨by decide, by decide⟩) dJ6_bitCount_0f7a4_45) dJ6_bitCount_0f7a4_46) dJ6_bitCount_0f7a4_47 rfl (Nat.le_of_ble_eq_true rfl) (by decide)) (zs_ret (zx_iand (zx_iload_n dJ6_bitCount_0f7a4_48 rfl (by decide)) (zx_bipush dJ6_bitCount_0f7a4_49 rfl ⟨by decide, by decide⟩) dJ6_bitCount_0f7a4_51) rfl (by decide) dJ6_bitCount_0f7a4_52)))))
theorem k_J6_bitCount_0f7a4 : zCon yJ6_bitCount_0f7a4 wz_J6_bitCount_0f7a4 [] [] (none) 1 25 [0] 0 (m_J6_bitCount_0f7a4) := zMk (own := RJ6) (cc := cJ6_bitCount_0f7a4) (b := 0) (Γ2 := []) (X := zX0) (by decide +kernel) rfl rfl (by decide) (Or.inl ⟨rfl, rfl⟩) zex_0 (fun P cp ns hh => s_J6_bitCount_0f7a4 ns cp P)
theorem e_J6_bitCount_0f7a4 (x0 : Int) (σ : zHp) : m_J6_bitCount_0f7a4 [x0] σ = (d_J6_bitCount_0f7a4 [x0] σ).bind fun q => if q.1 = 1 then some (zg q.2.1 0, q.2.2) else none := rfl
def lc_J7_fill_53178_b_1 : zC := cR r_lt (xL 2) (xL 3)
def lf_J7_fill_53178_b_1 : zS := sA (xL 0) 60 (xL 2) (xL 1)
def ls_J7_fill_53178_b_1 : zS := sS 2 (xB o_iadd (xL 2) (xC 1))
def d_J7_fill_53178_b : zS := sQ (sD [2, 3] (sQ (sS 2 (xC 0)) (sQ (sS 3 (xU (fun _ => 60) (xL 0))) (sW lc_J7_fill_53178_b_1 lf_J7_fill_53178_b_1 ls_J7_fill_53178_b_1)))) sV
def m_J7_fill_53178_b : List Int → zHp → Option (Int × zHp) := zRun 4 [6, 0] d_J7_fill_53178_b
set_option maxRecDepth 100000 in
set_option maxHeartbeats 4000000 in
theorem s_J7_fill_53178_b (ns : List Nat) (cp : Int) (P : Int → zHp → Prop) : zSt (RJ7, cJ7_fill_53178, 4, wz_J7_fill_53178, 1, 25, none, 9, ns, ns, cp, P) [(0, 6), (1, 0)] 0 0 [] zX0 (d_J7_fill_53178_b) := zs_seq (zs_blk (Γ2 := [(0, 6), (1, 0)]) (Γ3 := [(0, 6), (1, 0), (2, 0), (3, 0)]) (ks := [2, 3]) (zs_seq (zs_istore_n (Γ2 := [(0, 6), (1, 0), (2, 0)]) (zx_iconst dJ7_fill_53178_0 rfl ⟨by decide, by decide⟩) dJ7_fill_53178_1 rfl (Nat.le_of_ble_eq_true rfl) (by decide)) (zs_seq (zs_istore_n (Γ2 := [(0, 6), (1, 0), (2, 0), (3, 0)]) (zx_len (zx_aload_n (t := 6) dJ7_fill_53178_2 rfl (by decide) (by decide)) (by decide) (zp_a (by decide)) rfl rfl dJ7_fill_53178_3) dJ7_fill_53178_4 rfl (Nat.le_of_ble_eq_true rfl) (by decide)) (zs_loop (Γ := [(0, 6), (1, 0), (2, 0), (3, 0)]) (zc_icmpN_lt (zx_iload_n dJ7_fill_53178_5 rfl (by decide)) (zx_iload_n dJ7_fill_53178_6 rfl (by decide)) dJ7_fill_53178_7 (by decide)) (zs_iast (zx_aload_n (t := 6) dJ7_fill_53178_10 rfl (by decide) (by decide)) (zx_iload_n dJ7_fill_53178_11 rfl (by decide)) (zx_iload_n dJ7_fill_53178_12 rfl (by decide)) (by decide) (zp_a (by decide)) rfl rfl dJ7_fill_53178_13) (zs_goto (zs_iinc (Γ2 := [(0, 6), (1, 0), (2, 0), (3, 0)]) dJ7_fill_53178_14 (by decide) (Nat.le_of_ble_eq_true rfl) (by decide)) dJ7_fill_53178_17 (by decide))))) (by decide) (by decide) zX0_ok) (zs_retv rfl dJ7_fill_53178_20)
theorem k_J7_fill_53178_b : zCon yJ7_fill_53178 wz_J7_fill_53178 [] [] (none) 1 25 [6, 0] 9 (m_J7_fill_53178_b) := zMk (own := RJ7) (cc := cJ7_fill_53178) (b := 0) (Γ2 := []) (X := zX0) (by decide +kernel) rfl rfl (by decide) (Or.inr (Or.inr (Or.inr ⟨rfl, rfl⟩))) zex_0 (fun P cp ns hh => s_J7_fill_53178_b ns cp P)
theorem e_J7_fill_53178_b (x0 x1 : Int) (σ : zHp) : m_J7_fill_53178_b [x0, x1] σ = (d_J7_fill_53178_b [x0, x1, 0, 0] σ).bind fun q => if q.1 = 1 then some (zg q.2.1 0, q.2.2) else none := rfl
end
section
theorem hyS_J7_fill_53178 : yJ7_fill_53178.cls ≠ "java/lang/invoke/MethodHandle" ∧ yJ7_fill_53178.cls ≠ "java/lang/invoke/VarHandle" ∧ (parseMethodDescriptor yJ7_fill_53178.desc).map (fun d => d.parameters.length) = some 2 := by decide +kernel
theorem hyV_X6_faultOfSort : yX6_faultOfSort.cls = RX6 ∧ yX6_faultOfSort.cls ≠ "java/lang/invoke/MethodHandle" ∧ yX6_faultOfSort.cls ≠ "java/lang/invoke/VarHandle" ∧ (parseMethodDescriptor yX6_faultOfSort.desc).map (fun d => d.parameters.length) = some 1 := by decide +kernel
theorem hyV_X6_hasNumbers : yX6_hasNumbers.cls = RX6 ∧ yX6_hasNumbers.cls ≠ "java/lang/invoke/MethodHandle" ∧ yX6_hasNumbers.cls ≠ "java/lang/invoke/VarHandle" ∧ (parseMethodDescriptor yX6_hasNumbers.desc).map (fun d => d.parameters.length) = some 2 := by decide +kernel
abbrev wz_X6_faultOfSort : List Cond := Cond.code yX6_faultOfSort cX6_faultOfSort 2 (some .int) :: zG
def d_X6_faultOfSort : zS := sQ (sI (cN (cV rb (xF (xL 0) 1))) (sR (xC 1)) sK) (sR (xI (cR r_eq (xF (xL 0) 2) (xL 1)) (xC 0) (xC 2)))
def m_X6_faultOfSort : List Int → zHp → Option (Int × zHp) := zRun 2 [5, 0] d_X6_faultOfSort
set_option maxRecDepth 100000 in
set_option maxHeartbeats 4000000 in
theorem s_X6_faultOfSort (ns : List Nat) (cp : Int) (P : Int → zHp → Prop) : zSt (RX6, cX6_faultOfSort, 2, wz_X6_faultOfSort, 1, 25, none, 0, ns, ns, cp, P) [(0, 5), (1, 0)] 0 0 [] zX0 (d_X6_faultOfSort) := zs_seq (zs_if (zc_not (zc_b (zx_sub (zx_fld (k := 1) (zx_aload_n (t := 5) dX6_faultOfSort_0 rfl (by decide) (by decide)) (by decide) (by decide) rfl rfl (by decide) inC_X6 (List.mem_cons_of_mem _ zw_226) rfl (by decide) rfl dX6_faultOfSort_1)) dX6_faultOfSort_4 (by decide))) (zs_ret (zx_iconst dX6_faultOfSort_7 rfl ⟨by decide, by decide⟩) rfl (by decide) dX6_faultOfSort_8) zs_skip) (zs_ret (zx_ite (zc_icmpN_eq (zx_fld (k := 2) (zx_aload_n (t := 5) dX6_faultOfSort_9 rfl (by decide) (by decide)) (by decide) (by decide) rfl rfl (by decide) inC_X6 (List.mem_cons_of_mem _ zw_228) rfl (by decide) rfl dX6_faultOfSort_10) (zx_iload_n dX6_faultOfSort_13 rfl (by decide)) dX6_faultOfSort_14 (by decide)) (zx_iconst dX6_faultOfSort_17 rfl ⟨by decide, by decide⟩) dX6_faultOfSort_18 (by decide) (zx_iconst dX6_faultOfSort_21 rfl ⟨by decide, by decide⟩)) rfl (by decide) dX6_faultOfSort_22)
theorem k_X6_faultOfSort : zCon yX6_faultOfSort wz_X6_faultOfSort [] [] (none) 1 25 [5, 0] 0 (m_X6_faultOfSort) := zMk (own := RX6) (cc := cX6_faultOfSort) (b := 0) (Γ2 := []) (X := zX0) (by decide +kernel) rfl rfl (by decide) (Or.inl ⟨rfl, rfl⟩) zex_0 (fun P cp ns hh => s_X6_faultOfSort ns cp P)
theorem e_X6_faultOfSort (x0 x1 : Int) (σ : zHp) : m_X6_faultOfSort [x0, x1] σ = (d_X6_faultOfSort [x0, x1] σ).bind fun q => if q.1 = 1 then some (zg q.2.1 0, q.2.2) else none := rfl
abbrev wz_X6_hasNumbers : List Cond := Cond.code yX6_hasNumbers cX6_hasNumbers 3 (some .boolean) :: zG
def d_X6_hasNumbers : zS := sR (xZ (cA (cA (cA (cV (fun x => r_ge x 0) (xL 2)) (cV (fun x => r_ge x 0) (xL 1))) (cR r_le (xL 1) (xF (xL 0) 3))) (cR r_le (xL 2) (xB o_isub (xF (xL 0) 3) (xL 1)))))
def m_X6_hasNumbers : List Int → zHp → Option (Int × zHp) := zRun 3 [5, 0, 0] d_X6_hasNumbers
set_option maxRecDepth 100000 in
set_option maxHeartbeats 4000000 in
theorem s_X6_hasNumbers (ns : List Nat) (cp : Int) (P : Int → zHp → Prop) : zSt (RX6, cX6_hasNumbers, 3, wz_X6_hasNumbers, 1, 25, none, 4, ns, ns, cp, P) [(0, 5), (1, 0), (2, 0)] 0 0 [] zX0 (d_X6_hasNumbers) := zs_ret (zx_z (zc_and (zc_and (zc_and (zc_ifN_ge (zx_iload_n dX6_hasNumbers_0 rfl (by decide)) dX6_hasNumbers_1 (by decide)) (zc_ifN_ge (zx_iload_n dX6_hasNumbers_4 rfl (by decide)) dX6_hasNumbers_5 (by decide))) (zc_icmpN_le (zx_iload_n dX6_hasNumbers_8 rfl (by decide)) (zx_fld (k := 3) (zx_aload_n (t := 5) dX6_hasNumbers_9 rfl (by decide) (by decide)) (by decide) (by decide) rfl rfl (by decide) inC_X6 (List.mem_cons_of_mem _ zw_229) rfl (by decide) rfl dX6_hasNumbers_10) dX6_hasNumbers_13 (by decide))) (zc_icmpN_le (zx_iload_n dX6_hasNumbers_16 rfl (by decide)) (zx_isub (zx_fld (k := 3) (zx_aload_n (t := 5) dX6_hasNumbers_17 rfl (by decide) (by decide)) (by decide) (by decide) rfl rfl (by decide) inC_X6 (List.mem_cons_of_mem _ zw_229) rfl (by decide) rfl dX6_hasNumbers_18) (zx_iload_n dX6_hasNumbers_21 rfl (by decide)) dX6_hasNumbers_22) dX6_hasNumbers_23 (by decide))) dX6_hasNumbers_26 dX6_hasNumbers_27 (by decide) dX6_hasNumbers_30 rfl) rfl (by decide) dX6_hasNumbers_31
theorem k_X6_hasNumbers : zCon yX6_hasNumbers wz_X6_hasNumbers [] [] (none) 1 25 [5, 0, 0] 4 (m_X6_hasNumbers) := zMk (own := RX6) (cc := cX6_hasNumbers) (b := 0) (Γ2 := []) (X := zX0) (by decide +kernel) rfl rfl (by decide) (Or.inr (Or.inr (Or.inl ⟨rfl, rfl⟩))) zex_0 (fun P cp ns hh => s_X6_hasNumbers ns cp P)
theorem e_X6_hasNumbers (x0 x1 x2 : Int) (σ : zHp) : m_X6_hasNumbers [x0, x1, x2] σ = (d_X6_hasNumbers [x0, x1, x2] σ).bind fun q => if q.1 = 1 then some (zg q.2.1 0, q.2.2) else none := rfl
abbrev wz_X6_faultOfRow : List Cond := Cond.code yX6_faultOfRow cX6_faultOfRow 5 (some .int) :: zG
def d_X6_faultOfRow : zS := sQ (sS 4 (xK m_X6_faultOfSort (aC (xL 0) (aC (xL 1) (aN))))) (sQ (sI (cV (fun x => r_ne x 0) (xL 4)) (sR (xL 4)) sK) (sQ (sI (cV (fun x => r_lt x 0) (xL 3)) (sR (xC 4)) sK) (sR (xI (cV rb (xK m_X6_hasNumbers (aC (xL 0) (aC (xL 2) (aC (xL 3) (aN)))))) (xC 0) (xC 3)))))
def m_X6_faultOfRow : List Int → zHp → Option (Int × zHp) := zRun 5 [5, 0, 0, 0] d_X6_faultOfRow
set_option maxRecDepth 100000 in
set_option maxHeartbeats 4000000 in
theorem s_X6_faultOfRow (ns : List Nat) (cp : Int) (P : Int → zHp → Prop) : zSt (RX6, cX6_faultOfRow, 5, wz_X6_faultOfRow, 2, 47, none, 0, ns, ns, cp, P) [(0, 5), (1, 0), (2, 0), (3, 0)] 0 0 [] zX0 (d_X6_faultOfRow) := zs_seq (zs_istore (Γ2 := [(0, 5), (1, 0), (2, 0), (3, 0), (4, 0)]) (zx_callV (za_cons (zx_aload_n (t := 5) dX6_faultOfRow_0 rfl (by decide) (by decide)) rfl (za_cons (zx_iload_n dX6_faultOfRow_1 rfl (by decide)) rfl (za_nil))) k_X6_faultOfSort zf_0 (by decide) (by decide) (by decide) rfl rfl (zGV zw_283 zw_284 zw_285 zw_16 zw_286) rfl hyV_X6_faultOfSort ⟨Nat.le_of_ble_eq_true rfl, Nat.le_of_ble_eq_true rfl⟩ (by decide) dX6_faultOfRow_2) dX6_faultOfRow_5 (Nat.le_of_ble_eq_true rfl) (by decide)) (zs_seq (zs_if (zc_ifN_ne (zx_iload dX6_faultOfRow_7 (by decide)) dX6_faultOfRow_9 (by decide)) (zs_ret (zx_iload dX6_faultOfRow_12 (by decide)) rfl (by decide) dX6_faultOfRow_14) zs_skip) (zs_seq (zs_if (zc_ifN_lt (zx_iload_n dX6_faultOfRow_15 rfl (by decide)) dX6_faultOfRow_16 (by decide)) (zs_ret (zx_iconst dX6_faultOfRow_19 rfl ⟨by decide, by decide⟩) rfl (by decide) dX6_faultOfRow_20) zs_skip) (zs_ret (zx_ite (zc_bN (zx_sub (zx_callV (za_cons (zx_aload_n (t := 5) dX6_faultOfRow_21 rfl (by decide) (by decide)) rfl (za_cons (zx_iload_n dX6_faultOfRow_22 rfl (by decide)) rfl (za_cons (zx_iload_n dX6_faultOfRow_23 rfl (by decide)) rfl (za_nil)))) k_X6_hasNumbers zf_0 (by decide) (by decide) (by decide) rfl rfl (zGV zw_287 zw_288 zw_289 zw_16 zw_290) rfl hyV_X6_hasNumbers ⟨Nat.le_of_ble_eq_true rfl, Nat.le_of_ble_eq_true rfl⟩ (by decide) dX6_faultOfRow_24)) dX6_faultOfRow_27 (by decide)) (zx_iconst dX6_faultOfRow_30 rfl ⟨by decide, by decide⟩) dX6_faultOfRow_31 (by decide) (zx_iconst dX6_faultOfRow_34 rfl ⟨by decide, by decide⟩)) rfl (by decide) dX6_faultOfRow_35)))
theorem k_X6_faultOfRow : zCon yX6_faultOfRow wz_X6_faultOfRow [] [] (none) 2 47 [5, 0, 0, 0] 0 (m_X6_faultOfRow) := zMk (own := RX6) (cc := cX6_faultOfRow) (b := 0) (Γ2 := []) (X := zX0) (by decide +kernel) rfl rfl (by decide) (Or.inl ⟨rfl, rfl⟩) zex_0 (fun P cp ns hh => s_X6_faultOfRow ns cp P)
theorem e_X6_faultOfRow (x0 x1 x2 x3 : Int) (σ : zHp) : m_X6_faultOfRow [x0, x1, x2, x3] σ = (d_X6_faultOfRow [x0, x1, x2, x3, 0] σ).bind fun q => if q.1 = 1 then some (zg q.2.1 0, q.2.2) else none := rfl
abbrev wz_X1_add : List Cond := Cond.code yX1_add cX1_add 5 (some .int) :: zG
def d_X1_add : zS := sQ (sS 4 (xG 6 0)) (sQ (sE 7 6 (xL 4) (xL 1)) (sQ (sE 8 6 (xL 4) (xL 2)) (sQ (sE 9 6 (xL 4) (xL 3)) (sQ (sG 6 0 (xB o_iadd (xL 4) (xC 1))) (sR (xL 4))))))
def m_X1_add : List Int → zHp → Option (Int × zHp) := zRun 5 [16, 0, 0, 0] d_X1_add
set_option maxRecDepth 100000 in
set_option maxHeartbeats 4000000 in
theorem s_X1_add (ns : List Nat) (cp : Int) (P : Int → zHp → Prop) : zSt (RX1, cX1_add, 5, wz_X1_add, 1, 25, none, 0, ns, ns, cp, P) [(0, 16), (1, 0), (2, 0), (3, 0)] 0 0 [] zX0 (d_X1_add) := zs_seq (zs_istore (Γ2 := [(0, 16), (1, 0), (2, 0), (3, 0), (4, 0)]) (zx_fldS (o := 6) (k := 0) (zx_this (o := 6) dX1_add_0 rfl rfl (by decide) (by decide)) rfl rfl (by decide) inC_X1 (List.mem_cons_of_mem _ zw_70) rfl (by decide) rfl dX1_add_1) dX1_add_4 (Nat.le_of_ble_eq_true rfl) (by decide)) (zs_seq (zs_iastS (o := 7) (zx_path (o := 6) (o2 := 7) (k := 1) (zx_this (o := 6) dX1_add_6 rfl rfl (by decide) (by decide)) rfl (by decide) rfl rfl (by decide) inC_X1 (List.mem_cons_of_mem _ zw_73) rfl rfl rfl dX1_add_7) (zx_iload dX1_add_10 (by decide)) (zx_iload_n dX1_add_12 rfl (by decide)) (zp_a (by decide)) rfl rfl dX1_add_13) (zs_seq (zs_iastS (o := 8) (zx_path (o := 6) (o2 := 8) (k := 2) (zx_this (o := 6) dX1_add_14 rfl rfl (by decide) (by decide)) rfl (by decide) rfl rfl (by decide) inC_X1 (List.mem_cons_of_mem _ zw_76) rfl rfl rfl dX1_add_15) (zx_iload dX1_add_18 (by decide)) (zx_iload_n dX1_add_20 rfl (by decide)) (zp_a (by decide)) rfl rfl dX1_add_21) (zs_seq (zs_iastS (o := 9) (zx_path (o := 6) (o2 := 9) (k := 3) (zx_this (o := 6) dX1_add_22 rfl rfl (by decide) (by decide)) rfl (by decide) rfl rfl (by decide) inC_X1 (List.mem_cons_of_mem _ zw_79) rfl rfl rfl dX1_add_23) (zx_iload dX1_add_26 (by decide)) (zx_iload_n dX1_add_28 rfl (by decide)) (zp_a (by decide)) rfl rfl dX1_add_29) (zs_seq (zs_putS (o := 6) (k := 0) (zx_this (o := 6) dX1_add_30 rfl rfl (by decide) (by decide)) (zx_iadd (zx_iload dX1_add_31 (by decide)) (zx_iconst dX1_add_33 rfl ⟨by decide, by decide⟩) dX1_add_34) rfl rfl (by decide) inC_X1 (List.mem_cons_of_mem _ zw_70) tyX1_ok nmX1 rfl (tyX1_ok 0 (by decide)) rfl (by decide) rfl dX1_add_35) (zs_ret (zx_iload dX1_add_38 (by decide)) rfl (by decide) dX1_add_40)))))
theorem k_X1_add : zCon yX1_add wz_X1_add [] [] (none) 1 25 [16, 0, 0, 0] 0 (m_X1_add) := zMk (own := RX1) (cc := cX1_add) (b := 0) (Γ2 := []) (X := zX0) (by decide +kernel) rfl rfl (by decide) (Or.inl ⟨rfl, rfl⟩) zex_0 (fun P cp ns hh => s_X1_add ns cp P)
theorem e_X1_add (x0 x1 x2 x3 : Int) (σ : zHp) : m_X1_add [x0, x1, x2, x3] σ = (d_X1_add [x0, x1, x2, x3, 0] σ).bind fun q => if q.1 = 1 then some (zg q.2.1 0, q.2.2) else none := rfl
abbrev wz_X6_renew : List Cond := Cond.code yX6_renew cX6_renew 3 none :: zG
def d_X6_renew : zS := sQ (sQ (sF (xL 0) 1 (xC 1)) (sQ (sF (xL 0) 2 (xL 1)) (sQ (sF (xL 0) 3 (xL 2)) (sX (xK m_J7_fill_53178_b (aC (xU (fun x => x + 1) (xL 0)) (aC (xC 0) (aN)))))))) sV
def m_X6_renew : List Int → zHp → Option (Int × zHp) := zRun 3 [5, 0, 0] d_X6_renew
set_option maxRecDepth 100000 in
set_option maxHeartbeats 4000000 in
theorem s_X6_renew (ns : List Nat) (cp : Int) (P : Int → zHp → Prop) : zSt (RX6, cX6_renew, 3, wz_X6_renew, 2, 48, none, 9, ns, ns, cp, P) [(0, 5), (1, 0), (2, 0)] 0 0 [] zX0 (d_X6_renew) := zs_seq (zs_seq (zs_putf (k := 1) (zx_aload_n (t := 5) dX6_renew_0 rfl (by decide) (by decide)) (zx_bconst dX6_renew_1 rfl (Or.inr rfl)) (by decide) (by decide) rfl rfl (by decide) inC_X6 (List.mem_cons_of_mem _ zw_226) tyX6_ok nmX6 rfl (tyX6_ok 1 (by decide)) rfl (by decide) rfl dX6_renew_2) (zs_seq (zs_putf (k := 2) (zx_aload_n (t := 5) dX6_renew_5 rfl (by decide) (by decide)) (zx_iload_n dX6_renew_6 rfl (by decide)) (by decide) (by decide) rfl rfl (by decide) inC_X6 (List.mem_cons_of_mem _ zw_228) tyX6_ok nmX6 rfl (tyX6_ok 2 (by decide)) rfl (by decide) rfl dX6_renew_7) (zs_seq (zs_putf (k := 3) (zx_aload_n (t := 5) dX6_renew_10 rfl (by decide) (by decide)) (zx_iload_n dX6_renew_11 rfl (by decide)) (by decide) (by decide) rfl rfl (by decide) inC_X6 (List.mem_cons_of_mem _ zw_229) tyX6_ok nmX6 rfl (tyX6_ok 3 (by decide)) rfl (by decide) rfl dX6_renew_12) (zs_callS (za_cons (zx_num (zx_aload_n (t := 5) dX6_renew_15 rfl (by decide) (by decide)) inC_X6 (List.mem_cons_of_mem _ zw_224) dX6_renew_16) rfl (za_cons (zx_iconst dX6_renew_19 rfl ⟨by decide, by decide⟩) rfl (za_nil))) k_J7_fill_53178_b zf_0 rfl (zGS zw_428 zw_300 zw_17 zw_301) rfl hyS_J7_fill_53178 ⟨Nat.le_of_ble_eq_true rfl, Nat.le_of_ble_eq_true rfl⟩ dX6_renew_20)))) (zs_retv rfl dX6_renew_23)
theorem k_X6_renew : zCon yX6_renew wz_X6_renew [] [] (none) 2 48 [5, 0, 0] 9 (m_X6_renew) := zMk (own := RX6) (cc := cX6_renew) (b := 0) (Γ2 := []) (X := zX0) (by decide +kernel) rfl rfl (by decide) (Or.inr (Or.inr (Or.inr ⟨rfl, rfl⟩))) zex_0 (fun P cp ns hh => s_X6_renew ns cp P)
theorem e_X6_renew (x0 x1 x2 : Int) (σ : zHp) : m_X6_renew [x0, x1, x2] σ = (d_X6_renew [x0, x1, x2] σ).bind fun q => if q.1 = 1 then some (zg q.2.1 0, q.2.2) else none := rfl
abbrev wz_X6_cut : List Cond := Cond.code yX6_cut cX6_cut 2 (some .int) :: zG
def d_X6_cut : zS := sQ (sI (cV (fun x => r_eq x 0) (xF (xL 0) 2)) (sR (xU zi2b (xL 1))) sK) (sR (xI (cR r_eq (xF (xL 0) 2) (xC 1)) (xU zi2s (xL 1)) (xL 1)))
def m_X6_cut : List Int → zHp → Option (Int × zHp) := zRun 2 [5, 0] d_X6_cut
set_option maxRecDepth 100000 in
set_option maxHeartbeats 4000000 in
theorem s_X6_cut (ns : List Nat) (cp : Int) (P : Int → zHp → Prop) : zSt (RX6, cX6_cut, 2, wz_X6_cut, 1, 25, none, 0, ns, ns, cp, P) [(0, 5), (1, 0)] 0 0 [] zX0 (d_X6_cut) := zs_seq (zs_if (zc_ifN_eq (zx_fld (k := 2) (zx_aload_n (t := 5) dX6_cut_0 rfl (by decide) (by decide)) (by decide) (by decide) rfl rfl (by decide) inC_X6 (List.mem_cons_of_mem _ zw_228) rfl (by decide) rfl dX6_cut_1) dX6_cut_4 (by decide)) (zs_ret (zx_i2b (zx_iload_n dX6_cut_7 rfl (by decide)) dX6_cut_8) rfl (by decide) dX6_cut_9) zs_skip) (zs_ret (zx_ite (zc_icmpN_eq (zx_fld (k := 2) (zx_aload_n (t := 5) dX6_cut_10 rfl (by decide) (by decide)) (by decide) (by decide) rfl rfl (by decide) inC_X6 (List.mem_cons_of_mem _ zw_228) rfl (by decide) rfl dX6_cut_11) (zx_iconst dX6_cut_14 rfl ⟨by decide, by decide⟩) dX6_cut_15 (by decide)) (zx_i2s (zx_iload_n dX6_cut_18 rfl (by decide)) dX6_cut_19) dX6_cut_20 (by decide) (zx_iload_n dX6_cut_23 rfl (by decide))) rfl (by decide) dX6_cut_24)
theorem k_X6_cut : zCon yX6_cut wz_X6_cut [] [] (none) 1 25 [5, 0] 0 (m_X6_cut) := zMk (own := RX6) (cc := cX6_cut) (b := 0) (Γ2 := []) (X := zX0) (by decide +kernel) rfl rfl (by decide) (Or.inl ⟨rfl, rfl⟩) zex_0 (fun P cp ns hh => s_X6_cut ns cp P)
theorem e_X6_cut (x0 x1 : Int) (σ : zHp) : m_X6_cut [x0, x1] σ = (d_X6_cut [x0, x1] σ).bind fun q => if q.1 = 1 then some (zg q.2.1 0, q.2.2) else none := rfl
abbrev wz_X6_hasNumber : List Cond := Cond.code yX6_hasNumber cX6_hasNumber 2 (some .boolean) :: zG
def d_X6_hasNumber : zS := sR (xZ (cA (cV (fun x => r_ge x 0) (xL 1)) (cR r_lt (xL 1) (xF (xL 0) 3))))
def m_X6_hasNumber : List Int → zHp → Option (Int × zHp) := zRun 2 [5, 0] d_X6_hasNumber
set_option maxRecDepth 100000 in
set_option maxHeartbeats 4000000 in
theorem s_X6_hasNumber (ns : List Nat) (cp : Int) (P : Int → zHp → Prop) : zSt (RX6, cX6_hasNumber, 2, wz_X6_hasNumber, 1, 25, none, 4, ns, ns, cp, P) [(0, 5), (1, 0)] 0 0 [] zX0 (d_X6_hasNumber) := zs_ret (zx_z (zc_and (zc_ifN_ge (zx_iload_n dX6_hasNumber_0 rfl (by decide)) dX6_hasNumber_1 (by decide)) (zc_icmpN_lt (zx_iload_n dX6_hasNumber_4 rfl (by decide)) (zx_fld (k := 3) (zx_aload_n (t := 5) dX6_hasNumber_5 rfl (by decide) (by decide)) (by decide) (by decide) rfl rfl (by decide) inC_X6 (List.mem_cons_of_mem _ zw_229) rfl (by decide) rfl dX6_hasNumber_6) dX6_hasNumber_9 (by decide))) dX6_hasNumber_12 dX6_hasNumber_13 (by decide) dX6_hasNumber_16 rfl) rfl (by decide) dX6_hasNumber_17
theorem k_X6_hasNumber : zCon yX6_hasNumber wz_X6_hasNumber [] [] (none) 1 25 [5, 0] 4 (m_X6_hasNumber) := zMk (own := RX6) (cc := cX6_hasNumber) (b := 0) (Γ2 := []) (X := zX0) (by decide +kernel) rfl rfl (by decide) (Or.inr (Or.inr (Or.inl ⟨rfl, rfl⟩))) zex_0 (fun P cp ns hh => s_X6_hasNumber ns cp P)
theorem e_X6_hasNumber (x0 x1 : Int) (σ : zHp) : m_X6_hasNumber [x0, x1] σ = (d_X6_hasNumber [x0, x1] σ).bind fun q => if q.1 = 1 then some (zg q.2.1 0, q.2.2) else none := rfl
end
section
theorem hyS_J6_bitCount_0f7a4 : yJ6_bitCount_0f7a4.cls ≠ "java/lang/invoke/MethodHandle" ∧ yJ6_bitCount_0f7a4.cls ≠ "java/lang/invoke/VarHandle" ∧ (parseMethodDescriptor yJ6_bitCount_0f7a4.desc).map (fun d => d.parameters.length) = some 1 := by decide +kernel
theorem hyS_X3_stepsOn : yX3_stepsOn.cls ≠ "java/lang/invoke/MethodHandle" ∧ yX3_stepsOn.cls ≠ "java/lang/invoke/VarHandle" ∧ (parseMethodDescriptor yX3_stepsOn.desc).map (fun d => d.parameters.length) = some 3 := by decide +kernel
abbrev wz_X3_firstFault : List Cond := Cond.code yX3_firstFault cX3_firstFault 10 (some .int) :: zG
def lc_X3_firstFault_1 : zC := cR r_lt (xL 6) (xL 3)
def lf_X3_firstFault_1 : zS := sD [7, 8, 9] (sQ (sS 7 (xA (xL 1) 60 (xB o_iadd (xL 2) (xL 6)))) (sQ (sS 8 (xB o_isub (xL 7) (xC 48))) (sQ (sK) (sQ (sI (cV (fun x => r_eq x 0) (xL 6)) (sS 9 (xZ (cR r_eq (xL 7) (xC 103)))) (sI (cR r_eq (xL 6) (xC 1)) (sQ (sS 9 (xZ (cA (cR r_ge (xL 8) (xC 2)) (cR r_le (xL 8) (xC 5))))) (sS 4 (xL 8))) (sI (cR r_eq (xL 6) (xC 2)) (sQ (sS 9 (xZ (cA (cR r_ge (xL 8) (xC 2)) (cR r_le (xL 8) (xC 6))))) (sS 5 (xB o_iadd (xC 1) (xL 8)))) (sI (cR r_ge (xL 6) (xB o_iadd (xC 3) (xB o_imul (xL 4) (xL 5)))) (sS 9 (xC 0)) (sI (cV (fun x => r_eq x 0) (xD zmod (xB o_isub (xL 6) (xC 3)) (xL 5))) (sS 9 (xZ (cR r_eq (xL 7) (xC 59)))) (sS 9 (xZ (cA (cV (fun x => r_ge x 0) (xL 8)) (cR r_le (xL 8) (xC 9)))))))))) (sI (cN (cV rb (xL 9))) (sR (xL 6)) sK)))))
def ls_X3_firstFault_1 : zS := sS 6 (xB o_iadd (xL 6) (xC 1))
def d_X3_firstFault : zS := sQ (sS 4 (xC 0)) (sQ (sS 5 (xC 1)) (sQ (sD [6] (sQ (sS 6 (xC 0)) (sW lc_X3_firstFault_1 lf_X3_firstFault_1 ls_X3_firstFault_1))) (sR (xI (cA (cR r_gt (xL 3) (xC 2)) (cR r_eq (xL 3) (xB o_iadd (xC 3) (xB o_imul (xL 4) (xL 5))))) (xC (-9)) (xL 3)))))
def m_X3_firstFault : List Int → zHp → Option (Int × zHp) := zRun 10 [11, 6, 0, 0] d_X3_firstFault
set_option maxRecDepth 100000 in
set_option maxHeartbeats 4000000 in
theorem s_X3_firstFault (ns : List Nat) (cp : Int) (P : Int → zHp → Prop) : zSt (RX3, cX3_firstFault, 10, wz_X3_firstFault, 1, 25, none, 0, ns, ns, cp, P) [(0, 11), (1, 6), (2, 0), (3, 0)] 0 0 [] zX0 (d_X3_firstFault) := zs_seq (zs_istore (Γ2 := [(0, 11), (1, 6), (2, 0), (3, 0), (4, 0)]) (zx_iconst dX3_firstFault_0 rfl ⟨by decide, by decide⟩) dX3_firstFault_1 (Nat.le_of_ble_eq_true rfl) (by decide)) (zs_seq (zs_istore (Γ2 := [(0, 11), (1, 6), (2, 0), (3, 0), (4, 0), (5, 0)]) (zx_iconst dX3_firstFault_3 rfl ⟨by decide, by decide⟩) dX3_firstFault_4 (Nat.le_of_ble_eq_true rfl) (by decide)) (zs_seq (zs_blk (Γ2 := [(0, 11), (1, 6), (2, 0), (3, 0), (4, 0), (5, 0)]) (Γ3 := [(0, 11), (1, 6), (2, 0), (3, 0), (4, 0), (5, 0), (6, 0)]) (ks := [6]) (zs_seq (zs_istore (Γ2 := [(0, 11), (1, 6), (2, 0), (3, 0), (4, 0), (5, 0), (6, 0)]) (zx_iconst dX3_firstFault_6 rfl ⟨by decide, by decide⟩) dX3_firstFault_7 (Nat.le_of_ble_eq_true rfl) (by decide)) (zs_loop (Γ := [(0, 11), (1, 6), (2, 0), (3, 0), (4, 0), (5, 0), (6, 0)]) (zc_icmpN_lt (zx_iload dX3_firstFault_9 (by decide)) (zx_iload_n dX3_firstFault_11 rfl (by decide)) dX3_firstFault_12 (by decide)) (zs_blk (Γ2 := [(0, 11), (1, 6), (2, 0), (3, 0), (4, 0), (5, 0), (6, 0)]) (Γ3 := [(0, 11), (1, 6), (2, 0), (3, 0), (4, 0), (5, 0), (6, 0), (7, 0), (8, 0), (9, 4)]) (ks := [7, 8, 9]) (zs_seq (zs_istore (Γ2 := [(0, 11), (1, 6), (2, 0), (3, 0), (4, 0), (5, 0), (6, 0), (7, 0)]) (zx_iald (zx_aload_n (t := 6) dX3_firstFault_15 rfl (by decide) (by decide)) (zx_iadd (zx_iload_n dX3_firstFault_16 rfl (by decide)) (zx_iload dX3_firstFault_17 (by decide)) dX3_firstFault_19) (by decide) (zp_a (by decide)) rfl rfl dX3_firstFault_20) dX3_firstFault_21 (Nat.le_of_ble_eq_true rfl) (by decide)) (zs_seq (zs_istore (Γ2 := [(0, 11), (1, 6), (2, 0), (3, 0), (4, 0), (5, 0), (6, 0), (7, 0), (8, 0)]) (zx_isub (zx_iload dX3_firstFault_23 (by decide)) (zx_bipush dX3_firstFault_25 rfl ⟨by decide, by decide⟩) dX3_firstFault_27) dX3_firstFault_28 (Nat.le_of_ble_eq_true rfl) (by decide)) (zs_seq (zs_skip) (zs_seq (zs_if (zc_ifN_eq (zx_iload dX3_firstFault_30 (by decide)) dX3_firstFault_32 (by decide)) (zs_goto (zs_zstore (Γ2 := [(0, 11), (1, 6), (2, 0), (3, 0), (4, 0), (5, 0), (6, 0), (7, 0), (8, 0), (9, 4)]) (zx_z (zc_icmpN_eq (zx_iload dX3_firstFault_35 (by decide)) (zx_bipush dX3_firstFault_37 rfl ⟨by decide, by decide⟩) dX3_firstFault_39 (by decide)) dX3_firstFault_42 dX3_firstFault_43 (by decide) dX3_firstFault_46 rfl) dX3_firstFault_47 (Nat.le_of_ble_eq_true rfl) (by decide)) dX3_firstFault_49 (by decide)) (zs_if (zc_icmpN_eq (zx_iload dX3_firstFault_52 (by decide)) (zx_iconst dX3_firstFault_54 rfl ⟨by decide, by decide⟩) dX3_firstFault_55 (by decide)) (zs_goto (zs_seq (zs_zstore (Γ2 := [(0, 11), (1, 6), (2, 0), (3, 0), (4, 0), (5, 0), (6, 0), (7, 0), (8, 0), (9, 4)]) (zx_z (zc_and (zc_icmpN_ge (zx_iload dX3_firstFault_58 (by decide)) (zx_iconst dX3_firstFault_60 rfl ⟨by decide, by decide⟩) dX3_firstFault_61 (by decide)) (zc_icmpN_le (zx_iload dX3_firstFault_64 (by decide)) (zx_iconst dX3_firstFault_66 rfl ⟨by decide, by decide⟩) dX3_firstFault_67 (by decide))) dX3_firstFault_70 dX3_firstFault_71 (by decide) dX3_firstFault_74 rfl) dX3_firstFault_75 (Nat.le_of_ble_eq_true rfl) (by decide)) (zs_istore (Γ2 := [(0, 11), (1, 6), (2, 0), (3, 0), (4, 0), (5, 0), (6, 0), (7, 0), (8, 0), (9, 4)]) (zx_iload dX3_firstFault_77 (by decide)) dX3_firstFault_79 (Nat.le_of_ble_eq_true rfl) (by decide))) dX3_firstFault_81 (by decide)) (zs_if (zc_icmpN_eq (zx_iload dX3_firstFault_84 (by decide)) (zx_iconst dX3_firstFault_86 rfl ⟨by decide, by decide⟩) dX3_firstFault_87 (by decide)) (zs_goto (zs_seq (zs_zstore (Γ2 := [(0, 11), (1, 6), (2, 0), (3, 0), (4, 0), (5, 0), (6, 0), (7, 0), (8, 0), (9, 4)]) (zx_z (zc_and (zc_icmpN_ge (zx_iload dX3_firstFault_90 (by decide)) (zx_iconst dX3_firstFault_92 rfl ⟨by decide, by decide⟩) dX3_firstFault_93 (by decide)) (zc_icmpN_le (zx_iload dX3_firstFault_96 (by decide)) (zx_bipush dX3_firstFault_98 rfl ⟨by decide, by decide⟩) dX3_firstFault_100 (by decide))) dX3_firstFault_103 dX3_firstFault_104 (by decide) dX3_firstFault_107 rfl) dX3_firstFault_108 (Nat.le_of_ble_eq_true rfl) (by decide)) (zs_istore (Γ2 := [(0, 11), (1, 6), (2, 0), (3, 0), (4, 0), (5, 0), (6, 0), (7, 0), (8, 0), (9, 4)]) (zx_iadd (zx_iconst dX3_firstFault_110 rfl ⟨by decide, by decide⟩) (zx_iload dX3_firstFault_111 (by decide)) dX3_firstFault_113) dX3_firstFault_114 (Nat.le_of_ble_eq_true rfl) (by decide))) dX3_firstFault_116 (by decide)) (zs_if (zc_icmpN_ge (zx_iload dX3_firstFault_119 (by decide)) (zx_iadd (zx_iconst dX3_firstFault_121 rfl ⟨by decide, by decide⟩) (zx_imul (zx_iload dX3_firstFault_122 (by decide)) (zx_iload dX3_firstFault_124 (by decide)) dX3_firstFault_126) dX3_firstFault_127) dX3_firstFault_128 (by decide)) (zs_goto (zs_zstore (Γ2 := [(0, 11), (1, 6), (2, 0), (3, 0), (4, 0), (5, 0), (6, 0), (7, 0), (8, 0), (9, 4)]) (zx_bconst dX3_firstFault_131 rfl (Or.inl rfl)) dX3_firstFault_132 (Nat.le_of_ble_eq_true rfl) (by decide)) dX3_firstFault_134 (by decide)) (zs_if (zc_ifN_eq (zx_irem (zx_isub (zx_iload dX3_firstFault_137 (by decide)) (zx_iconst dX3_firstFault_139 rfl ⟨by decide, by decide⟩) dX3_firstFault_140) (zx_iload dX3_firstFault_141 (by decide)) dX3_firstFault_143) dX3_firstFault_144 (by decide)) (zs_goto (zs_zstore (Γ2 := [(0, 11), (1, 6), (2, 0), (3, 0), (4, 0), (5, 0), (6, 0), (7, 0), (8, 0), (9, 4)]) (zx_z (zc_icmpN_eq (zx_iload dX3_firstFault_147 (by decide)) (zx_bipush dX3_firstFault_149 rfl ⟨by decide, by decide⟩) dX3_firstFault_151 (by decide)) dX3_firstFault_154 dX3_firstFault_155 (by decide) dX3_firstFault_158 rfl) dX3_firstFault_159 (Nat.le_of_ble_eq_true rfl) (by decide)) dX3_firstFault_161 (by decide)) (zs_zstore (Γ2 := [(0, 11), (1, 6), (2, 0), (3, 0), (4, 0), (5, 0), (6, 0), (7, 0), (8, 0), (9, 4)]) (zx_z (zc_and (zc_ifN_ge (zx_iload dX3_firstFault_164 (by decide)) dX3_firstFault_166 (by decide)) (zc_icmpN_le (zx_iload dX3_firstFault_169 (by decide)) (zx_bipush dX3_firstFault_171 rfl ⟨by decide, by decide⟩) dX3_firstFault_173 (by decide))) dX3_firstFault_176 dX3_firstFault_177 (by decide) dX3_firstFault_180 rfl) dX3_firstFault_181 (Nat.le_of_ble_eq_true rfl) (by decide))))))) (zs_if (zc_not (zc_b (zx_sub (zx_zload dX3_firstFault_183 (by decide))) dX3_firstFault_185 (by decide))) (zs_ret (zx_iload dX3_firstFault_188 (by decide)) rfl (by decide) dX3_firstFault_190) zs_skip))))) (by decide) (by decide) (zY_ok (by decide))) (zs_goto (zs_iinc (Γ2 := [(0, 11), (1, 6), (2, 0), (3, 0), (4, 0), (5, 0), (6, 0)]) dX3_firstFault_191 (by decide) (Nat.le_of_ble_eq_true rfl) (by decide)) dX3_firstFault_194 (by decide)))) (by decide) (by decide) zX0_ok) (zs_ret (zx_ite (zc_and (zc_icmpN_gt (zx_iload_n dX3_firstFault_197 rfl (by decide)) (zx_iconst dX3_firstFault_198 rfl ⟨by decide, by decide⟩) dX3_firstFault_199 (by decide)) (zc_icmpN_eq (zx_iload_n dX3_firstFault_202 rfl (by decide)) (zx_iadd (zx_iconst dX3_firstFault_203 rfl ⟨by decide, by decide⟩) (zx_imul (zx_iload dX3_firstFault_204 (by decide)) (zx_iload dX3_firstFault_206 (by decide)) dX3_firstFault_208) dX3_firstFault_209) dX3_firstFault_210 (by decide))) (zx_bipush dX3_firstFault_213 rfl ⟨by decide, by decide⟩) dX3_firstFault_215 (by decide) (zx_iload_n dX3_firstFault_218 rfl (by decide))) rfl (by decide) dX3_firstFault_219)))
theorem k_X3_firstFault : zCon yX3_firstFault wz_X3_firstFault [] [] (none) 1 25 [11, 6, 0, 0] 0 (m_X3_firstFault) := zMk (own := RX3) (cc := cX3_firstFault) (b := 0) (Γ2 := []) (X := zX0) (by decide +kernel) rfl rfl (by decide) (Or.inl ⟨rfl, rfl⟩) zex_0 (fun P cp ns hh => s_X3_firstFault ns cp P)
theorem e_X3_firstFault (x0 x1 x2 x3 : Int) (σ : zHp) : m_X3_firstFault [x0, x1, x2, x3] σ = (d_X3_firstFault [x0, x1, x2, x3, 0, 0, 0, 0, 0, 0] σ).bind fun q => if q.1 = 1 then some (zg q.2.1 0, q.2.2) else none := rfl
abbrev wz_X3_take : List Cond := Cond.code yX3_take cX3_take 7 none :: zG
def lc_X3_take_1 : zC := cR r_lt (xL 6) (xE 2 30 (xL 5))
def lf_X3_take_1 : zS := sEo zOr 5 10 (xL 6) (xB zShl (xC 1) (xL 5))
def ls_X3_take_1 : zS := sS 6 (xB o_iadd (xL 6) (xC 1))
def lc_X3_take_2 : zC := cR r_lt (xL 4) (xG 1 1)
def lf_X3_take_2 : zS := sD [5] (sQ (sS 5 (xB o_iadd (xB o_imul (xL 3) (xG 1 1)) (xL 4))) (sQ (sE 3 30 (xL 5) (xL 3)) (sQ (sE 4 30 (xL 5) (xL 4)) (sQ (sE 2 30 (xL 5) (xB o_isub (xA (xL 1) 60 (xB o_iadd (xB o_iadd (xB o_iadd (xL 2) (xC 4)) (xB o_imul (xL 3) (xB o_iadd (xG 1 1) (xC 1)))) (xL 4))) (xC 48))) (sD [6] (sQ (sS 6 (xC 0)) (sW lc_X3_take_1 lf_X3_take_1 ls_X3_take_1)))))))
def ls_X3_take_2 : zS := sS 4 (xB o_iadd (xL 4) (xC 1))
def lc_X3_take_3 : zC := cR r_lt (xL 3) (xG 1 0)
def lf_X3_take_3 : zS := sD [4] (sQ (sS 4 (xC 0)) (sW lc_X3_take_2 lf_X3_take_2 ls_X3_take_2))
def ls_X3_take_3 : zS := sS 3 (xB o_iadd (xL 3) (xC 1))
def d_X3_take : zS := sQ (sQ (sG 1 0 (xB o_isub (xA (xL 1) 60 (xB o_iadd (xL 2) (xC 1))) (xC 48))) (sQ (sG 1 1 (xB o_isub (xA (xL 1) 60 (xB o_iadd (xL 2) (xC 2))) (xC 48))) (sQ (sG 1 2 (xB o_imul (xG 1 0) (xG 1 1))) (sQ (sG 1 3 (xC 0)) (sQ (sX (xK m_J7_fill_53178_a (aC (xC 5) (aC (xC 0) (aN))))) (sD [3] (sQ (sS 3 (xC 0)) (sW lc_X3_take_3 lf_X3_take_3 ls_X3_take_3)))))))) sV
def m_X3_take : List Int → zHp → Option (Int × zHp) := zRun 7 [11, 6, 0] d_X3_take
set_option maxRecDepth 100000 in
set_option maxHeartbeats 4000000 in
theorem s_X3_take (ns : List Nat) (cp : Int) (P : Int → zHp → Prop) : zSt (RX3, cX3_take, 7, wz_X3_take, 2, 48, none, 9, ns, ns, cp, P) [(0, 11), (1, 6), (2, 0)] 0 0 [] zX0 (d_X3_take) := zs_seq (zs_seq (zs_putS (o := 1) (k := 0) (zx_this (o := 1) dX3_take_0 rfl rfl (by decide) (by decide)) (zx_isub (zx_iald (zx_aload_n (t := 6) dX3_take_1 rfl (by decide) (by decide)) (zx_iadd (zx_iload_n dX3_take_2 rfl (by decide)) (zx_iconst dX3_take_3 rfl ⟨by decide, by decide⟩) dX3_take_4) (by decide) (zp_a (by decide)) rfl rfl dX3_take_5) (zx_bipush dX3_take_6 rfl ⟨by decide, by decide⟩) dX3_take_8) rfl rfl (by decide) inC_X3 (List.mem_cons_of_mem _ zw_34) tyX3_ok nmX3 rfl (tyX3_ok 0 (by decide)) rfl (by decide) rfl dX3_take_9) (zs_seq (zs_putS (o := 1) (k := 1) (zx_this (o := 1) dX3_take_12 rfl rfl (by decide) (by decide)) (zx_isub (zx_iald (zx_aload_n (t := 6) dX3_take_13 rfl (by decide) (by decide)) (zx_iadd (zx_iload_n dX3_take_14 rfl (by decide)) (zx_iconst dX3_take_15 rfl ⟨by decide, by decide⟩) dX3_take_16) (by decide) (zp_a (by decide)) rfl rfl dX3_take_17) (zx_bipush dX3_take_18 rfl ⟨by decide, by decide⟩) dX3_take_20) rfl rfl (by decide) inC_X3 (List.mem_cons_of_mem _ zw_35) tyX3_ok nmX3 rfl (tyX3_ok 1 (by decide)) rfl (by decide) rfl dX3_take_21) (zs_seq (zs_putS (o := 1) (k := 2) (zx_this (o := 1) dX3_take_24 rfl rfl (by decide) (by decide)) (zx_imul (zx_fldS (o := 1) (k := 0) (zx_this (o := 1) dX3_take_25 rfl rfl (by decide) (by decide)) rfl rfl (by decide) inC_X3 (List.mem_cons_of_mem _ zw_34) rfl (by decide) rfl dX3_take_26) (zx_fldS (o := 1) (k := 1) (zx_this (o := 1) dX3_take_29 rfl rfl (by decide) (by decide)) rfl rfl (by decide) inC_X3 (List.mem_cons_of_mem _ zw_35) rfl (by decide) rfl dX3_take_30) dX3_take_33) rfl rfl (by decide) inC_X3 (List.mem_cons_of_mem _ zw_37) tyX3_ok nmX3 rfl (tyX3_ok 2 (by decide)) rfl (by decide) rfl dX3_take_34) (zs_seq (zs_putS (o := 1) (k := 3) (zx_this (o := 1) dX3_take_37 rfl rfl (by decide) (by decide)) (zx_iconst dX3_take_38 rfl ⟨by decide, by decide⟩) rfl rfl (by decide) inC_X3 (List.mem_cons_of_mem _ zw_39) tyX3_ok nmX3 rfl (tyX3_ok 3 (by decide)) rfl (by decide) rfl dX3_take_39) (zs_seq (zs_callS (za_cons (zx_path (o := 1) (o2 := 5) (k := 7) (zx_this (o := 1) dX3_take_42 rfl rfl (by decide) (by decide)) rfl (by decide) rfl rfl (by decide) inC_X3 (List.mem_cons_of_mem _ zw_45) rfl rfl rfl dX3_take_43) rfl (za_cons (zx_iconst dX3_take_46 rfl ⟨by decide, by decide⟩) rfl (za_nil))) k_J7_fill_53178_a zf_0 rfl (zGS zw_299 zw_300 zw_17 zw_301) rfl hyS_J7_fill_53178 ⟨Nat.le_of_ble_eq_true rfl, Nat.le_of_ble_eq_true rfl⟩ dX3_take_47) (zs_blk (Γ2 := [(0, 11), (1, 6), (2, 0)]) (Γ3 := [(0, 11), (1, 6), (2, 0), (3, 0)]) (ks := [3]) (zs_seq (zs_istore_n (Γ2 := [(0, 11), (1, 6), (2, 0), (3, 0)]) (zx_iconst dX3_take_50 rfl ⟨by decide, by decide⟩) dX3_take_51 rfl (Nat.le_of_ble_eq_true rfl) (by decide)) (zs_loop (Γ := [(0, 11), (1, 6), (2, 0), (3, 0)]) (zc_icmpN_lt (zx_iload_n dX3_take_52 rfl (by decide)) (zx_fldS (o := 1) (k := 0) (zx_this (o := 1) dX3_take_53 rfl rfl (by decide) (by decide)) rfl rfl (by decide) inC_X3 (List.mem_cons_of_mem _ zw_34) rfl (by decide) rfl dX3_take_54) dX3_take_57 (by decide)) (zs_blk (Γ2 := [(0, 11), (1, 6), (2, 0), (3, 0)]) (Γ3 := [(0, 11), (1, 6), (2, 0), (3, 0), (4, 0)]) (ks := [4]) (zs_seq (zs_istore (Γ2 := [(0, 11), (1, 6), (2, 0), (3, 0), (4, 0)]) (zx_iconst dX3_take_60 rfl ⟨by decide, by decide⟩) dX3_take_61 (Nat.le_of_ble_eq_true rfl) (by decide)) (zs_loop (Γ := [(0, 11), (1, 6), (2, 0), (3, 0), (4, 0)]) (zc_icmpN_lt (zx_iload dX3_take_63 (by decide)) (zx_fldS (o := 1) (k := 1) (zx_this (o := 1) dX3_take_65 rfl rfl (by decide) (by decide)) rfl rfl (by decide) inC_X3 (List.mem_cons_of_mem _ zw_35) rfl (by decide) rfl dX3_take_66) dX3_take_69 (by decide)) (zs_blk (Γ2 := [(0, 11), (1, 6), (2, 0), (3, 0), (4, 0)]) (Γ3 := [(0, 11), (1, 6), (2, 0), (3, 0), (4, 0), (5, 0)]) (ks := [5]) (zs_seq (zs_istore (Γ2 := [(0, 11), (1, 6), (2, 0), (3, 0), (4, 0), (5, 0)]) (zx_iadd (zx_imul (zx_iload_n dX3_take_72 rfl (by decide)) (zx_fldS (o := 1) (k := 1) (zx_this (o := 1) dX3_take_73 rfl rfl (by decide) (by decide)) rfl rfl (by decide) inC_X3 (List.mem_cons_of_mem _ zw_35) rfl (by decide) rfl dX3_take_74) dX3_take_77) (zx_iload dX3_take_78 (by decide)) dX3_take_80) dX3_take_81 (Nat.le_of_ble_eq_true rfl) (by decide)) (zs_seq (zs_iastS (o := 3) (zx_path (o := 1) (o2 := 3) (k := 5) (zx_this (o := 1) dX3_take_83 rfl rfl (by decide) (by decide)) rfl (by decide) rfl rfl (by decide) inC_X3 (List.mem_cons_of_mem _ zw_43) rfl rfl rfl dX3_take_84) (zx_iload dX3_take_87 (by decide)) (zx_iload_n dX3_take_89 rfl (by decide)) (zp_a (by decide)) rfl rfl dX3_take_90) (zs_seq (zs_iastS (o := 4) (zx_path (o := 1) (o2 := 4) (k := 6) (zx_this (o := 1) dX3_take_91 rfl rfl (by decide) (by decide)) rfl (by decide) rfl rfl (by decide) inC_X3 (List.mem_cons_of_mem _ zw_44) rfl rfl rfl dX3_take_92) (zx_iload dX3_take_95 (by decide)) (zx_iload dX3_take_97 (by decide)) (zp_a (by decide)) rfl rfl dX3_take_99) (zs_seq (zs_iastS (o := 2) (zx_path (o := 1) (o2 := 2) (k := 4) (zx_this (o := 1) dX3_take_100 rfl rfl (by decide) (by decide)) rfl (by decide) rfl rfl (by decide) inC_X3 (List.mem_cons_of_mem _ zw_42) rfl rfl rfl dX3_take_101) (zx_iload dX3_take_104 (by decide)) (zx_isub (zx_iald (zx_aload_n (t := 6) dX3_take_106 rfl (by decide) (by decide)) (zx_iadd (zx_iadd (zx_iadd (zx_iload_n dX3_take_107 rfl (by decide)) (zx_iconst dX3_take_108 rfl ⟨by decide, by decide⟩) dX3_take_109) (zx_imul (zx_iload_n dX3_take_110 rfl (by decide)) (zx_iadd (zx_fldS (o := 1) (k := 1) (zx_this (o := 1) dX3_take_111 rfl rfl (by decide) (by decide)) rfl rfl (by decide) inC_X3 (List.mem_cons_of_mem _ zw_35) rfl (by decide) rfl dX3_take_112) (zx_iconst dX3_take_115 rfl ⟨by decide, by decide⟩) dX3_take_116) dX3_take_117) dX3_take_118) (zx_iload dX3_take_119 (by decide)) dX3_take_121) (by decide) (zp_a (by decide)) rfl rfl dX3_take_122) (zx_bipush dX3_take_123 rfl ⟨by decide, by decide⟩) dX3_take_125) (zp_a (by decide)) rfl rfl dX3_take_126) (zs_blk (Γ2 := [(0, 11), (1, 6), (2, 0), (3, 0), (4, 0), (5, 0)]) (Γ3 := [(0, 11), (1, 6), (2, 0), (3, 0), (4, 0), (5, 0), (6, 0)]) (ks := [6]) (zs_seq (zs_istore (Γ2 := [(0, 11), (1, 6), (2, 0), (3, 0), (4, 0), (5, 0), (6, 0)]) (zx_iconst dX3_take_127 rfl ⟨by decide, by decide⟩) dX3_take_128 (Nat.le_of_ble_eq_true rfl) (by decide)) (zs_loop (Γ := [(0, 11), (1, 6), (2, 0), (3, 0), (4, 0), (5, 0), (6, 0)]) (zc_icmpN_lt (zx_iload dX3_take_130 (by decide)) (zx_ialdS (o := 2) (zx_path (o := 1) (o2 := 2) (k := 4) (zx_this (o := 1) dX3_take_132 rfl rfl (by decide) (by decide)) rfl (by decide) rfl rfl (by decide) inC_X3 (List.mem_cons_of_mem _ zw_42) rfl rfl rfl dX3_take_133) (zx_iload dX3_take_136 (by decide)) (zp_a (by decide)) rfl rfl dX3_take_138) dX3_take_139 (by decide)) (zs_iastO (o := 5) (zx_path (o := 1) (o2 := 5) (k := 7) (zx_this (o := 1) dX3_take_142 rfl rfl (by decide) (by decide)) rfl (by decide) rfl rfl (by decide) inC_X3 (List.mem_cons_of_mem _ zw_45) rfl rfl rfl dX3_take_143) (zx_iload dX3_take_146 (by decide)) dX3_take_148 dX3_take_149 (zx_ishl (zx_iconst dX3_take_150 rfl ⟨by decide, by decide⟩) (zx_iload dX3_take_151 (by decide)) dX3_take_153) (zo_ior dX3_take_154) (zp_a (by decide)) rfl rfl dX3_take_155) (zs_goto (zs_iinc (Γ2 := [(0, 11), (1, 6), (2, 0), (3, 0), (4, 0), (5, 0), (6, 0)]) dX3_take_156 (by decide) (Nat.le_of_ble_eq_true rfl) (by decide)) dX3_take_159 (by decide)))) (by decide) (by decide) (zY_ok (by decide))))))) (by decide) (by decide) (zY_ok (by decide))) (zs_goto (zs_iinc (Γ2 := [(0, 11), (1, 6), (2, 0), (3, 0), (4, 0)]) dX3_take_162 (by decide) (Nat.le_of_ble_eq_true rfl) (by decide)) dX3_take_165 (by decide)))) (by decide) (by decide) (zY_ok (by decide))) (zs_goto (zs_iinc (Γ2 := [(0, 11), (1, 6), (2, 0), (3, 0)]) dX3_take_168 (by decide) (Nat.le_of_ble_eq_true rfl) (by decide)) dX3_take_171 (by decide)))) (by decide) (by decide) zX0_ok)))))) (zs_retv rfl dX3_take_174)
theorem k_X3_take : zCon yX3_take wz_X3_take [] [] (none) 2 48 [11, 6, 0] 9 (m_X3_take) := zMk (own := RX3) (cc := cX3_take) (b := 0) (Γ2 := []) (X := zX0) (by decide +kernel) rfl rfl (by decide) (Or.inr (Or.inr (Or.inr ⟨rfl, rfl⟩))) zex_0 (fun P cp ns hh => s_X3_take ns cp P)
theorem e_X3_take (x0 x1 x2 : Int) (σ : zHp) : m_X3_take [x0, x1, x2] σ = (d_X3_take [x0, x1, x2, 0, 0, 0, 0] σ).bind fun q => if q.1 = 1 then some (zg q.2.1 0, q.2.2) else none := rfl
abbrev wz_X3_apart : List Cond := Cond.code yX3_apart cX3_apart 5 (some .int) :: zG
def d_X3_apart : zS := sQ (sS 3 (xB o_isub (xE 3 30 (xL 2)) (xE 3 30 (xL 1)))) (sQ (sS 4 (xB o_isub (xE 4 30 (xL 2)) (xE 4 30 (xL 1)))) (sR (xB o_iadd (xB o_imul (xL 3) (xL 3)) (xB o_imul (xL 4) (xL 4)))))
def m_X3_apart : List Int → zHp → Option (Int × zHp) := zRun 5 [11, 0, 0] d_X3_apart
set_option maxRecDepth 100000 in
set_option maxHeartbeats 4000000 in
theorem s_X3_apart (ns : List Nat) (cp : Int) (P : Int → zHp → Prop) : zSt (RX3, cX3_apart, 5, wz_X3_apart, 1, 25, none, 0, ns, ns, cp, P) [(0, 11), (1, 0), (2, 0)] 0 0 [] zX0 (d_X3_apart) := zs_seq (zs_istore_n (Γ2 := [(0, 11), (1, 0), (2, 0), (3, 0)]) (zx_isub (zx_ialdS (o := 3) (zx_path (o := 1) (o2 := 3) (k := 5) (zx_this (o := 1) dX3_apart_0 rfl rfl (by decide) (by decide)) rfl (by decide) rfl rfl (by decide) inC_X3 (List.mem_cons_of_mem _ zw_43) rfl rfl rfl dX3_apart_1) (zx_iload_n dX3_apart_4 rfl (by decide)) (zp_a (by decide)) rfl rfl dX3_apart_5) (zx_ialdS (o := 3) (zx_path (o := 1) (o2 := 3) (k := 5) (zx_this (o := 1) dX3_apart_6 rfl rfl (by decide) (by decide)) rfl (by decide) rfl rfl (by decide) inC_X3 (List.mem_cons_of_mem _ zw_43) rfl rfl rfl dX3_apart_7) (zx_iload_n dX3_apart_10 rfl (by decide)) (zp_a (by decide)) rfl rfl dX3_apart_11) dX3_apart_12) dX3_apart_13 rfl (Nat.le_of_ble_eq_true rfl) (by decide)) (zs_seq (zs_istore (Γ2 := [(0, 11), (1, 0), (2, 0), (3, 0), (4, 0)]) (zx_isub (zx_ialdS (o := 4) (zx_path (o := 1) (o2 := 4) (k := 6) (zx_this (o := 1) dX3_apart_14 rfl rfl (by decide) (by decide)) rfl (by decide) rfl rfl (by decide) inC_X3 (List.mem_cons_of_mem _ zw_44) rfl rfl rfl dX3_apart_15) (zx_iload_n dX3_apart_18 rfl (by decide)) (zp_a (by decide)) rfl rfl dX3_apart_19) (zx_ialdS (o := 4) (zx_path (o := 1) (o2 := 4) (k := 6) (zx_this (o := 1) dX3_apart_20 rfl rfl (by decide) (by decide)) rfl (by decide) rfl rfl (by decide) inC_X3 (List.mem_cons_of_mem _ zw_44) rfl rfl rfl dX3_apart_21) (zx_iload_n dX3_apart_24 rfl (by decide)) (zp_a (by decide)) rfl rfl dX3_apart_25) dX3_apart_26) dX3_apart_27 (Nat.le_of_ble_eq_true rfl) (by decide)) (zs_ret (zx_iadd (zx_imul (zx_iload_n dX3_apart_29 rfl (by decide)) (zx_iload_n dX3_apart_30 rfl (by decide)) dX3_apart_31) (zx_imul (zx_iload dX3_apart_32 (by decide)) (zx_iload dX3_apart_34 (by decide)) dX3_apart_36) dX3_apart_37) rfl (by decide) dX3_apart_38))
theorem k_X3_apart : zCon yX3_apart wz_X3_apart [] [] (none) 1 25 [11, 0, 0] 0 (m_X3_apart) := zMk (own := RX3) (cc := cX3_apart) (b := 0) (Γ2 := []) (X := zX0) (by decide +kernel) rfl rfl (by decide) (Or.inl ⟨rfl, rfl⟩) zex_0 (fun P cp ns hh => s_X3_apart ns cp P)
theorem e_X3_apart (x0 x1 x2 : Int) (σ : zHp) : m_X3_apart [x0, x1, x2] σ = (d_X3_apart [x0, x1, x2, 0, 0] σ).bind fun q => if q.1 = 1 then some (zg q.2.1 0, q.2.2) else none := rfl
abbrev wz_X3_stepsOn : List Cond := Cond.code yX3_stepsOn cX3_stepsOn 4 (some .int) :: zG
def d_X3_stepsOn : zS := sQ (sS 3 (xB o_imul (xB o_imul (xC 2) (xL 0)) (xL 1))) (sR (xD zdiv (xI (cV (fun x => r_lt x 0) (xL 3)) (xB o_isub (xL 3) (xL 2)) (xB o_iadd (xL 3) (xL 2))) (xB o_imul (xC 2) (xL 2))))
def m_X3_stepsOn : List Int → zHp → Option (Int × zHp) := zRun 4 [0, 0, 0] d_X3_stepsOn
set_option maxRecDepth 100000 in
set_option maxHeartbeats 4000000 in
theorem s_X3_stepsOn (ns : List Nat) (cp : Int) (P : Int → zHp → Prop) : zSt (RX3, cX3_stepsOn, 4, wz_X3_stepsOn, 1, 25, none, 0, ns, ns, cp, P) [(0, 0), (1, 0), (2, 0)] 0 0 [] zX0 (d_X3_stepsOn) := zs_seq (zs_istore_n (Γ2 := [(0, 0), (1, 0), (2, 0), (3, 0)]) (zx_imul (zx_imul (zx_iconst dX3_stepsOn_0 rfl ⟨by decide, by decide⟩) (zx_iload_n dX3_stepsOn_1 rfl (by decide)) dX3_stepsOn_2) (zx_iload_n dX3_stepsOn_3 rfl (by decide)) dX3_stepsOn_4) dX3_stepsOn_5 rfl (Nat.le_of_ble_eq_true rfl) (by decide)) (zs_ret (zx_idiv (zx_ite (zc_ifN_lt (zx_iload_n dX3_stepsOn_6 rfl (by decide)) dX3_stepsOn_7 (by decide)) (zx_isub (zx_iload_n dX3_stepsOn_10 rfl (by decide)) (zx_iload_n dX3_stepsOn_11 rfl (by decide)) dX3_stepsOn_12) dX3_stepsOn_13 (by decide) (zx_iadd (zx_iload_n dX3_stepsOn_16 rfl (by decide)) (zx_iload_n dX3_stepsOn_17 rfl (by decide)) dX3_stepsOn_18)) (zx_imul (zx_iconst dX3_stepsOn_19 rfl ⟨by decide, by decide⟩) (zx_iload_n dX3_stepsOn_20 rfl (by decide)) dX3_stepsOn_21) dX3_stepsOn_22) rfl (by decide) dX3_stepsOn_23)
theorem k_X3_stepsOn : zCon yX3_stepsOn wz_X3_stepsOn [] [] (none) 1 25 [0, 0, 0] 0 (m_X3_stepsOn) := zMk (own := RX3) (cc := cX3_stepsOn) (b := 0) (Γ2 := []) (X := zX0) (by decide +kernel) rfl rfl (by decide) (Or.inl ⟨rfl, rfl⟩) zex_0 (fun P cp ns hh => s_X3_stepsOn ns cp P)
theorem e_X3_stepsOn (x0 x1 x2 : Int) (σ : zHp) : m_X3_stepsOn [x0, x1, x2] σ = (d_X3_stepsOn [x0, x1, x2, 0] σ).bind fun q => if q.1 = 1 then some (zg q.2.1 0, q.2.2) else none := rfl
abbrev wz_X3_between : List Cond := Cond.code yX3_between cX3_between 10 (some .int) :: zG
def lc_X3_between_1 : zC := cR r_lt (xL 7) (xL 5)
def lf_X3_between_1 : zS := sD [8, 9] (sQ (sS 8 (xB o_iadd (xE 3 30 (xL 1)) (xK m_X3_stepsOn (aC (xL 7) (aC (xL 3) (aC (xL 5) (aN))))))) (sQ (sS 9 (xB o_iadd (xE 4 30 (xL 1)) (xK m_X3_stepsOn (aC (xL 7) (aC (xL 4) (aC (xL 5) (aN))))))) (sS 6 (xB zOr (xL 6) (xB zShl (xC 1) (xB o_iadd (xB o_imul (xL 8) (xG 1 1)) (xL 9)))))))
def ls_X3_between_1 : zS := sS 7 (xB o_iadd (xL 7) (xC 1))
def d_X3_between : zS := sQ (sS 3 (xB o_isub (xE 3 30 (xL 2)) (xE 3 30 (xL 1)))) (sQ (sS 4 (xB o_isub (xE 4 30 (xL 2)) (xE 4 30 (xL 1)))) (sQ (sS 5 (xB o_max (xU o_abs (xL 3)) (xU o_abs (xL 4)))) (sQ (sS 6 (xC 0)) (sQ (sD [7] (sQ (sS 7 (xC 1)) (sW lc_X3_between_1 lf_X3_between_1 ls_X3_between_1))) (sR (xL 6))))))
def m_X3_between : List Int → zHp → Option (Int × zHp) := zRun 10 [11, 0, 0] d_X3_between
set_option maxRecDepth 100000 in
set_option maxHeartbeats 4000000 in
theorem s_X3_between (ns : List Nat) (cp : Int) (P : Int → zHp → Prop) : zSt (RX3, cX3_between, 10, wz_X3_between, 2, 48, none, 0, ns, ns, cp, P) [(0, 11), (1, 0), (2, 0)] 0 0 [] zX0 (d_X3_between) := zs_seq (zs_istore_n (Γ2 := [(0, 11), (1, 0), (2, 0), (3, 0)]) (zx_isub (zx_ialdS (o := 3) (zx_path (o := 1) (o2 := 3) (k := 5) (zx_this (o := 1) dX3_between_0 rfl rfl (by decide) (by decide)) rfl (by decide) rfl rfl (by decide) inC_X3 (List.mem_cons_of_mem _ zw_43) rfl rfl rfl dX3_between_1) (zx_iload_n dX3_between_4 rfl (by decide)) (zp_a (by decide)) rfl rfl dX3_between_5) (zx_ialdS (o := 3) (zx_path (o := 1) (o2 := 3) (k := 5) (zx_this (o := 1) dX3_between_6 rfl rfl (by decide) (by decide)) rfl (by decide) rfl rfl (by decide) inC_X3 (List.mem_cons_of_mem _ zw_43) rfl rfl rfl dX3_between_7) (zx_iload_n dX3_between_10 rfl (by decide)) (zp_a (by decide)) rfl rfl dX3_between_11) dX3_between_12) dX3_between_13 rfl (Nat.le_of_ble_eq_true rfl) (by decide)) (zs_seq (zs_istore (Γ2 := [(0, 11), (1, 0), (2, 0), (3, 0), (4, 0)]) (zx_isub (zx_ialdS (o := 4) (zx_path (o := 1) (o2 := 4) (k := 6) (zx_this (o := 1) dX3_between_14 rfl rfl (by decide) (by decide)) rfl (by decide) rfl rfl (by decide) inC_X3 (List.mem_cons_of_mem _ zw_44) rfl rfl rfl dX3_between_15) (zx_iload_n dX3_between_18 rfl (by decide)) (zp_a (by decide)) rfl rfl dX3_between_19) (zx_ialdS (o := 4) (zx_path (o := 1) (o2 := 4) (k := 6) (zx_this (o := 1) dX3_between_20 rfl rfl (by decide) (by decide)) rfl (by decide) rfl rfl (by decide) inC_X3 (List.mem_cons_of_mem _ zw_44) rfl rfl rfl dX3_between_21) (zx_iload_n dX3_between_24 rfl (by decide)) (zp_a (by decide)) rfl rfl dX3_between_25) dX3_between_26) dX3_between_27 (Nat.le_of_ble_eq_true rfl) (by decide)) (zs_seq (zs_istore (Γ2 := [(0, 11), (1, 0), (2, 0), (3, 0), (4, 0), (5, 0)]) (zx_max (zx_abs (zx_iload_n dX3_between_29 rfl (by decide)) (List.mem_cons_of_mem _ zw_485) (List.mem_cons_of_mem _ zw_486) (List.mem_cons_of_mem _ zw_18) (List.mem_cons_of_mem _ zw_487) (Nat.le_of_ble_eq_true rfl) (Nat.le_of_ble_eq_true rfl) dX3_between_30) (zx_abs (zx_iload dX3_between_33 (by decide)) (List.mem_cons_of_mem _ zw_485) (List.mem_cons_of_mem _ zw_486) (List.mem_cons_of_mem _ zw_18) (List.mem_cons_of_mem _ zw_487) (Nat.le_of_ble_eq_true rfl) (Nat.le_of_ble_eq_true rfl) dX3_between_35) (List.mem_cons_of_mem _ zw_488) (List.mem_cons_of_mem _ zw_414) (List.mem_cons_of_mem _ zw_18) (List.mem_cons_of_mem _ zw_415) (Nat.le_of_ble_eq_true rfl) (Nat.le_of_ble_eq_true rfl) dX3_between_38) dX3_between_41 (Nat.le_of_ble_eq_true rfl) (by decide)) (zs_seq (zs_istore (Γ2 := [(0, 11), (1, 0), (2, 0), (3, 0), (4, 0), (5, 0), (6, 0)]) (zx_iconst dX3_between_43 rfl ⟨by decide, by decide⟩) dX3_between_44 (Nat.le_of_ble_eq_true rfl) (by decide)) (zs_seq (zs_blk (Γ2 := [(0, 11), (1, 0), (2, 0), (3, 0), (4, 0), (5, 0), (6, 0)]) (Γ3 := [(0, 11), (1, 0), (2, 0), (3, 0), (4, 0), (5, 0), (6, 0), (7, 0)]) (ks := [7]) (zs_seq (zs_istore (Γ2 := [(0, 11), (1, 0), (2, 0), (3, 0), (4, 0), (5, 0), (6, 0), (7, 0)]) (zx_iconst dX3_between_46 rfl ⟨by decide, by decide⟩) dX3_between_47 (Nat.le_of_ble_eq_true rfl) (by decide)) (zs_loop (Γ := [(0, 11), (1, 0), (2, 0), (3, 0), (4, 0), (5, 0), (6, 0), (7, 0)]) (zc_icmpN_lt (zx_iload dX3_between_49 (by decide)) (zx_iload dX3_between_51 (by decide)) dX3_between_53 (by decide)) (zs_blk (Γ2 := [(0, 11), (1, 0), (2, 0), (3, 0), (4, 0), (5, 0), (6, 0), (7, 0)]) (Γ3 := [(0, 11), (1, 0), (2, 0), (3, 0), (4, 0), (5, 0), (6, 0), (7, 0), (8, 0), (9, 0)]) (ks := [8, 9]) (zs_seq (zs_istore (Γ2 := [(0, 11), (1, 0), (2, 0), (3, 0), (4, 0), (5, 0), (6, 0), (7, 0), (8, 0)]) (zx_iadd (zx_ialdS (o := 3) (zx_path (o := 1) (o2 := 3) (k := 5) (zx_this (o := 1) dX3_between_56 rfl rfl (by decide) (by decide)) rfl (by decide) rfl rfl (by decide) inC_X3 (List.mem_cons_of_mem _ zw_43) rfl rfl rfl dX3_between_57) (zx_iload_n dX3_between_60 rfl (by decide)) (zp_a (by decide)) rfl rfl dX3_between_61) (zx_callS (za_cons (zx_iload dX3_between_62 (by decide)) rfl (za_cons (zx_iload_n dX3_between_64 rfl (by decide)) rfl (za_cons (zx_iload dX3_between_65 (by decide)) rfl (za_nil)))) k_X3_stepsOn zf_0 (by decide) rfl (zGS zw_489 zw_490 zw_9 zw_491) rfl hyS_X3_stepsOn ⟨Nat.le_of_ble_eq_true rfl, Nat.le_of_ble_eq_true rfl⟩ (by decide) dX3_between_67) dX3_between_70) dX3_between_71 (Nat.le_of_ble_eq_true rfl) (by decide)) (zs_seq (zs_istore (Γ2 := [(0, 11), (1, 0), (2, 0), (3, 0), (4, 0), (5, 0), (6, 0), (7, 0), (8, 0), (9, 0)]) (zx_iadd (zx_ialdS (o := 4) (zx_path (o := 1) (o2 := 4) (k := 6) (zx_this (o := 1) dX3_between_73 rfl rfl (by decide) (by decide)) rfl (by decide) rfl rfl (by decide) inC_X3 (List.mem_cons_of_mem _ zw_44) rfl rfl rfl dX3_between_74) (zx_iload_n dX3_between_77 rfl (by decide)) (zp_a (by decide)) rfl rfl dX3_between_78) (zx_callS (za_cons (zx_iload dX3_between_79 (by decide)) rfl (za_cons (zx_iload dX3_between_81 (by decide)) rfl (za_cons (zx_iload dX3_between_83 (by decide)) rfl (za_nil)))) k_X3_stepsOn zf_0 (by decide) rfl (zGS zw_489 zw_490 zw_9 zw_491) rfl hyS_X3_stepsOn ⟨Nat.le_of_ble_eq_true rfl, Nat.le_of_ble_eq_true rfl⟩ (by decide) dX3_between_85) dX3_between_88) dX3_between_89 (Nat.le_of_ble_eq_true rfl) (by decide)) (zs_istore (Γ2 := [(0, 11), (1, 0), (2, 0), (3, 0), (4, 0), (5, 0), (6, 0), (7, 0), (8, 0), (9, 0)]) (zx_ior (zx_iload dX3_between_91 (by decide)) (zx_ishl (zx_iconst dX3_between_93 rfl ⟨by decide, by decide⟩) (zx_iadd (zx_imul (zx_iload dX3_between_94 (by decide)) (zx_fldS (o := 1) (k := 1) (zx_this (o := 1) dX3_between_96 rfl rfl (by decide) (by decide)) rfl rfl (by decide) inC_X3 (List.mem_cons_of_mem _ zw_35) rfl (by decide) rfl dX3_between_97) dX3_between_100) (zx_iload dX3_between_101 (by decide)) dX3_between_103) dX3_between_104) dX3_between_105) dX3_between_106 (Nat.le_of_ble_eq_true rfl) (by decide)))) (by decide) (by decide) (zY_ok (by decide))) (zs_goto (zs_iinc (Γ2 := [(0, 11), (1, 0), (2, 0), (3, 0), (4, 0), (5, 0), (6, 0), (7, 0)]) dX3_between_108 (by decide) (Nat.le_of_ble_eq_true rfl) (by decide)) dX3_between_111 (by decide)))) (by decide) (by decide) zX0_ok) (zs_ret (zx_iload dX3_between_114 (by decide)) rfl (by decide) dX3_between_116)))))
theorem k_X3_between : zCon yX3_between wz_X3_between [] [] (none) 2 48 [11, 0, 0] 0 (m_X3_between) := zMk (own := RX3) (cc := cX3_between) (b := 0) (Γ2 := []) (X := zX0) (by decide +kernel) rfl rfl (by decide) (Or.inl ⟨rfl, rfl⟩) zex_0 (fun P cp ns hh => s_X3_between ns cp P)
theorem e_X3_between (x0 x1 x2 : Int) (σ : zHp) : m_X3_between [x0, x1, x2] σ = (d_X3_between [x0, x1, x2, 0, 0, 0, 0, 0, 0, 0] σ).bind fun q => if q.1 = 1 then some (zg q.2.1 0, q.2.2) else none := rfl
abbrev wz_X3_hillsOn : List Cond := Cond.code yX3_hillsOn cX3_hillsOn 4 (some .int) :: zG
def d_X3_hillsOn : zS := sR (xK m_J6_bitCount_0f7a4 (aC (xB zAnd (xL 1) (xE 5 10 (xB o_max (xE 2 30 (xL 2)) (xE 2 30 (xL 3))))) (aN)))
def m_X3_hillsOn : List Int → zHp → Option (Int × zHp) := zRun 4 [11, 0, 0, 0] d_X3_hillsOn
set_option maxRecDepth 100000 in
set_option maxHeartbeats 4000000 in
theorem s_X3_hillsOn (ns : List Nat) (cp : Int) (P : Int → zHp → Prop) : zSt (RX3, cX3_hillsOn, 4, wz_X3_hillsOn, 2, 45, none, 0, ns, ns, cp, P) [(0, 11), (1, 0), (2, 0), (3, 0)] 0 0 [] zX0 (d_X3_hillsOn) := zs_ret (zx_callS (za_cons (zx_iand (zx_iload_n dX3_hillsOn_0 rfl (by decide)) (zx_ialdS (o := 5) (zx_path (o := 1) (o2 := 5) (k := 7) (zx_this (o := 1) dX3_hillsOn_1 rfl rfl (by decide) (by decide)) rfl (by decide) rfl rfl (by decide) inC_X3 (List.mem_cons_of_mem _ zw_45) rfl rfl rfl dX3_hillsOn_2) (zx_max (zx_ialdS (o := 2) (zx_path (o := 1) (o2 := 2) (k := 4) (zx_this (o := 1) dX3_hillsOn_5 rfl rfl (by decide) (by decide)) rfl (by decide) rfl rfl (by decide) inC_X3 (List.mem_cons_of_mem _ zw_42) rfl rfl rfl dX3_hillsOn_6) (zx_iload_n dX3_hillsOn_9 rfl (by decide)) (zp_a (by decide)) rfl rfl dX3_hillsOn_10) (zx_ialdS (o := 2) (zx_path (o := 1) (o2 := 2) (k := 4) (zx_this (o := 1) dX3_hillsOn_11 rfl rfl (by decide) (by decide)) rfl (by decide) rfl rfl (by decide) inC_X3 (List.mem_cons_of_mem _ zw_42) rfl rfl rfl dX3_hillsOn_12) (zx_iload_n dX3_hillsOn_15 rfl (by decide)) (zp_a (by decide)) rfl rfl dX3_hillsOn_16) (List.mem_cons_of_mem _ zw_488) (List.mem_cons_of_mem _ zw_414) (List.mem_cons_of_mem _ zw_18) (List.mem_cons_of_mem _ zw_415) (Nat.le_of_ble_eq_true rfl) (Nat.le_of_ble_eq_true rfl) dX3_hillsOn_17) (zp_a (by decide)) rfl rfl dX3_hillsOn_20) dX3_hillsOn_21) rfl (za_nil)) k_J6_bitCount_0f7a4 zf_0 (by decide) rfl (zGS zw_497 zw_390 zw_19 zw_391) rfl hyS_J6_bitCount_0f7a4 ⟨Nat.le_of_ble_eq_true rfl, Nat.le_of_ble_eq_true rfl⟩ (by decide) dX3_hillsOn_22) rfl (by decide) dX3_hillsOn_25
theorem k_X3_hillsOn : zCon yX3_hillsOn wz_X3_hillsOn [] [] (none) 2 45 [11, 0, 0, 0] 0 (m_X3_hillsOn) := zMk (own := RX3) (cc := cX3_hillsOn) (b := 0) (Γ2 := []) (X := zX0) (by decide +kernel) rfl rfl (by decide) (Or.inl ⟨rfl, rfl⟩) zex_0 (fun P cp ns hh => s_X3_hillsOn ns cp P)
theorem e_X3_hillsOn (x0 x1 x2 x3 : Int) (σ : zHp) : m_X3_hillsOn [x0, x1, x2, x3] σ = (d_X3_hillsOn [x0, x1, x2, x3] σ).bind fun q => if q.1 = 1 then some (zg q.2.1 0, q.2.2) else none := rfl
abbrev wz_X3_isPlanted : List Cond := Cond.code yX3_isPlanted cX3_isPlanted 2 (some .boolean) :: zG
def d_X3_isPlanted : zS := sR (xZ (cR r_eq (xB zAnd (xB zShr (xG 1 3) (xL 1)) (xC 1)) (xC 1)))
def m_X3_isPlanted : List Int → zHp → Option (Int × zHp) := zRun 2 [11, 0] d_X3_isPlanted
set_option maxRecDepth 100000 in
set_option maxHeartbeats 4000000 in
theorem s_X3_isPlanted (ns : List Nat) (cp : Int) (P : Int → zHp → Prop) : zSt (RX3, cX3_isPlanted, 2, wz_X3_isPlanted, 1, 25, none, 4, ns, ns, cp, P) [(0, 11), (1, 0)] 0 0 [] zX0 (d_X3_isPlanted) := zs_ret (zx_z (zc_icmpN_eq (zx_iand (zx_ishr (zx_fldS (o := 1) (k := 3) (zx_this (o := 1) dX3_isPlanted_0 rfl rfl (by decide) (by decide)) rfl rfl (by decide) inC_X3 (List.mem_cons_of_mem _ zw_39) rfl (by decide) rfl dX3_isPlanted_1) (zx_iload_n dX3_isPlanted_4 rfl (by decide)) dX3_isPlanted_5) (zx_iconst dX3_isPlanted_6 rfl ⟨by decide, by decide⟩) dX3_isPlanted_7) (zx_iconst dX3_isPlanted_8 rfl ⟨by decide, by decide⟩) dX3_isPlanted_9 (by decide)) dX3_isPlanted_12 dX3_isPlanted_13 (by decide) dX3_isPlanted_16 rfl) rfl (by decide) dX3_isPlanted_17
theorem k_X3_isPlanted : zCon yX3_isPlanted wz_X3_isPlanted [] [] (none) 1 25 [11, 0] 4 (m_X3_isPlanted) := zMk (own := RX3) (cc := cX3_isPlanted) (b := 0) (Γ2 := []) (X := zX0) (by decide +kernel) rfl rfl (by decide) (Or.inr (Or.inr (Or.inl ⟨rfl, rfl⟩))) zex_0 (fun P cp ns hh => s_X3_isPlanted ns cp P)
theorem e_X3_isPlanted (x0 x1 : Int) (σ : zHp) : m_X3_isPlanted [x0, x1] σ = (d_X3_isPlanted [x0, x1] σ).bind fun q => if q.1 = 1 then some (zg q.2.1 0, q.2.2) else none := rfl
abbrev wz_X3_downwind : List Cond := Cond.code yX3_downwind cX3_downwind 4 (some .int) :: zG
def d_X3_downwind : zS := sN (xD zdiv (xL 3) (xC 10)) 0 [sR (xB o_isub (xE 3 30 (xL 1)) (xE 3 30 (xL 2))), sR (xB o_isub (xE 4 30 (xL 2)) (xE 4 30 (xL 1))), sR (xB o_isub (xE 3 30 (xL 2)) (xE 3 30 (xL 1)))] (sR (xB o_isub (xE 4 30 (xL 1)) (xE 4 30 (xL 2))))
def m_X3_downwind : List Int → zHp → Option (Int × zHp) := zRun 4 [11, 0, 0, 0] d_X3_downwind
set_option maxRecDepth 100000 in
set_option maxHeartbeats 4000000 in
theorem s_X3_downwind (ns : List Nat) (cp : Int) (P : Int → zHp → Prop) : zSt (RX3, cX3_downwind, 4, wz_X3_downwind, 1, 25, none, 0, ns, ns, cp, P) [(0, 11), (1, 0), (2, 0), (3, 0)] 0 0 [] zX0 (d_X3_downwind) := zs_switch (ts := [32, 46, 60]) (zx_idiv (zx_iload_n dX3_downwind_0 rfl (by decide)) (zx_bipush dX3_downwind_1 rfl ⟨by decide, by decide⟩) dX3_downwind_3) dX3_downwind_4 (by decide) (by decide) (by decide) ⟨zs_ret (zx_isub (zx_ialdS (o := 3) (zx_path (o := 1) (o2 := 3) (k := 5) (zx_this (o := 1) dX3_downwind_32 rfl rfl (by decide) (by decide)) rfl (by decide) rfl rfl (by decide) inC_X3 (List.mem_cons_of_mem _ zw_43) rfl rfl rfl dX3_downwind_33) (zx_iload_n dX3_downwind_36 rfl (by decide)) (zp_a (by decide)) rfl rfl dX3_downwind_37) (zx_ialdS (o := 3) (zx_path (o := 1) (o2 := 3) (k := 5) (zx_this (o := 1) dX3_downwind_38 rfl rfl (by decide) (by decide)) rfl (by decide) rfl rfl (by decide) inC_X3 (List.mem_cons_of_mem _ zw_43) rfl rfl rfl dX3_downwind_39) (zx_iload_n dX3_downwind_42 rfl (by decide)) (zp_a (by decide)) rfl rfl dX3_downwind_43) dX3_downwind_44) rfl (by decide) dX3_downwind_45, ⟨zs_ret (zx_isub (zx_ialdS (o := 4) (zx_path (o := 1) (o2 := 4) (k := 6) (zx_this (o := 1) dX3_downwind_46 rfl rfl (by decide) (by decide)) rfl (by decide) rfl rfl (by decide) inC_X3 (List.mem_cons_of_mem _ zw_44) rfl rfl rfl dX3_downwind_47) (zx_iload_n dX3_downwind_50 rfl (by decide)) (zp_a (by decide)) rfl rfl dX3_downwind_51) (zx_ialdS (o := 4) (zx_path (o := 1) (o2 := 4) (k := 6) (zx_this (o := 1) dX3_downwind_52 rfl rfl (by decide) (by decide)) rfl (by decide) rfl rfl (by decide) inC_X3 (List.mem_cons_of_mem _ zw_44) rfl rfl rfl dX3_downwind_53) (zx_iload_n dX3_downwind_56 rfl (by decide)) (zp_a (by decide)) rfl rfl dX3_downwind_57) dX3_downwind_58) rfl (by decide) dX3_downwind_59, ⟨zs_ret (zx_isub (zx_ialdS (o := 3) (zx_path (o := 1) (o2 := 3) (k := 5) (zx_this (o := 1) dX3_downwind_60 rfl rfl (by decide) (by decide)) rfl (by decide) rfl rfl (by decide) inC_X3 (List.mem_cons_of_mem _ zw_43) rfl rfl rfl dX3_downwind_61) (zx_iload_n dX3_downwind_64 rfl (by decide)) (zp_a (by decide)) rfl rfl dX3_downwind_65) (zx_ialdS (o := 3) (zx_path (o := 1) (o2 := 3) (k := 5) (zx_this (o := 1) dX3_downwind_66 rfl rfl (by decide) (by decide)) rfl (by decide) rfl rfl (by decide) inC_X3 (List.mem_cons_of_mem _ zw_43) rfl rfl rfl dX3_downwind_67) (zx_iload_n dX3_downwind_70 rfl (by decide)) (zp_a (by decide)) rfl rfl dX3_downwind_71) dX3_downwind_72) rfl (by decide) dX3_downwind_73, trivial⟩⟩⟩ (zs_ret (zx_isub (zx_ialdS (o := 4) (zx_path (o := 1) (o2 := 4) (k := 6) (zx_this (o := 1) dX3_downwind_74 rfl rfl (by decide) (by decide)) rfl (by decide) rfl rfl (by decide) inC_X3 (List.mem_cons_of_mem _ zw_44) rfl rfl rfl dX3_downwind_75) (zx_iload_n dX3_downwind_78 rfl (by decide)) (zp_a (by decide)) rfl rfl dX3_downwind_79) (zx_ialdS (o := 4) (zx_path (o := 1) (o2 := 4) (k := 6) (zx_this (o := 1) dX3_downwind_80 rfl rfl (by decide) (by decide)) rfl (by decide) rfl rfl (by decide) inC_X3 (List.mem_cons_of_mem _ zw_44) rfl rfl rfl dX3_downwind_81) (zx_iload_n dX3_downwind_84 rfl (by decide)) (zp_a (by decide)) rfl rfl dX3_downwind_85) dX3_downwind_86) rfl (by decide) dX3_downwind_87)
theorem k_X3_downwind : zCon yX3_downwind wz_X3_downwind [] [] (none) 1 25 [11, 0, 0, 0] 0 (m_X3_downwind) := zMk (own := RX3) (cc := cX3_downwind) (b := 0) (Γ2 := []) (X := zX0) (by decide +kernel) rfl rfl (by decide) (Or.inl ⟨rfl, rfl⟩) zex_0 (fun P cp ns hh => s_X3_downwind ns cp P)
theorem e_X3_downwind (x0 x1 x2 x3 : Int) (σ : zHp) : m_X3_downwind [x0, x1, x2, x3] σ = (d_X3_downwind [x0, x1, x2, x3] σ).bind fun q => if q.1 = 1 then some (zg q.2.1 0, q.2.2) else none := rfl
abbrev wz_X3_titheOf : List Cond := Cond.code yX3_titheOf cX3_titheOf 2 (some .int) :: zG
def d_X3_titheOf : zS := sR (xB o_isub (xC 10) (xE 2 30 (xL 1)))
def m_X3_titheOf : List Int → zHp → Option (Int × zHp) := zRun 2 [11, 0] d_X3_titheOf
set_option maxRecDepth 100000 in
set_option maxHeartbeats 4000000 in
theorem s_X3_titheOf (ns : List Nat) (cp : Int) (P : Int → zHp → Prop) : zSt (RX3, cX3_titheOf, 2, wz_X3_titheOf, 1, 25, none, 0, ns, ns, cp, P) [(0, 11), (1, 0)] 0 0 [] zX0 (d_X3_titheOf) := zs_ret (zx_isub (zx_bipush dX3_titheOf_0 rfl ⟨by decide, by decide⟩) (zx_ialdS (o := 2) (zx_path (o := 1) (o2 := 2) (k := 4) (zx_this (o := 1) dX3_titheOf_2 rfl rfl (by decide) (by decide)) rfl (by decide) rfl rfl (by decide) inC_X3 (List.mem_cons_of_mem _ zw_42) rfl rfl rfl dX3_titheOf_3) (zx_iload_n dX3_titheOf_6 rfl (by decide)) (zp_a (by decide)) rfl rfl dX3_titheOf_7) dX3_titheOf_8) rfl (by decide) dX3_titheOf_9
theorem k_X3_titheOf : zCon yX3_titheOf wz_X3_titheOf [] [] (none) 1 25 [11, 0] 0 (m_X3_titheOf) := zMk (own := RX3) (cc := cX3_titheOf) (b := 0) (Γ2 := []) (X := zX0) (by decide +kernel) rfl rfl (by decide) (Or.inl ⟨rfl, rfl⟩) zex_0 (fun P cp ns hh => s_X3_titheOf ns cp P)
theorem e_X3_titheOf (x0 x1 : Int) (σ : zHp) : m_X3_titheOf [x0, x1] σ = (d_X3_titheOf [x0, x1] σ).bind fun q => if q.1 = 1 then some (zg q.2.1 0, q.2.2) else none := rfl
end
section
theorem hyV_X0_bar : yX0_bar.cls = RX0 ∧ yX0_bar.cls ≠ "java/lang/invoke/MethodHandle" ∧ yX0_bar.cls ≠ "java/lang/invoke/VarHandle" ∧ (parseMethodDescriptor yX0_bar.desc).map (fun d => d.parameters.length) = some 4 := by decide +kernel
theorem hyV_X0_blown : yX0_blown.cls = RX0 ∧ yX0_blown.cls ≠ "java/lang/invoke/MethodHandle" ∧ yX0_blown.cls ≠ "java/lang/invoke/VarHandle" ∧ (parseMethodDescriptor yX0_blown.desc).map (fun d => d.parameters.length) = some 4 := by decide +kernel
theorem hyV_X0_calmUnit : yX0_calmUnit.cls = RX0 ∧ yX0_calmUnit.cls ≠ "java/lang/invoke/MethodHandle" ∧ yX0_calmUnit.cls ≠ "java/lang/invoke/VarHandle" ∧ (parseMethodDescriptor yX0_calmUnit.desc).map (fun d => d.parameters.length) = some 3 := by decide +kernel
theorem hyV_X0_carry : yX0_carry.cls = RX0 ∧ yX0_carry.cls ≠ "java/lang/invoke/MethodHandle" ∧ yX0_carry.cls ≠ "java/lang/invoke/VarHandle" ∧ (parseMethodDescriptor yX0_carry.desc).map (fun d => d.parameters.length) = some 1 := by decide +kernel
theorem hyV_X0_loudness : yX0_loudness.cls = RX0 ∧ yX0_loudness.cls ≠ "java/lang/invoke/MethodHandle" ∧ yX0_loudness.cls ≠ "java/lang/invoke/VarHandle" ∧ (parseMethodDescriptor yX0_loudness.desc).map (fun d => d.parameters.length) = some 2 := by decide +kernel
theorem hyS_X0_strength : yX0_strength.cls ≠ "java/lang/invoke/MethodHandle" ∧ yX0_strength.cls ≠ "java/lang/invoke/VarHandle" ∧ (parseMethodDescriptor yX0_strength.desc).map (fun d => d.parameters.length) = some 1 := by decide +kernel
theorem hyV_X0_unitBy : yX0_unitBy.cls = RX0 ∧ yX0_unitBy.cls ≠ "java/lang/invoke/MethodHandle" ∧ yX0_unitBy.cls ≠ "java/lang/invoke/VarHandle" ∧ (parseMethodDescriptor yX0_unitBy.desc).map (fun d => d.parameters.length) = some 3 := by decide +kernel
theorem hyV_X3_apart : yX3_apart.cls = RX3 ∧ yX3_apart.cls ≠ "java/lang/invoke/MethodHandle" ∧ yX3_apart.cls ≠ "java/lang/invoke/VarHandle" ∧ (parseMethodDescriptor yX3_apart.desc).map (fun d => d.parameters.length) = some 2 := by decide +kernel
theorem hyV_X3_between : yX3_between.cls = RX3 ∧ yX3_between.cls ≠ "java/lang/invoke/MethodHandle" ∧ yX3_between.cls ≠ "java/lang/invoke/VarHandle" ∧ (parseMethodDescriptor yX3_between.desc).map (fun d => d.parameters.length) = some 2 := by decide +kernel
theorem hyV_X3_downwind : yX3_downwind.cls = RX3 ∧ yX3_downwind.cls ≠ "java/lang/invoke/MethodHandle" ∧ yX3_downwind.cls ≠ "java/lang/invoke/VarHandle" ∧ (parseMethodDescriptor yX3_downwind.desc).map (fun d => d.parameters.length) = some 3 := by decide +kernel
theorem hyV_X3_hillsOn : yX3_hillsOn.cls = RX3 ∧ yX3_hillsOn.cls ≠ "java/lang/invoke/MethodHandle" ∧ yX3_hillsOn.cls ≠ "java/lang/invoke/VarHandle" ∧ (parseMethodDescriptor yX3_hillsOn.desc).map (fun d => d.parameters.length) = some 3 := by decide +kernel
abbrev wz_X0_calmUnit : List Cond := Cond.code yX0_calmUnit cX0_calmUnit 9 (some .long) :: zG
def d_X0_calmUnit : zS := sQ (sS 4 (xK m_X3_between (aC (xC 1) (aC (xL 2) (aC (xL 3) (aN)))))) (sQ (sS 5 (xK m_J6_bitCount_0f7a4 (aC (xB zAnd (xL 4) (xG 1 3)) (aN)))) (sQ (sI (cR r_ne (xL 1) (xC 2)) (sS 5 (xB o_iadd (xL 5) (xK m_X3_hillsOn (aC (xC 1) (aC (xL 4) (aC (xL 2) (aC (xL 3) (aN)))))))) sK) (sQ (sS 6 (xK m_X3_apart (aC (xC 1) (aC (xL 2) (aC (xL 3) (aN)))))) (sQ (sS 7 (xI (cR r_lt (xL 1) (xC 1)) (xD zldiv (xC 59579996636160) (xB o_iadd (xC 1) (xL 6))) (xB o_lmul (xD zldiv (xC 59579996636160) (xB o_iadd (xC 2) (xL 6))) (xC 2)))) (sR (xB zLshr (xL 7) (xL 5)))))))
def m_X0_calmUnit : List Int → zHp → Option (Int × zHp) := zRun 9 [20, 0, 0, 0] d_X0_calmUnit
set_option maxRecDepth 100000 in
set_option maxHeartbeats 4000000 in
theorem s_X0_calmUnit (ns : List Nat) (cp : Int) (P : Int → zHp → Prop) : zSt (RX0, cX0_calmUnit, 9, wz_X0_calmUnit, 3, 77, none, 1, ns, ns, cp, P) [(0, 20), (1, 0), (2, 0), (3, 0)] 0 0 [] zX0 (d_X0_calmUnit) := zs_seq (zs_istore (Γ2 := [(0, 20), (1, 0), (2, 0), (3, 0), (4, 0)]) (zx_callV (za_cons (zx_path (o := 10) (o2 := 1) (k := 0) (zx_this (o := 10) dX0_calmUnit_0 rfl rfl (by decide) (by decide)) rfl (by decide) rfl rfl (by decide) inC_X0 (List.mem_cons_of_mem _ zw_97) rfl rfl rfl dX0_calmUnit_1) rfl (za_cons (zx_iload_n dX0_calmUnit_4 rfl (by decide)) rfl (za_cons (zx_iload_n dX0_calmUnit_5 rfl (by decide)) rfl (za_nil)))) k_X3_between zf_0 (by decide) (by decide) (by decide) rfl rfl (zGV zw_481 zw_482 zw_483 zw_9 zw_484) rfl hyV_X3_between ⟨Nat.le_of_ble_eq_true rfl, Nat.le_of_ble_eq_true rfl⟩ (by decide) dX0_calmUnit_6) dX0_calmUnit_9 (Nat.le_of_ble_eq_true rfl) (by decide)) (zs_seq (zs_istore (Γ2 := [(0, 20), (1, 0), (2, 0), (3, 0), (4, 0), (5, 0)]) (zx_callS (za_cons (zx_iand (zx_iload dX0_calmUnit_11 (by decide)) (zx_fldS (o := 1) (k := 3) (zx_path (o := 10) (o2 := 1) (k := 0) (zx_this (o := 10) dX0_calmUnit_13 rfl rfl (by decide) (by decide)) rfl (by decide) rfl rfl (by decide) inC_X0 (List.mem_cons_of_mem _ zw_97) rfl rfl rfl dX0_calmUnit_14) rfl rfl (by decide) inC_X3 (List.mem_cons_of_mem _ zw_41) rfl (by decide) rfl dX0_calmUnit_17) dX0_calmUnit_20) rfl (za_nil)) k_J6_bitCount_0f7a4 zf_0 (by decide) rfl (zGS zw_492 zw_390 zw_19 zw_391) rfl hyS_J6_bitCount_0f7a4 ⟨Nat.le_of_ble_eq_true rfl, Nat.le_of_ble_eq_true rfl⟩ (by decide) dX0_calmUnit_21) dX0_calmUnit_24 (Nat.le_of_ble_eq_true rfl) (by decide)) (zs_seq (zs_if (zc_icmpN_ne (zx_iload_n dX0_calmUnit_26 rfl (by decide)) (zx_iconst dX0_calmUnit_27 rfl ⟨by decide, by decide⟩) dX0_calmUnit_28 (by decide)) (zs_istore (Γ2 := [(0, 20), (1, 0), (2, 0), (3, 0), (4, 0), (5, 0)]) (zx_iadd (zx_iload dX0_calmUnit_31 (by decide)) (zx_callV (za_cons (zx_path (o := 10) (o2 := 1) (k := 0) (zx_this (o := 10) dX0_calmUnit_33 rfl rfl (by decide) (by decide)) rfl (by decide) rfl rfl (by decide) inC_X0 (List.mem_cons_of_mem _ zw_97) rfl rfl rfl dX0_calmUnit_34) rfl (za_cons (zx_iload dX0_calmUnit_37 (by decide)) rfl (za_cons (zx_iload_n dX0_calmUnit_39 rfl (by decide)) rfl (za_cons (zx_iload_n dX0_calmUnit_40 rfl (by decide)) rfl (za_nil))))) k_X3_hillsOn zf_0 (by decide) (by decide) (by decide) rfl rfl (zGV zw_493 zw_494 zw_495 zw_9 zw_496) rfl hyV_X3_hillsOn ⟨Nat.le_of_ble_eq_true rfl, Nat.le_of_ble_eq_true rfl⟩ (by decide) dX0_calmUnit_41) dX0_calmUnit_44) dX0_calmUnit_45 (Nat.le_of_ble_eq_true rfl) (by decide)) zs_skip) (zs_seq (zs_istore (Γ2 := [(0, 20), (1, 0), (2, 0), (3, 0), (4, 0), (5, 0), (6, 0)]) (zx_callV (za_cons (zx_path (o := 10) (o2 := 1) (k := 0) (zx_this (o := 10) dX0_calmUnit_47 rfl rfl (by decide) (by decide)) rfl (by decide) rfl rfl (by decide) inC_X0 (List.mem_cons_of_mem _ zw_97) rfl rfl rfl dX0_calmUnit_48) rfl (za_cons (zx_iload_n dX0_calmUnit_51 rfl (by decide)) rfl (za_cons (zx_iload_n dX0_calmUnit_52 rfl (by decide)) rfl (za_nil)))) k_X3_apart zf_0 (by decide) (by decide) (by decide) rfl rfl (zGV zw_498 zw_499 zw_500 zw_9 zw_501) rfl hyV_X3_apart ⟨Nat.le_of_ble_eq_true rfl, Nat.le_of_ble_eq_true rfl⟩ (by decide) dX0_calmUnit_53) dX0_calmUnit_56 (Nat.le_of_ble_eq_true rfl) (by decide)) (zs_seq (zs_lstore (Γ2 := [(0, 20), (1, 0), (2, 0), (3, 0), (4, 0), (5, 0), (6, 0), (7, 1)]) (zx_ite (zc_icmpN_lt (zx_iload_n dX0_calmUnit_58 rfl (by decide)) (zx_iconst dX0_calmUnit_59 rfl ⟨by decide, by decide⟩) dX0_calmUnit_60 (by decide)) (zx_ldiv (zx_ldc2 dX0_calmUnit_63 (List.mem_cons_of_mem _ zw_364) rfl ⟨by decide, by decide⟩) (zx_i2l (zx_iadd (zx_iconst dX0_calmUnit_66 rfl ⟨by decide, by decide⟩) (zx_iload dX0_calmUnit_67 (by decide)) dX0_calmUnit_69) dX0_calmUnit_70) dX0_calmUnit_71) dX0_calmUnit_72 (by decide) (zx_lmul (zx_ldiv (zx_ldc2 dX0_calmUnit_75 (List.mem_cons_of_mem _ zw_364) rfl ⟨by decide, by decide⟩) (zx_i2l (zx_iadd (zx_iconst dX0_calmUnit_78 rfl ⟨by decide, by decide⟩) (zx_iload dX0_calmUnit_79 (by decide)) dX0_calmUnit_81) dX0_calmUnit_82) dX0_calmUnit_83) (zx_ldc2 dX0_calmUnit_84 (List.mem_cons_of_mem _ zw_502) rfl ⟨by decide, by decide⟩) dX0_calmUnit_87)) dX0_calmUnit_88 (Nat.le_of_ble_eq_true rfl) (by decide)) (zs_ret (zx_lshr (zx_lload dX0_calmUnit_90 (by decide)) (zx_iload dX0_calmUnit_92 (by decide)) dX0_calmUnit_94) rfl (by decide) dX0_calmUnit_95)))))
theorem k_X0_calmUnit : zCon yX0_calmUnit wz_X0_calmUnit [] [] (none) 3 77 [20, 0, 0, 0] 1 (m_X0_calmUnit) := zMk (own := RX0) (cc := cX0_calmUnit) (b := 0) (Γ2 := []) (X := zX0) (by decide +kernel) rfl rfl (by decide) (Or.inr (Or.inl ⟨rfl, rfl⟩)) zex_0 (fun P cp ns hh => s_X0_calmUnit ns cp P)
theorem e_X0_calmUnit (x0 x1 x2 x3 : Int) (σ : zHp) : m_X0_calmUnit [x0, x1, x2, x3] σ = (d_X0_calmUnit [x0, x1, x2, x3, 0, 0, 0, 0, 0] σ).bind fun q => if q.1 = 1 then some (zg q.2.1 0, q.2.2) else none := rfl
abbrev wz_X0_carry : List Cond := Cond.code yX0_carry cX0_carry 3 none :: zG
def lc_X0_carry_1 : zC := cR r_lt (xL 2) (xG 1 2)
def lf_X0_carry_1 : zS := sE 11 180 (xB o_iadd (xB o_imul (xL 1) (xC 30)) (xL 2)) (xK m_X0_calmUnit (aC (xC 10) (aC (xE 7 6 (xL 1)) (aC (xE 8 6 (xL 1)) (aC (xL 2) (aN))))))
def ls_X0_carry_1 : zS := sS 2 (xB o_iadd (xL 2) (xC 1))
def d_X0_carry : zS := sQ (sD [2] (sQ (sS 2 (xC 0)) (sW lc_X0_carry_1 lf_X0_carry_1 ls_X0_carry_1))) sV
def m_X0_carry : List Int → zHp → Option (Int × zHp) := zRun 3 [20, 0] d_X0_carry
set_option maxRecDepth 100000 in
set_option maxHeartbeats 4000000 in
theorem s_X0_carry (ns : List Nat) (cp : Int) (P : Int → zHp → Prop) : zSt (RX0, cX0_carry, 3, wz_X0_carry, 4, 105, none, 9, ns, ns, cp, P) [(0, 20), (1, 0)] 0 0 [] zX0 (d_X0_carry) := zs_seq (zs_blk (Γ2 := [(0, 20), (1, 0)]) (Γ3 := [(0, 20), (1, 0), (2, 0)]) (ks := [2]) (zs_seq (zs_istore_n (Γ2 := [(0, 20), (1, 0), (2, 0)]) (zx_iconst dX0_carry_0 rfl ⟨by decide, by decide⟩) dX0_carry_1 rfl (Nat.le_of_ble_eq_true rfl) (by decide)) (zs_loop (Γ := [(0, 20), (1, 0), (2, 0)]) (zc_icmpN_lt (zx_iload_n dX0_carry_2 rfl (by decide)) (zx_fldS (o := 1) (k := 2) (zx_path (o := 10) (o2 := 1) (k := 0) (zx_this (o := 10) dX0_carry_3 rfl rfl (by decide) (by decide)) rfl (by decide) rfl rfl (by decide) inC_X0 (List.mem_cons_of_mem _ zw_97) rfl rfl rfl dX0_carry_4) rfl rfl (by decide) inC_X3 (List.mem_cons_of_mem _ zw_38) rfl (by decide) rfl dX0_carry_7) dX0_carry_10 (by decide)) (zs_lastS (o := 11) (zx_path (o := 10) (o2 := 11) (k := 3) (zx_this (o := 10) dX0_carry_13 rfl rfl (by decide) (by decide)) rfl (by decide) rfl rfl (by decide) inC_X0 (List.mem_cons_of_mem _ zw_101) rfl rfl rfl dX0_carry_14) (zx_iadd (zx_imul (zx_iload_n dX0_carry_17 rfl (by decide)) (zx_bipush dX0_carry_18 rfl ⟨by decide, by decide⟩) dX0_carry_20) (zx_iload_n dX0_carry_21 rfl (by decide)) dX0_carry_22) (zx_callV (za_cons (zx_this (o := 10) dX0_carry_23 rfl rfl (by decide) (by decide)) rfl (za_cons (zx_ialdS (o := 7) (zx_path (o := 6) (o2 := 7) (k := 1) (zx_path (o := 10) (o2 := 6) (k := 1) (zx_this (o := 10) dX0_carry_24 rfl rfl (by decide) (by decide)) rfl (by decide) rfl rfl (by decide) inC_X0 (List.mem_cons_of_mem _ zw_98) rfl rfl rfl dX0_carry_25) rfl (by decide) rfl rfl (by decide) inC_X1 (List.mem_cons_of_mem _ zw_74) rfl rfl rfl dX0_carry_28) (zx_iload_n dX0_carry_31 rfl (by decide)) (zp_a (by decide)) rfl rfl dX0_carry_32) rfl (za_cons (zx_ialdS (o := 8) (zx_path (o := 6) (o2 := 8) (k := 2) (zx_path (o := 10) (o2 := 6) (k := 1) (zx_this (o := 10) dX0_carry_33 rfl rfl (by decide) (by decide)) rfl (by decide) rfl rfl (by decide) inC_X0 (List.mem_cons_of_mem _ zw_98) rfl rfl rfl dX0_carry_34) rfl (by decide) rfl rfl (by decide) inC_X1 (List.mem_cons_of_mem _ zw_77) rfl rfl rfl dX0_carry_37) (zx_iload_n dX0_carry_40 rfl (by decide)) (zp_a (by decide)) rfl rfl dX0_carry_41) rfl (za_cons (zx_iload_n dX0_carry_42 rfl (by decide)) rfl (za_nil))))) k_X0_calmUnit zf_0 (by decide) (by decide) (by decide) rfl rfl (zGV zw_477 zw_479 zw_6 zw_11 zw_480) rfl hyV_X0_calmUnit ⟨Nat.le_of_ble_eq_true rfl, Nat.le_of_ble_eq_true rfl⟩ (by decide) dX0_carry_43) (zp_a (by decide)) rfl rfl dX0_carry_46) (zs_goto (zs_iinc (Γ2 := [(0, 20), (1, 0), (2, 0)]) dX0_carry_47 (by decide) (Nat.le_of_ble_eq_true rfl) (by decide)) dX0_carry_50 (by decide)))) (by decide) (by decide) zX0_ok) (zs_retv rfl dX0_carry_53)
theorem k_X0_carry : zCon yX0_carry wz_X0_carry [] [] (none) 4 105 [20, 0] 9 (m_X0_carry) := zMk (own := RX0) (cc := cX0_carry) (b := 0) (Γ2 := []) (X := zX0) (by decide +kernel) rfl rfl (by decide) (Or.inr (Or.inr (Or.inr ⟨rfl, rfl⟩))) zex_0 (fun P cp ns hh => s_X0_carry ns cp P)
theorem e_X0_carry (x0 x1 : Int) (σ : zHp) : m_X0_carry [x0, x1] σ = (d_X0_carry [x0, x1, 0] σ).bind fun q => if q.1 = 1 then some (zg q.2.1 0, q.2.2) else none := rfl
abbrev wz_X0_carryAll : List Cond := Cond.code yX0_carryAll cX0_carryAll 2 none :: zG
def lc_X0_carryAll_1 : zC := cR r_lt (xL 1) (xG 6 0)
def lf_X0_carryAll_1 : zS := sX (xK m_X0_carry (aC (xC 10) (aC (xL 1) (aN))))
def ls_X0_carryAll_1 : zS := sS 1 (xB o_iadd (xL 1) (xC 1))
def d_X0_carryAll : zS := sQ (sD [1] (sQ (sS 1 (xC 0)) (sW lc_X0_carryAll_1 lf_X0_carryAll_1 ls_X0_carryAll_1))) sV
def m_X0_carryAll : List Int → zHp → Option (Int × zHp) := zRun 2 [20] d_X0_carryAll
set_option maxRecDepth 100000 in
set_option maxHeartbeats 4000000 in
theorem s_X0_carryAll (ns : List Nat) (cp : Int) (P : Int → zHp → Prop) : zSt (RX0, cX0_carryAll, 2, wz_X0_carryAll, 5, 127, none, 9, ns, ns, cp, P) [(0, 20)] 0 0 [] zX0 (d_X0_carryAll) := zs_seq (zs_blk (Γ2 := [(0, 20)]) (Γ3 := [(0, 20), (1, 0)]) (ks := [1]) (zs_seq (zs_istore_n (Γ2 := [(0, 20), (1, 0)]) (zx_iconst dX0_carryAll_0 rfl ⟨by decide, by decide⟩) dX0_carryAll_1 rfl (Nat.le_of_ble_eq_true rfl) (by decide)) (zs_loop (Γ := [(0, 20), (1, 0)]) (zc_icmpN_lt (zx_iload_n dX0_carryAll_2 rfl (by decide)) (zx_fldS (o := 6) (k := 0) (zx_path (o := 10) (o2 := 6) (k := 1) (zx_this (o := 10) dX0_carryAll_3 rfl rfl (by decide) (by decide)) rfl (by decide) rfl rfl (by decide) inC_X0 (List.mem_cons_of_mem _ zw_98) rfl rfl rfl dX0_carryAll_4) rfl rfl (by decide) inC_X1 (List.mem_cons_of_mem _ zw_72) rfl (by decide) rfl dX0_carryAll_7) dX0_carryAll_10 (by decide)) (zs_callV (za_cons (zx_this (o := 10) dX0_carryAll_13 rfl rfl (by decide) (by decide)) rfl (za_cons (zx_iload_n dX0_carryAll_14 rfl (by decide)) rfl (za_nil))) k_X0_carry zf_0 (by decide) (by decide) rfl rfl (zGV zw_515 zw_474 zw_475 zw_11 zw_476) rfl hyV_X0_carry ⟨Nat.le_of_ble_eq_true rfl, Nat.le_of_ble_eq_true rfl⟩ dX0_carryAll_15) (zs_goto (zs_iinc (Γ2 := [(0, 20), (1, 0)]) dX0_carryAll_18 (by decide) (Nat.le_of_ble_eq_true rfl) (by decide)) dX0_carryAll_21 (by decide)))) (by decide) (by decide) zX0_ok) (zs_retv rfl dX0_carryAll_24)
theorem k_X0_carryAll : zCon yX0_carryAll wz_X0_carryAll [] [] (none) 5 127 [20] 9 (m_X0_carryAll) := zMk (own := RX0) (cc := cX0_carryAll) (b := 0) (Γ2 := []) (X := zX0) (by decide +kernel) rfl rfl (by decide) (Or.inr (Or.inr (Or.inr ⟨rfl, rfl⟩))) zex_0 (fun P cp ns hh => s_X0_carryAll ns cp P)
theorem e_X0_carryAll (x0 : Int) (σ : zHp) : m_X0_carryAll [x0] σ = (d_X0_carryAll [x0, 0] σ).bind fun q => if q.1 = 1 then some (zg q.2.1 0, q.2.2) else none := rfl
abbrev wz_X0_strength : List Cond := Cond.code yX0_strength cX0_strength 1 (some .int) :: zG
def d_X0_strength : zS := sR (xB o_iadd (xC 10) (xD zmod (xL 0) (xC 10)))
def m_X0_strength : List Int → zHp → Option (Int × zHp) := zRun 1 [0] d_X0_strength
set_option maxRecDepth 100000 in
set_option maxHeartbeats 4000000 in
theorem s_X0_strength (ns : List Nat) (cp : Int) (P : Int → zHp → Prop) : zSt (RX0, cX0_strength, 1, wz_X0_strength, 1, 25, none, 0, ns, ns, cp, P) [(0, 0)] 0 0 [] zX0 (d_X0_strength) := zs_ret (zx_iadd (zx_bipush dX0_strength_0 rfl ⟨by decide, by decide⟩) (zx_irem (zx_iload_n dX0_strength_2 rfl (by decide)) (zx_bipush dX0_strength_3 rfl ⟨by decide, by decide⟩) dX0_strength_5) dX0_strength_6) rfl (by decide) dX0_strength_7
theorem k_X0_strength : zCon yX0_strength wz_X0_strength [] [] (none) 1 25 [0] 0 (m_X0_strength) := zMk (own := RX0) (cc := cX0_strength) (b := 0) (Γ2 := []) (X := zX0) (by decide +kernel) rfl rfl (by decide) (Or.inl ⟨rfl, rfl⟩) zex_0 (fun P cp ns hh => s_X0_strength ns cp P)
theorem e_X0_strength (x0 : Int) (σ : zHp) : m_X0_strength [x0] σ = (d_X0_strength [x0] σ).bind fun q => if q.1 = 1 then some (zg q.2.1 0, q.2.2) else none := rfl
abbrev wz_X0_grainsOfOne : List Cond := Cond.code yX0_grainsOfOne cX0_grainsOfOne 1 (some .long) :: zG
def d_X0_grainsOfOne : zS := sR (xB o_lmul (xC 595799966361600) (xK m_X0_strength (aC (xL 0) (aN))))
def m_X0_grainsOfOne : List Int → zHp → Option (Int × zHp) := zRun 1 [0] d_X0_grainsOfOne
set_option maxRecDepth 100000 in
set_option maxHeartbeats 4000000 in
theorem s_X0_grainsOfOne (ns : List Nat) (cp : Int) (P : Int → zHp → Prop) : zSt (RX0, cX0_grainsOfOne, 1, wz_X0_grainsOfOne, 2, 45, none, 1, ns, ns, cp, P) [(0, 0)] 0 0 [] zX0 (d_X0_grainsOfOne) := zs_ret (zx_lmul (zx_ldc2 dX0_grainsOfOne_0 (List.mem_cons_of_mem _ zw_345) rfl ⟨by decide, by decide⟩) (zx_i2l (zx_callS (za_cons (zx_iload_n dX0_grainsOfOne_3 rfl (by decide)) rfl (za_nil)) k_X0_strength zf_0 (by decide) rfl (zGS zw_337 zw_338 zw_11 zw_339) rfl hyS_X0_strength ⟨Nat.le_of_ble_eq_true rfl, Nat.le_of_ble_eq_true rfl⟩ (by decide) dX0_grainsOfOne_4) dX0_grainsOfOne_7) dX0_grainsOfOne_8) rfl (by decide) dX0_grainsOfOne_9
theorem k_X0_grainsOfOne : zCon yX0_grainsOfOne wz_X0_grainsOfOne [] [] (none) 2 45 [0] 1 (m_X0_grainsOfOne) := zMk (own := RX0) (cc := cX0_grainsOfOne) (b := 0) (Γ2 := []) (X := zX0) (by decide +kernel) rfl rfl (by decide) (Or.inr (Or.inl ⟨rfl, rfl⟩)) zex_0 (fun P cp ns hh => s_X0_grainsOfOne ns cp P)
theorem e_X0_grainsOfOne (x0 : Int) (σ : zHp) : m_X0_grainsOfOne [x0] σ = (d_X0_grainsOfOne [x0] σ).bind fun q => if q.1 = 1 then some (zg q.2.1 0, q.2.2) else none := rfl
abbrev wz_X0_blown : List Cond := Cond.code yX0_blown cX0_blown 8 (some .long) :: zG
def d_X0_blown : zS := sQ (sS 6 (xK m_X3_downwind (aC (xC 1) (aC (xL 3) (aC (xL 4) (aC (xL 5) (aN))))))) (sQ (sS 7 (xK m_X0_strength (aC (xL 5) (aN)))) (sQ (sI (cV (fun x => r_gt x 0) (xL 6)) (sR (xB o_lmul (xB o_lmul (xL 1) (xL 7)) (xL 7))) sK) (sR (xI (cV (fun x => r_lt x 0) (xL 6)) (xB o_lmul (xL 1) (xC 100)) (xB o_lmul (xB o_lmul (xL 1) (xC 10)) (xL 7))))))
def m_X0_blown : List Int → zHp → Option (Int × zHp) := zRun 8 [20, 1, 0, 0, 0] d_X0_blown
set_option maxRecDepth 100000 in
set_option maxHeartbeats 4000000 in
theorem s_X0_blown (ns : List Nat) (cp : Int) (P : Int → zHp → Prop) : zSt (RX0, cX0_blown, 8, wz_X0_blown, 2, 48, none, 1, ns, ns, cp, P) [(0, 20), (1, 1), (3, 0), (4, 0), (5, 0)] 0 0 [] zX0 (d_X0_blown) := zs_seq (zs_istore (Γ2 := [(0, 20), (1, 1), (3, 0), (4, 0), (5, 0), (6, 0)]) (zx_callV (za_cons (zx_path (o := 10) (o2 := 1) (k := 0) (zx_this (o := 10) dX0_blown_0 rfl rfl (by decide) (by decide)) rfl (by decide) rfl rfl (by decide) inC_X0 (List.mem_cons_of_mem _ zw_97) rfl rfl rfl dX0_blown_1) rfl (za_cons (zx_iload_n dX0_blown_4 rfl (by decide)) rfl (za_cons (zx_iload dX0_blown_5 (by decide)) rfl (za_cons (zx_iload dX0_blown_7 (by decide)) rfl (za_nil))))) k_X3_downwind zf_0 (by decide) (by decide) (by decide) rfl rfl (zGV zw_333 zw_334 zw_335 zw_9 zw_336) rfl hyV_X3_downwind ⟨Nat.le_of_ble_eq_true rfl, Nat.le_of_ble_eq_true rfl⟩ (by decide) dX0_blown_9) dX0_blown_12 (Nat.le_of_ble_eq_true rfl) (by decide)) (zs_seq (zs_istore (Γ2 := [(0, 20), (1, 1), (3, 0), (4, 0), (5, 0), (6, 0), (7, 0)]) (zx_callS (za_cons (zx_iload dX0_blown_14 (by decide)) rfl (za_nil)) k_X0_strength zf_0 (by decide) rfl (zGS zw_337 zw_338 zw_11 zw_339) rfl hyS_X0_strength ⟨Nat.le_of_ble_eq_true rfl, Nat.le_of_ble_eq_true rfl⟩ (by decide) dX0_blown_16) dX0_blown_19 (Nat.le_of_ble_eq_true rfl) (by decide)) (zs_seq (zs_if (zc_ifN_gt (zx_iload dX0_blown_21 (by decide)) dX0_blown_23 (by decide)) (zs_ret (zx_lmul (zx_lmul (zx_lload_n dX0_blown_26 rfl (by decide)) (zx_i2l (zx_iload dX0_blown_27 (by decide)) dX0_blown_29) dX0_blown_30) (zx_i2l (zx_iload dX0_blown_31 (by decide)) dX0_blown_33) dX0_blown_34) rfl (by decide) dX0_blown_35) zs_skip) (zs_ret (zx_ite (zc_ifN_lt (zx_iload dX0_blown_36 (by decide)) dX0_blown_38 (by decide)) (zx_lmul (zx_lload_n dX0_blown_41 rfl (by decide)) (zx_ldc2 dX0_blown_42 (List.mem_cons_of_mem _ zw_340) rfl ⟨by decide, by decide⟩) dX0_blown_45) dX0_blown_46 (by decide) (zx_lmul (zx_lmul (zx_lload_n dX0_blown_49 rfl (by decide)) (zx_ldc2 dX0_blown_50 (List.mem_cons_of_mem _ zw_341) rfl ⟨by decide, by decide⟩) dX0_blown_53) (zx_i2l (zx_iload dX0_blown_54 (by decide)) dX0_blown_56) dX0_blown_57)) rfl (by decide) dX0_blown_58)))
theorem k_X0_blown : zCon yX0_blown wz_X0_blown [] [] (none) 2 48 [20, 1, 0, 0, 0] 1 (m_X0_blown) := zMk (own := RX0) (cc := cX0_blown) (b := 0) (Γ2 := []) (X := zX0) (by decide +kernel) rfl rfl (by decide) (Or.inr (Or.inl ⟨rfl, rfl⟩)) zex_0 (fun P cp ns hh => s_X0_blown ns cp P)
theorem e_X0_blown (x0 x1 x2 x3 x4 : Int) (σ : zHp) : m_X0_blown [x0, x1, x2, x3, x4] σ = (d_X0_blown [x0, x1, 0, x2, x3, x4, 0, 0] σ).bind fun q => if q.1 = 1 then some (zg q.2.1 0, q.2.2) else none := rfl
abbrev wz_X0_unitBy : List Cond := Cond.code yX0_unitBy cX0_unitBy 4 (some .long) :: zG
def d_X0_unitBy : zS := sR (xK m_X0_blown (aC (xC 10) (aC (xE 11 180 (xB o_iadd (xB o_imul (xL 1) (xC 30)) (xL 2))) (aC (xE 8 6 (xL 1)) (aC (xL 2) (aC (xL 3) (aN)))))))
def m_X0_unitBy : List Int → zHp → Option (Int × zHp) := zRun 4 [20, 0, 0, 0] d_X0_unitBy
set_option maxRecDepth 100000 in
set_option maxHeartbeats 4000000 in
theorem s_X0_unitBy (ns : List Nat) (cp : Int) (P : Int → zHp → Prop) : zSt (RX0, cX0_unitBy, 4, wz_X0_unitBy, 3, 75, none, 1, ns, ns, cp, P) [(0, 20), (1, 0), (2, 0), (3, 0)] 0 0 [] zX0 (d_X0_unitBy) := zs_ret (zx_callV (za_cons (zx_this (o := 10) dX0_unitBy_0 rfl rfl (by decide) (by decide)) rfl (za_cons (zx_laldS (o := 11) (zx_path (o := 10) (o2 := 11) (k := 3) (zx_this (o := 10) dX0_unitBy_1 rfl rfl (by decide) (by decide)) rfl (by decide) rfl rfl (by decide) inC_X0 (List.mem_cons_of_mem _ zw_101) rfl rfl rfl dX0_unitBy_2) (zx_iadd (zx_imul (zx_iload_n dX0_unitBy_5 rfl (by decide)) (zx_bipush dX0_unitBy_6 rfl ⟨by decide, by decide⟩) dX0_unitBy_8) (zx_iload_n dX0_unitBy_9 rfl (by decide)) dX0_unitBy_10) (zp_a (by decide)) rfl rfl dX0_unitBy_11) rfl (za_cons (zx_ialdS (o := 8) (zx_path (o := 6) (o2 := 8) (k := 2) (zx_path (o := 10) (o2 := 6) (k := 1) (zx_this (o := 10) dX0_unitBy_12 rfl rfl (by decide) (by decide)) rfl (by decide) rfl rfl (by decide) inC_X0 (List.mem_cons_of_mem _ zw_98) rfl rfl rfl dX0_unitBy_13) rfl (by decide) rfl rfl (by decide) inC_X1 (List.mem_cons_of_mem _ zw_77) rfl rfl rfl dX0_unitBy_16) (zx_iload_n dX0_unitBy_19 rfl (by decide)) (zp_a (by decide)) rfl rfl dX0_unitBy_20) rfl (za_cons (zx_iload_n dX0_unitBy_21 rfl (by decide)) rfl (za_cons (zx_iload_n dX0_unitBy_22 rfl (by decide)) rfl (za_nil)))))) k_X0_blown zf_0 (by decide) (by decide) (by decide) rfl rfl (zGV zw_329 zw_331 zw_2 zw_11 zw_332) rfl hyV_X0_blown ⟨Nat.le_of_ble_eq_true rfl, Nat.le_of_ble_eq_true rfl⟩ (by decide) dX0_unitBy_23) rfl (by decide) dX0_unitBy_26
theorem k_X0_unitBy : zCon yX0_unitBy wz_X0_unitBy [] [] (none) 3 75 [20, 0, 0, 0] 1 (m_X0_unitBy) := zMk (own := RX0) (cc := cX0_unitBy) (b := 0) (Γ2 := []) (X := zX0) (by decide +kernel) rfl rfl (by decide) (Or.inr (Or.inl ⟨rfl, rfl⟩)) zex_0 (fun P cp ns hh => s_X0_unitBy ns cp P)
theorem e_X0_unitBy (x0 x1 x2 x3 : Int) (σ : zHp) : m_X0_unitBy [x0, x1, x2, x3] σ = (d_X0_unitBy [x0, x1, x2, x3] σ).bind fun q => if q.1 = 1 then some (zg q.2.1 0, q.2.2) else none := rfl
abbrev wz_X0_blow : List Cond := Cond.code yX0_blow cX0_blow 4 none :: zG
def lc_X0_blow_1 : zC := cR r_lt (xL 3) (xG 1 2)
def lf_X0_blow_1 : zS := sE 12 180 (xB o_iadd (xB o_imul (xL 2) (xC 30)) (xL 3)) (xK m_X0_unitBy (aC (xC 10) (aC (xL 2) (aC (xL 3) (aC (xL 1) (aN))))))
def ls_X0_blow_1 : zS := sS 3 (xB o_iadd (xL 3) (xC 1))
def lc_X0_blow_2 : zC := cR r_lt (xL 2) (xG 6 0)
def lf_X0_blow_2 : zS := sD [3] (sQ (sS 3 (xC 0)) (sW lc_X0_blow_1 lf_X0_blow_1 ls_X0_blow_1))
def ls_X0_blow_2 : zS := sS 2 (xB o_iadd (xL 2) (xC 1))
def d_X0_blow : zS := sQ (sQ (sD [2] (sQ (sS 2 (xC 0)) (sW lc_X0_blow_2 lf_X0_blow_2 ls_X0_blow_2))) (sG 10 5 (xB o_lmul (xB o_lmul (xG 10 2) (xC 59579996636160)) (xK m_X0_strength (aC (xL 1) (aN)))))) sV
def m_X0_blow : List Int → zHp → Option (Int × zHp) := zRun 4 [20, 0] d_X0_blow
set_option maxRecDepth 100000 in
set_option maxHeartbeats 4000000 in
theorem s_X0_blow (ns : List Nat) (cp : Int) (P : Int → zHp → Prop) : zSt (RX0, cX0_blow, 4, wz_X0_blow, 4, 98, none, 9, ns, ns, cp, P) [(0, 20), (1, 0)] 0 0 [] zX0 (d_X0_blow) := zs_seq (zs_seq (zs_blk (Γ2 := [(0, 20), (1, 0)]) (Γ3 := [(0, 20), (1, 0), (2, 0)]) (ks := [2]) (zs_seq (zs_istore_n (Γ2 := [(0, 20), (1, 0), (2, 0)]) (zx_iconst dX0_blow_0 rfl ⟨by decide, by decide⟩) dX0_blow_1 rfl (Nat.le_of_ble_eq_true rfl) (by decide)) (zs_loop (Γ := [(0, 20), (1, 0), (2, 0)]) (zc_icmpN_lt (zx_iload_n dX0_blow_2 rfl (by decide)) (zx_fldS (o := 6) (k := 0) (zx_path (o := 10) (o2 := 6) (k := 1) (zx_this (o := 10) dX0_blow_3 rfl rfl (by decide) (by decide)) rfl (by decide) rfl rfl (by decide) inC_X0 (List.mem_cons_of_mem _ zw_98) rfl rfl rfl dX0_blow_4) rfl rfl (by decide) inC_X1 (List.mem_cons_of_mem _ zw_72) rfl (by decide) rfl dX0_blow_7) dX0_blow_10 (by decide)) (zs_blk (Γ2 := [(0, 20), (1, 0), (2, 0)]) (Γ3 := [(0, 20), (1, 0), (2, 0), (3, 0)]) (ks := [3]) (zs_seq (zs_istore_n (Γ2 := [(0, 20), (1, 0), (2, 0), (3, 0)]) (zx_iconst dX0_blow_13 rfl ⟨by decide, by decide⟩) dX0_blow_14 rfl (Nat.le_of_ble_eq_true rfl) (by decide)) (zs_loop (Γ := [(0, 20), (1, 0), (2, 0), (3, 0)]) (zc_icmpN_lt (zx_iload_n dX0_blow_15 rfl (by decide)) (zx_fldS (o := 1) (k := 2) (zx_path (o := 10) (o2 := 1) (k := 0) (zx_this (o := 10) dX0_blow_16 rfl rfl (by decide) (by decide)) rfl (by decide) rfl rfl (by decide) inC_X0 (List.mem_cons_of_mem _ zw_97) rfl rfl rfl dX0_blow_17) rfl rfl (by decide) inC_X3 (List.mem_cons_of_mem _ zw_38) rfl (by decide) rfl dX0_blow_20) dX0_blow_23 (by decide)) (zs_lastS (o := 12) (zx_path (o := 10) (o2 := 12) (k := 4) (zx_this (o := 10) dX0_blow_26 rfl rfl (by decide) (by decide)) rfl (by decide) rfl rfl (by decide) inC_X0 (List.mem_cons_of_mem _ zw_102) rfl rfl rfl dX0_blow_27) (zx_iadd (zx_imul (zx_iload_n dX0_blow_30 rfl (by decide)) (zx_bipush dX0_blow_31 rfl ⟨by decide, by decide⟩) dX0_blow_33) (zx_iload_n dX0_blow_34 rfl (by decide)) dX0_blow_35) (zx_callV (za_cons (zx_this (o := 10) dX0_blow_36 rfl rfl (by decide) (by decide)) rfl (za_cons (zx_iload_n dX0_blow_37 rfl (by decide)) rfl (za_cons (zx_iload_n dX0_blow_38 rfl (by decide)) rfl (za_cons (zx_iload_n dX0_blow_39 rfl (by decide)) rfl (za_nil))))) k_X0_unitBy zf_0 (by decide) (by decide) (by decide) rfl rfl (zGV zw_363 zw_326 zw_327 zw_11 zw_328) rfl hyV_X0_unitBy ⟨Nat.le_of_ble_eq_true rfl, Nat.le_of_ble_eq_true rfl⟩ (by decide) dX0_blow_40) (zp_a (by decide)) rfl rfl dX0_blow_43) (zs_goto (zs_iinc (Γ2 := [(0, 20), (1, 0), (2, 0), (3, 0)]) dX0_blow_44 (by decide) (Nat.le_of_ble_eq_true rfl) (by decide)) dX0_blow_47 (by decide)))) (by decide) (by decide) (zY_ok (by decide))) (zs_goto (zs_iinc (Γ2 := [(0, 20), (1, 0), (2, 0)]) dX0_blow_50 (by decide) (Nat.le_of_ble_eq_true rfl) (by decide)) dX0_blow_53 (by decide)))) (by decide) (by decide) zX0_ok) (zs_putS (o := 10) (k := 5) (zx_this (o := 10) dX0_blow_56 rfl rfl (by decide) (by decide)) (zx_lmul (zx_lmul (zx_i2l (zx_fldS (o := 10) (k := 2) (zx_this (o := 10) dX0_blow_57 rfl rfl (by decide) (by decide)) rfl rfl (by decide) inC_X0 (List.mem_cons_of_mem _ zw_100) rfl (by decide) rfl dX0_blow_58) dX0_blow_61) (zx_ldc2 dX0_blow_62 (List.mem_cons_of_mem _ zw_364) rfl ⟨by decide, by decide⟩) dX0_blow_65) (zx_i2l (zx_callS (za_cons (zx_iload_n dX0_blow_66 rfl (by decide)) rfl (za_nil)) k_X0_strength zf_0 (by decide) rfl (zGS zw_337 zw_338 zw_11 zw_339) rfl hyS_X0_strength ⟨Nat.le_of_ble_eq_true rfl, Nat.le_of_ble_eq_true rfl⟩ (by decide) dX0_blow_67) dX0_blow_70) dX0_blow_71) rfl rfl (by decide) inC_X0 (List.mem_cons_of_mem _ zw_103) tyX0_ok nmX0 rfl (tyX0_ok 5 (by decide)) rfl (by decide) rfl dX0_blow_72)) (zs_retv rfl dX0_blow_75)
theorem k_X0_blow : zCon yX0_blow wz_X0_blow [] [] (none) 4 98 [20, 0] 9 (m_X0_blow) := zMk (own := RX0) (cc := cX0_blow) (b := 0) (Γ2 := []) (X := zX0) (by decide +kernel) rfl rfl (by decide) (Or.inr (Or.inr (Or.inr ⟨rfl, rfl⟩))) zex_0 (fun P cp ns hh => s_X0_blow ns cp P)
theorem e_X0_blow (x0 x1 : Int) (σ : zHp) : m_X0_blow [x0, x1] σ = (d_X0_blow [x0, x1, 0, 0] σ).bind fun q => if q.1 = 1 then some (zg q.2.1 0, q.2.2) else none := rfl
abbrev wz_X0_loudness : List Cond := Cond.code yX0_loudness cX0_loudness 3 (some .long) :: zG
def d_X0_loudness : zS := sR (xB o_lmul (xE 9 6 (xL 1)) (xE 12 180 (xB o_iadd (xB o_imul (xL 1) (xC 30)) (xL 2))))
def m_X0_loudness : List Int → zHp → Option (Int × zHp) := zRun 3 [20, 0, 0] d_X0_loudness
set_option maxRecDepth 100000 in
set_option maxHeartbeats 4000000 in
theorem s_X0_loudness (ns : List Nat) (cp : Int) (P : Int → zHp → Prop) : zSt (RX0, cX0_loudness, 3, wz_X0_loudness, 1, 25, none, 1, ns, ns, cp, P) [(0, 20), (1, 0), (2, 0)] 0 0 [] zX0 (d_X0_loudness) := zs_ret (zx_lmul (zx_i2l (zx_ialdS (o := 9) (zx_path (o := 6) (o2 := 9) (k := 3) (zx_path (o := 10) (o2 := 6) (k := 1) (zx_this (o := 10) dX0_loudness_0 rfl rfl (by decide) (by decide)) rfl (by decide) rfl rfl (by decide) inC_X0 (List.mem_cons_of_mem _ zw_98) rfl rfl rfl dX0_loudness_1) rfl (by decide) rfl rfl (by decide) inC_X1 (List.mem_cons_of_mem _ zw_81) rfl rfl rfl dX0_loudness_4) (zx_iload_n dX0_loudness_7 rfl (by decide)) (zp_a (by decide)) rfl rfl dX0_loudness_8) dX0_loudness_9) (zx_laldS (o := 12) (zx_path (o := 10) (o2 := 12) (k := 4) (zx_this (o := 10) dX0_loudness_10 rfl rfl (by decide) (by decide)) rfl (by decide) rfl rfl (by decide) inC_X0 (List.mem_cons_of_mem _ zw_102) rfl rfl rfl dX0_loudness_11) (zx_iadd (zx_imul (zx_iload_n dX0_loudness_14 rfl (by decide)) (zx_bipush dX0_loudness_15 rfl ⟨by decide, by decide⟩) dX0_loudness_17) (zx_iload_n dX0_loudness_18 rfl (by decide)) dX0_loudness_19) (zp_a (by decide)) rfl rfl dX0_loudness_20) dX0_loudness_21) rfl (by decide) dX0_loudness_22
theorem k_X0_loudness : zCon yX0_loudness wz_X0_loudness [] [] (none) 1 25 [20, 0, 0] 1 (m_X0_loudness) := zMk (own := RX0) (cc := cX0_loudness) (b := 0) (Γ2 := []) (X := zX0) (by decide +kernel) rfl rfl (by decide) (Or.inr (Or.inl ⟨rfl, rfl⟩)) zex_0 (fun P cp ns hh => s_X0_loudness ns cp P)
theorem e_X0_loudness (x0 x1 x2 : Int) (σ : zHp) : m_X0_loudness [x0, x1, x2] σ = (d_X0_loudness [x0, x1, x2] σ).bind fun q => if q.1 = 1 then some (zg q.2.1 0, q.2.2) else none := rfl
abbrev wz_X0_loudestIn : List Cond := Cond.code yX0_loudestIn cX0_loudestIn 8 (some .int) :: zG
def lc_X0_loudestIn_1 : zC := cR r_lt (xL 5) (xG 6 0)
def lf_X0_loudestIn_1 : zS := sD [6] (sQ (sS 6 (xK m_X0_loudness (aC (xC 10) (aC (xL 5) (aC (xL 1) (aN)))))) (sI (cR r_gt (xL 6) (xL 2)) (sQ (sS 2 (xL 6)) (sS 4 (xB zShl (xC 1) (xL 5)))) (sI (cR r_eq (xL 6) (xL 2)) (sS 4 (xB zOr (xL 4) (xB zShl (xC 1) (xL 5)))) sK)))
def ls_X0_loudestIn_1 : zS := sS 5 (xB o_iadd (xL 5) (xC 1))
def d_X0_loudestIn : zS := sQ (sS 2 (xG 10 5)) (sQ (sS 4 (xC 0)) (sQ (sD [5] (sQ (sS 5 (xC 0)) (sW lc_X0_loudestIn_1 lf_X0_loudestIn_1 ls_X0_loudestIn_1))) (sR (xL 4))))
def m_X0_loudestIn : List Int → zHp → Option (Int × zHp) := zRun 8 [20, 0] d_X0_loudestIn
set_option maxRecDepth 100000 in
set_option maxHeartbeats 4000000 in
theorem s_X0_loudestIn (ns : List Nat) (cp : Int) (P : Int → zHp → Prop) : zSt (RX0, cX0_loudestIn, 8, wz_X0_loudestIn, 2, 47, none, 0, ns, ns, cp, P) [(0, 20), (1, 0)] 0 0 [] zX0 (d_X0_loudestIn) := zs_seq (zs_lstore_n (Γ2 := [(0, 20), (1, 0), (2, 1)]) (zx_fldS (o := 10) (k := 5) (zx_this (o := 10) dX0_loudestIn_0 rfl rfl (by decide) (by decide)) rfl rfl (by decide) inC_X0 (List.mem_cons_of_mem _ zw_103) rfl (by decide) rfl dX0_loudestIn_1) dX0_loudestIn_4 rfl (Nat.le_of_ble_eq_true rfl) (by decide)) (zs_seq (zs_istore (Γ2 := [(0, 20), (1, 0), (2, 1), (4, 0)]) (zx_iconst dX0_loudestIn_5 rfl ⟨by decide, by decide⟩) dX0_loudestIn_6 (Nat.le_of_ble_eq_true rfl) (by decide)) (zs_seq (zs_blk (Γ2 := [(0, 20), (1, 0), (2, 1), (4, 0)]) (Γ3 := [(0, 20), (1, 0), (2, 1), (4, 0), (5, 0)]) (ks := [5]) (zs_seq (zs_istore (Γ2 := [(0, 20), (1, 0), (2, 1), (4, 0), (5, 0)]) (zx_iconst dX0_loudestIn_8 rfl ⟨by decide, by decide⟩) dX0_loudestIn_9 (Nat.le_of_ble_eq_true rfl) (by decide)) (zs_loop (Γ := [(0, 20), (1, 0), (2, 1), (4, 0), (5, 0)]) (zc_icmpN_lt (zx_iload dX0_loudestIn_11 (by decide)) (zx_fldS (o := 6) (k := 0) (zx_path (o := 10) (o2 := 6) (k := 1) (zx_this (o := 10) dX0_loudestIn_13 rfl rfl (by decide) (by decide)) rfl (by decide) rfl rfl (by decide) inC_X0 (List.mem_cons_of_mem _ zw_98) rfl rfl rfl dX0_loudestIn_14) rfl rfl (by decide) inC_X1 (List.mem_cons_of_mem _ zw_72) rfl (by decide) rfl dX0_loudestIn_17) dX0_loudestIn_20 (by decide)) (zs_blk (Γ2 := [(0, 20), (1, 0), (2, 1), (4, 0), (5, 0)]) (Γ3 := [(0, 20), (1, 0), (2, 1), (4, 0), (5, 0), (6, 1)]) (ks := [6]) (zs_seq (zs_lstore (Γ2 := [(0, 20), (1, 0), (2, 1), (4, 0), (5, 0), (6, 1)]) (zx_callV (za_cons (zx_this (o := 10) dX0_loudestIn_23 rfl rfl (by decide) (by decide)) rfl (za_cons (zx_iload dX0_loudestIn_24 (by decide)) rfl (za_cons (zx_iload_n dX0_loudestIn_26 rfl (by decide)) rfl (za_nil)))) k_X0_loudness zf_0 (by decide) (by decide) (by decide) rfl rfl (zGV zw_369 zw_370 zw_371 zw_11 zw_372) rfl hyV_X0_loudness ⟨Nat.le_of_ble_eq_true rfl, Nat.le_of_ble_eq_true rfl⟩ (by decide) dX0_loudestIn_27) dX0_loudestIn_30 (Nat.le_of_ble_eq_true rfl) (by decide)) (zs_if (zc_lcmpN_gt (zx_lload dX0_loudestIn_32 (by decide)) (zx_lload_n dX0_loudestIn_34 rfl (by decide)) dX0_loudestIn_35 dX0_loudestIn_36 (by decide)) (zs_goto (zs_seq (zs_lstore_n (Γ2 := [(0, 20), (1, 0), (2, 1), (4, 0), (5, 0), (6, 1)]) (zx_lload dX0_loudestIn_39 (by decide)) dX0_loudestIn_41 rfl (Nat.le_of_ble_eq_true rfl) (by decide)) (zs_istore (Γ2 := [(0, 20), (1, 0), (2, 1), (4, 0), (5, 0), (6, 1)]) (zx_ishl (zx_iconst dX0_loudestIn_42 rfl ⟨by decide, by decide⟩) (zx_iload dX0_loudestIn_43 (by decide)) dX0_loudestIn_45) dX0_loudestIn_46 (Nat.le_of_ble_eq_true rfl) (by decide))) dX0_loudestIn_48 (by decide)) (zs_if (zc_lcmpN_eq (zx_lload dX0_loudestIn_51 (by decide)) (zx_lload_n dX0_loudestIn_53 rfl (by decide)) dX0_loudestIn_54 dX0_loudestIn_55 (by decide)) (zs_istore (Γ2 := [(0, 20), (1, 0), (2, 1), (4, 0), (5, 0), (6, 1)]) (zx_ior (zx_iload dX0_loudestIn_58 (by decide)) (zx_ishl (zx_iconst dX0_loudestIn_60 rfl ⟨by decide, by decide⟩) (zx_iload dX0_loudestIn_61 (by decide)) dX0_loudestIn_63) dX0_loudestIn_64) dX0_loudestIn_65 (Nat.le_of_ble_eq_true rfl) (by decide)) zs_skip))) (by decide) (by decide) (zY_ok (by decide))) (zs_goto (zs_iinc (Γ2 := [(0, 20), (1, 0), (2, 1), (4, 0), (5, 0)]) dX0_loudestIn_67 (by decide) (Nat.le_of_ble_eq_true rfl) (by decide)) dX0_loudestIn_70 (by decide)))) (by decide) (by decide) zX0_ok) (zs_ret (zx_iload dX0_loudestIn_73 (by decide)) rfl (by decide) dX0_loudestIn_75)))
theorem k_X0_loudestIn : zCon yX0_loudestIn wz_X0_loudestIn [] [] (none) 2 47 [20, 0] 0 (m_X0_loudestIn) := zMk (own := RX0) (cc := cX0_loudestIn) (b := 0) (Γ2 := []) (X := zX0) (by decide +kernel) rfl rfl (by decide) (Or.inl ⟨rfl, rfl⟩) zex_0 (fun P cp ns hh => s_X0_loudestIn ns cp P)
theorem e_X0_loudestIn (x0 x1 : Int) (σ : zHp) : m_X0_loudestIn [x0, x1] σ = (d_X0_loudestIn [x0, x1, 0, 0, 0, 0, 0, 0] σ).bind fun q => if q.1 = 1 then some (zg q.2.1 0, q.2.2) else none := rfl
abbrev wz_X0_bar : List Cond := Cond.code yX0_bar cX0_bar 8 (some .long) :: zG
def lc_X0_bar_1 : zC := cR r_lt (xL 7) (xG 6 0)
def lf_X0_bar_1 : zS := sI (cA (cR r_ne (xL 7) (xL 3)) (cR r_ne (xL 7) (xL 4))) (sS 5 (xB o_maxl (xL 5) (xB o_lmul (xA (xL 1) 6 (xL 7)) (xE 12 180 (xB o_iadd (xB o_imul (xL 7) (xC 30)) (xL 2)))))) sK
def ls_X0_bar_1 : zS := sS 7 (xB o_iadd (xL 7) (xC 1))
def d_X0_bar : zS := sQ (sS 5 (xB o_maxl (xC 0) (xB o_lsub (xG 10 5) (xC 1)))) (sQ (sD [7] (sQ (sS 7 (xC 0)) (sW lc_X0_bar_1 lf_X0_bar_1 ls_X0_bar_1))) (sR (xL 5)))
def m_X0_bar : List Int → zHp → Option (Int × zHp) := zRun 8 [20, 7, 0, 0, 0] d_X0_bar
set_option maxRecDepth 100000 in
set_option maxHeartbeats 4000000 in
theorem s_X0_bar (ns : List Nat) (cp : Int) (P : Int → zHp → Prop) : zSt (RX0, cX0_bar, 8, wz_X0_bar, 1, 25, none, 1, ns, ns, cp, P) [(0, 20), (1, 7), (2, 0), (3, 0), (4, 0)] 0 0 [] zX0 (d_X0_bar) := zs_seq (zs_lstore (Γ2 := [(0, 20), (1, 7), (2, 0), (3, 0), (4, 0), (5, 1)]) (zx_maxl (zx_lconst dX0_bar_0 rfl ⟨by decide, by decide⟩) (zx_lsub (zx_fldS (o := 10) (k := 5) (zx_this (o := 10) dX0_bar_1 rfl rfl (by decide) (by decide)) rfl rfl (by decide) inC_X0 (List.mem_cons_of_mem _ zw_103) rfl (by decide) rfl dX0_bar_2) (zx_lconst dX0_bar_5 rfl ⟨by decide, by decide⟩) dX0_bar_6) (List.mem_cons_of_mem _ zw_408) (List.mem_cons_of_mem _ zw_353) (List.mem_cons_of_mem _ zw_18) (List.mem_cons_of_mem _ zw_354) (Nat.le_of_ble_eq_true rfl) (Nat.le_of_ble_eq_true rfl) dX0_bar_7) dX0_bar_10 (Nat.le_of_ble_eq_true rfl) (by decide)) (zs_seq (zs_blk (Γ2 := [(0, 20), (1, 7), (2, 0), (3, 0), (4, 0), (5, 1)]) (Γ3 := [(0, 20), (1, 7), (2, 0), (3, 0), (4, 0), (5, 1), (7, 0)]) (ks := [7]) (zs_seq (zs_istore (Γ2 := [(0, 20), (1, 7), (2, 0), (3, 0), (4, 0), (5, 1), (7, 0)]) (zx_iconst dX0_bar_12 rfl ⟨by decide, by decide⟩) dX0_bar_13 (Nat.le_of_ble_eq_true rfl) (by decide)) (zs_loop (Γ := [(0, 20), (1, 7), (2, 0), (3, 0), (4, 0), (5, 1), (7, 0)]) (zc_icmpN_lt (zx_iload dX0_bar_15 (by decide)) (zx_fldS (o := 6) (k := 0) (zx_path (o := 10) (o2 := 6) (k := 1) (zx_this (o := 10) dX0_bar_17 rfl rfl (by decide) (by decide)) rfl (by decide) rfl rfl (by decide) inC_X0 (List.mem_cons_of_mem _ zw_98) rfl rfl rfl dX0_bar_18) rfl rfl (by decide) inC_X1 (List.mem_cons_of_mem _ zw_72) rfl (by decide) rfl dX0_bar_21) dX0_bar_24 (by decide)) (zs_if (zc_and (zc_icmpN_ne (zx_iload dX0_bar_27 (by decide)) (zx_iload_n dX0_bar_29 rfl (by decide)) dX0_bar_30 (by decide)) (zc_icmpN_ne (zx_iload dX0_bar_33 (by decide)) (zx_iload dX0_bar_35 (by decide)) dX0_bar_37 (by decide))) (zs_lstore (Γ2 := [(0, 20), (1, 7), (2, 0), (3, 0), (4, 0), (5, 1), (7, 0)]) (zx_maxl (zx_lload dX0_bar_40 (by decide)) (zx_lmul (zx_i2l (zx_iald (zx_aload_n (t := 7) dX0_bar_42 rfl (by decide) (by decide)) (zx_iload dX0_bar_43 (by decide)) (by decide) (zp_a (by decide)) rfl rfl dX0_bar_45) dX0_bar_46) (zx_laldS (o := 12) (zx_path (o := 10) (o2 := 12) (k := 4) (zx_this (o := 10) dX0_bar_47 rfl rfl (by decide) (by decide)) rfl (by decide) rfl rfl (by decide) inC_X0 (List.mem_cons_of_mem _ zw_102) rfl rfl rfl dX0_bar_48) (zx_iadd (zx_imul (zx_iload dX0_bar_51 (by decide)) (zx_bipush dX0_bar_53 rfl ⟨by decide, by decide⟩) dX0_bar_55) (zx_iload_n dX0_bar_56 rfl (by decide)) dX0_bar_57) (zp_a (by decide)) rfl rfl dX0_bar_58) dX0_bar_59) (List.mem_cons_of_mem _ zw_408) (List.mem_cons_of_mem _ zw_353) (List.mem_cons_of_mem _ zw_18) (List.mem_cons_of_mem _ zw_354) (Nat.le_of_ble_eq_true rfl) (Nat.le_of_ble_eq_true rfl) dX0_bar_60) dX0_bar_63 (Nat.le_of_ble_eq_true rfl) (by decide)) zs_skip) (zs_goto (zs_iinc (Γ2 := [(0, 20), (1, 7), (2, 0), (3, 0), (4, 0), (5, 1), (7, 0)]) dX0_bar_65 (by decide) (Nat.le_of_ble_eq_true rfl) (by decide)) dX0_bar_68 (by decide)))) (by decide) (by decide) zX0_ok) (zs_ret (zx_lload dX0_bar_71 (by decide)) rfl (by decide) dX0_bar_73))
theorem k_X0_bar : zCon yX0_bar wz_X0_bar [] [] (none) 1 25 [20, 7, 0, 0, 0] 1 (m_X0_bar) := zMk (own := RX0) (cc := cX0_bar) (b := 0) (Γ2 := []) (X := zX0) (by decide +kernel) rfl rfl (by decide) (Or.inr (Or.inl ⟨rfl, rfl⟩)) zex_0 (fun P cp ns hh => s_X0_bar ns cp P)
theorem e_X0_bar (x0 x1 x2 x3 x4 : Int) (σ : zHp) : m_X0_bar [x0, x1, x2, x3, x4] σ = (d_X0_bar [x0, x1, x2, x3, x4, 0, 0, 0] σ).bind fun q => if q.1 = 1 then some (zg q.2.1 0, q.2.2) else none := rfl
abbrev wz_X0_leastToOwn : List Cond := Cond.code yX0_leastToOwn cX0_leastToOwn 8 (some .int) :: zG
def lc_X0_leastToOwn_1 : zC := cR r_le (xL 7) (xC 99)
def lf_X0_leastToOwn_1 : zS := sI (cR r_gt (xB o_lmul (xL 7) (xL 5)) (xL 3)) (sR (xL 7)) sK
def ls_X0_leastToOwn_1 : zS := sS 7 (xB o_iadd (xL 7) (xC 1))
def d_X0_leastToOwn : zS := sQ (sS 3 (xK m_X0_bar (aC (xC 10) (aC (xC 9) (aC (xL 2) (aC (xL 1) (aC (xL 1) (aN)))))))) (sQ (sS 5 (xE 12 180 (xB o_iadd (xB o_imul (xL 1) (xC 30)) (xL 2)))) (sQ (sD [7] (sQ (sS 7 (xC 1)) (sW lc_X0_leastToOwn_1 lf_X0_leastToOwn_1 ls_X0_leastToOwn_1))) (sR (xC (-9)))))
def m_X0_leastToOwn : List Int → zHp → Option (Int × zHp) := zRun 8 [20, 0, 0] d_X0_leastToOwn
set_option maxRecDepth 100000 in
set_option maxHeartbeats 4000000 in
theorem s_X0_leastToOwn (ns : List Nat) (cp : Int) (P : Int → zHp → Prop) : zSt (RX0, cX0_leastToOwn, 8, wz_X0_leastToOwn, 2, 52, none, 0, ns, ns, cp, P) [(0, 20), (1, 0), (2, 0)] 0 0 [] zX0 (d_X0_leastToOwn) := zs_seq (zs_lstore_n (Γ2 := [(0, 20), (1, 0), (2, 0), (3, 1)]) (zx_callV (za_cons (zx_this (o := 10) dX0_leastToOwn_0 rfl rfl (by decide) (by decide)) rfl (za_cons (zx_w7 (o := 9) (by decide) (zx_path (o := 6) (o2 := 9) (k := 3) (zx_path (o := 10) (o2 := 6) (k := 1) (zx_this (o := 10) dX0_leastToOwn_1 rfl rfl (by decide) (by decide)) rfl (by decide) rfl rfl (by decide) inC_X0 (List.mem_cons_of_mem _ zw_98) rfl rfl rfl dX0_leastToOwn_2) rfl (by decide) rfl rfl (by decide) inC_X1 (List.mem_cons_of_mem _ zw_81) rfl rfl rfl dX0_leastToOwn_5)) rfl (za_cons (zx_iload_n dX0_leastToOwn_8 rfl (by decide)) rfl (za_cons (zx_iload_n dX0_leastToOwn_9 rfl (by decide)) rfl (za_cons (zx_iload_n dX0_leastToOwn_10 rfl (by decide)) rfl (za_nil)))))) k_X0_bar zf_0 (by decide) (by decide) (by decide) rfl rfl (zGV zw_404 zw_406 zw_4 zw_11 zw_407) rfl hyV_X0_bar ⟨Nat.le_of_ble_eq_true rfl, Nat.le_of_ble_eq_true rfl⟩ (by decide) dX0_leastToOwn_11) dX0_leastToOwn_14 rfl (Nat.le_of_ble_eq_true rfl) (by decide)) (zs_seq (zs_lstore (Γ2 := [(0, 20), (1, 0), (2, 0), (3, 1), (5, 1)]) (zx_laldS (o := 12) (zx_path (o := 10) (o2 := 12) (k := 4) (zx_this (o := 10) dX0_leastToOwn_15 rfl rfl (by decide) (by decide)) rfl (by decide) rfl rfl (by decide) inC_X0 (List.mem_cons_of_mem _ zw_102) rfl rfl rfl dX0_leastToOwn_16) (zx_iadd (zx_imul (zx_iload_n dX0_leastToOwn_19 rfl (by decide)) (zx_bipush dX0_leastToOwn_20 rfl ⟨by decide, by decide⟩) dX0_leastToOwn_22) (zx_iload_n dX0_leastToOwn_23 rfl (by decide)) dX0_leastToOwn_24) (zp_a (by decide)) rfl rfl dX0_leastToOwn_25) dX0_leastToOwn_26 (Nat.le_of_ble_eq_true rfl) (by decide)) (zs_seq (zs_blk (Γ2 := [(0, 20), (1, 0), (2, 0), (3, 1), (5, 1)]) (Γ3 := [(0, 20), (1, 0), (2, 0), (3, 1), (5, 1), (7, 0)]) (ks := [7]) (zs_seq (zs_istore (Γ2 := [(0, 20), (1, 0), (2, 0), (3, 1), (5, 1), (7, 0)]) (zx_iconst dX0_leastToOwn_28 rfl ⟨by decide, by decide⟩) dX0_leastToOwn_29 (Nat.le_of_ble_eq_true rfl) (by decide)) (zs_loop (Γ := [(0, 20), (1, 0), (2, 0), (3, 1), (5, 1), (7, 0)]) (zc_icmpN_le (zx_iload dX0_leastToOwn_31 (by decide)) (zx_bipush dX0_leastToOwn_33 rfl ⟨by decide, by decide⟩) dX0_leastToOwn_35 (by decide)) (zs_if (zc_lcmpN_gt (zx_lmul (zx_i2l (zx_iload dX0_leastToOwn_38 (by decide)) dX0_leastToOwn_40) (zx_lload dX0_leastToOwn_41 (by decide)) dX0_leastToOwn_43) (zx_lload_n dX0_leastToOwn_44 rfl (by decide)) dX0_leastToOwn_45 dX0_leastToOwn_46 (by decide)) (zs_ret (zx_iload dX0_leastToOwn_49 (by decide)) rfl (by decide) dX0_leastToOwn_51) zs_skip) (zs_goto (zs_iinc (Γ2 := [(0, 20), (1, 0), (2, 0), (3, 1), (5, 1), (7, 0)]) dX0_leastToOwn_52 (by decide) (Nat.le_of_ble_eq_true rfl) (by decide)) dX0_leastToOwn_55 (by decide)))) (by decide) (by decide) zX0_ok) (zs_ret (zx_bipush dX0_leastToOwn_58 rfl ⟨by decide, by decide⟩) rfl (by decide) dX0_leastToOwn_60)))
theorem k_X0_leastToOwn : zCon yX0_leastToOwn wz_X0_leastToOwn [] [] (none) 2 52 [20, 0, 0] 0 (m_X0_leastToOwn) := zMk (own := RX0) (cc := cX0_leastToOwn) (b := 0) (Γ2 := []) (X := zX0) (by decide +kernel) rfl rfl (by decide) (Or.inl ⟨rfl, rfl⟩) zex_0 (fun P cp ns hh => s_X0_leastToOwn ns cp P)
theorem e_X0_leastToOwn (x0 x1 x2 : Int) (σ : zHp) : m_X0_leastToOwn [x0, x1, x2] σ = (d_X0_leastToOwn [x0, x1, x2, 0, 0, 0, 0, 0] σ).bind fun q => if q.1 = 1 then some (zg q.2.1 0, q.2.2) else none := rfl
end
section
theorem hyV_X0_blow : yX0_blow.cls = RX0 ∧ yX0_blow.cls ≠ "java/lang/invoke/MethodHandle" ∧ yX0_blow.cls ≠ "java/lang/invoke/VarHandle" ∧ (parseMethodDescriptor yX0_blow.desc).map (fun d => d.parameters.length) = some 1 := by decide +kernel
theorem hyV_X0_carryAll : yX0_carryAll.cls = RX0 ∧ yX0_carryAll.cls ≠ "java/lang/invoke/MethodHandle" ∧ yX0_carryAll.cls ≠ "java/lang/invoke/VarHandle" ∧ (parseMethodDescriptor yX0_carryAll.desc).map (fun d => d.parameters.length) = some 0 := by decide +kernel
theorem hyS_X0_grainsOfOne : yX0_grainsOfOne.cls ≠ "java/lang/invoke/MethodHandle" ∧ yX0_grainsOfOne.cls ≠ "java/lang/invoke/VarHandle" ∧ (parseMethodDescriptor yX0_grainsOfOne.desc).map (fun d => d.parameters.length) = some 1 := by decide +kernel
theorem hyV_X0_leastToOwn : yX0_leastToOwn.cls = RX0 ∧ yX0_leastToOwn.cls ≠ "java/lang/invoke/MethodHandle" ∧ yX0_leastToOwn.cls ≠ "java/lang/invoke/VarHandle" ∧ (parseMethodDescriptor yX0_leastToOwn.desc).map (fun d => d.parameters.length) = some 2 := by decide +kernel
theorem hyV_X0_loudestIn : yX0_loudestIn.cls = RX0 ∧ yX0_loudestIn.cls ≠ "java/lang/invoke/MethodHandle" ∧ yX0_loudestIn.cls ≠ "java/lang/invoke/VarHandle" ∧ (parseMethodDescriptor yX0_loudestIn.desc).map (fun d => d.parameters.length) = some 1 := by decide +kernel
theorem hyV_X1_add : yX1_add.cls = RX1 ∧ yX1_add.cls ≠ "java/lang/invoke/MethodHandle" ∧ yX1_add.cls ≠ "java/lang/invoke/VarHandle" ∧ (parseMethodDescriptor yX1_add.desc).map (fun d => d.parameters.length) = some 3 := by decide +kernel
theorem hyV_X3_firstFault : yX3_firstFault.cls = RX3 ∧ yX3_firstFault.cls ≠ "java/lang/invoke/MethodHandle" ∧ yX3_firstFault.cls ≠ "java/lang/invoke/VarHandle" ∧ (parseMethodDescriptor yX3_firstFault.desc).map (fun d => d.parameters.length) = some 3 := by decide +kernel
theorem hyV_X3_isPlanted : yX3_isPlanted.cls = RX3 ∧ yX3_isPlanted.cls ≠ "java/lang/invoke/MethodHandle" ∧ yX3_isPlanted.cls ≠ "java/lang/invoke/VarHandle" ∧ (parseMethodDescriptor yX3_isPlanted.desc).map (fun d => d.parameters.length) = some 1 := by decide +kernel
theorem hyV_X3_take : yX3_take.cls = RX3 ∧ yX3_take.cls ≠ "java/lang/invoke/MethodHandle" ∧ yX3_take.cls ≠ "java/lang/invoke/VarHandle" ∧ (parseMethodDescriptor yX3_take.desc).map (fun d => d.parameters.length) = some 2 := by decide +kernel
theorem hyV_X3_titheOf : yX3_titheOf.cls = RX3 ∧ yX3_titheOf.cls ≠ "java/lang/invoke/MethodHandle" ∧ yX3_titheOf.cls ≠ "java/lang/invoke/VarHandle" ∧ (parseMethodDescriptor yX3_titheOf.desc).map (fun d => d.parameters.length) = some 1 := by decide +kernel
theorem hyV_X6_cut : yX6_cut.cls = RX6 ∧ yX6_cut.cls ≠ "java/lang/invoke/MethodHandle" ∧ yX6_cut.cls ≠ "java/lang/invoke/VarHandle" ∧ (parseMethodDescriptor yX6_cut.desc).map (fun d => d.parameters.length) = some 1 := by decide +kernel
theorem hyV_X6_faultOfRow : yX6_faultOfRow.cls = RX6 ∧ yX6_faultOfRow.cls ≠ "java/lang/invoke/MethodHandle" ∧ yX6_faultOfRow.cls ≠ "java/lang/invoke/VarHandle" ∧ (parseMethodDescriptor yX6_faultOfRow.desc).map (fun d => d.parameters.length) = some 3 := by decide +kernel
theorem hyV_X6_hasNumber : yX6_hasNumber.cls = RX6 ∧ yX6_hasNumber.cls ≠ "java/lang/invoke/MethodHandle" ∧ yX6_hasNumber.cls ≠ "java/lang/invoke/VarHandle" ∧ (parseMethodDescriptor yX6_hasNumber.desc).map (fun d => d.parameters.length) = some 1 := by decide +kernel
theorem hyV_X6_renew : yX6_renew.cls = RX6 ∧ yX6_renew.cls ≠ "java/lang/invoke/MethodHandle" ∧ yX6_renew.cls ≠ "java/lang/invoke/VarHandle" ∧ (parseMethodDescriptor yX6_renew.desc).map (fun d => d.parameters.length) = some 2 := by decide +kernel
theorem hyV_X8_faulty : yX8_faulty.cls = RX8 ∧ yX8_faulty.cls ≠ "java/lang/invoke/MethodHandle" ∧ yX8_faulty.cls ≠ "java/lang/invoke/VarHandle" ∧ (parseMethodDescriptor yX8_faulty.desc).map (fun d => d.parameters.length) = some 1 := by decide +kernel
theorem hyS_X8_greatestCommon : yX8_greatestCommon.cls ≠ "java/lang/invoke/MethodHandle" ∧ yX8_greatestCommon.cls ≠ "java/lang/invoke/VarHandle" ∧ (parseMethodDescriptor yX8_greatestCommon.desc).map (fun d => d.parameters.length) = some 2 := by decide +kernel
theorem hyV_X8_isBell : yX8_isBell.cls = RX8 ∧ yX8_isBell.cls ≠ "java/lang/invoke/MethodHandle" ∧ yX8_isBell.cls ≠ "java/lang/invoke/VarHandle" ∧ (parseMethodDescriptor yX8_isBell.desc).map (fun d => d.parameters.length) = some 1 := by decide +kernel
theorem hyV_X8_isCell : yX8_isCell.cls = RX8 ∧ yX8_isCell.cls ≠ "java/lang/invoke/MethodHandle" ∧ yX8_isCell.cls ≠ "java/lang/invoke/VarHandle" ∧ (parseMethodDescriptor yX8_isCell.desc).map (fun d => d.parameters.length) = some 1 := by decide +kernel
theorem hyS_X8_isKind : yX8_isKind.cls ≠ "java/lang/invoke/MethodHandle" ∧ yX8_isKind.cls ≠ "java/lang/invoke/VarHandle" ∧ (parseMethodDescriptor yX8_isKind.desc).map (fun d => d.parameters.length) = some 1 := by decide +kernel
theorem hyS_X8_isOneOfTwo : yX8_isOneOfTwo.cls ≠ "java/lang/invoke/MethodHandle" ∧ yX8_isOneOfTwo.cls ≠ "java/lang/invoke/VarHandle" ∧ (parseMethodDescriptor yX8_isOneOfTwo.desc).map (fun d => d.parameters.length) = some 1 := by decide +kernel
theorem hyS_X8_isSheet : yX8_isSheet.cls ≠ "java/lang/invoke/MethodHandle" ∧ yX8_isSheet.cls ≠ "java/lang/invoke/VarHandle" ∧ (parseMethodDescriptor yX8_isSheet.desc).map (fun d => d.parameters.length) = some 1 := by decide +kernel
theorem hyS_X8_isSort : yX8_isSort.cls ≠ "java/lang/invoke/MethodHandle" ∧ yX8_isSort.cls ≠ "java/lang/invoke/VarHandle" ∧ (parseMethodDescriptor yX8_isSort.desc).map (fun d => d.parameters.length) = some 1 := by decide +kernel
theorem hyS_X8_isWeight : yX8_isWeight.cls ≠ "java/lang/invoke/MethodHandle" ∧ yX8_isWeight.cls ≠ "java/lang/invoke/VarHandle" ∧ (parseMethodDescriptor yX8_isWeight.desc).map (fun d => d.parameters.length) = some 1 := by decide +kernel
theorem hyS_X8_isWind : yX8_isWind.cls ≠ "java/lang/invoke/MethodHandle" ∧ yX8_isWind.cls ≠ "java/lang/invoke/VarHandle" ∧ (parseMethodDescriptor yX8_isWind.desc).map (fun d => d.parameters.length) = some 1 := by decide +kernel
theorem hyV_X8_partsOfTithe : yX8_partsOfTithe.cls = RX8 ∧ yX8_partsOfTithe.cls ≠ "java/lang/invoke/MethodHandle" ∧ yX8_partsOfTithe.cls ≠ "java/lang/invoke/VarHandle" ∧ (parseMethodDescriptor yX8_partsOfTithe.desc).map (fun d => d.parameters.length) = some 1 := by decide +kernel
theorem hyS_X8_share : yX8_share.cls ≠ "java/lang/invoke/MethodHandle" ∧ yX8_share.cls ≠ "java/lang/invoke/VarHandle" ∧ (parseMethodDescriptor yX8_share.desc).map (fun d => d.parameters.length) = some 3 := by decide +kernel
abbrev wz_X8_isSheet : List Cond := Cond.code yX8_isSheet cX8_isSheet 1 (some .boolean) :: zG
def d_X8_isSheet : zS := sR (xZ (cA (cV (fun x => r_ge x 0) (xL 0)) (cR r_lt (xL 0) (xC 4))))
def m_X8_isSheet : List Int → zHp → Option (Int × zHp) := zRun 1 [0] d_X8_isSheet
set_option maxRecDepth 100000 in
set_option maxHeartbeats 4000000 in
theorem s_X8_isSheet (ns : List Nat) (cp : Int) (P : Int → zHp → Prop) : zSt (RX8, cX8_isSheet, 1, wz_X8_isSheet, 1, 25, none, 4, ns, ns, cp, P) [(0, 0)] 0 0 [] zX0 (d_X8_isSheet) := zs_ret (zx_z (zc_and (zc_ifN_ge (zx_iload_n dX8_isSheet_0 rfl (by decide)) dX8_isSheet_1 (by decide)) (zc_icmpN_lt (zx_iload_n dX8_isSheet_4 rfl (by decide)) (zx_iconst dX8_isSheet_5 rfl ⟨by decide, by decide⟩) dX8_isSheet_6 (by decide))) dX8_isSheet_9 dX8_isSheet_10 (by decide) dX8_isSheet_13 rfl) rfl (by decide) dX8_isSheet_14
theorem k_X8_isSheet : zCon yX8_isSheet wz_X8_isSheet [] [] (none) 1 25 [0] 4 (m_X8_isSheet) := zMk (own := RX8) (cc := cX8_isSheet) (b := 0) (Γ2 := []) (X := zX0) (by decide +kernel) rfl rfl (by decide) (Or.inr (Or.inr (Or.inl ⟨rfl, rfl⟩))) zex_0 (fun P cp ns hh => s_X8_isSheet ns cp P)
theorem e_X8_isSheet (x0 : Int) (σ : zHp) : m_X8_isSheet [x0] σ = (d_X8_isSheet [x0] σ).bind fun q => if q.1 = 1 then some (zg q.2.1 0, q.2.2) else none := rfl
abbrev wz_X8_isSort : List Cond := Cond.code yX8_isSort cX8_isSort 1 (some .boolean) :: zG
def d_X8_isSort : zS := sR (xZ (cA (cV (fun x => r_ge x 0) (xL 0)) (cR r_le (xL 0) (xC 2))))
def m_X8_isSort : List Int → zHp → Option (Int × zHp) := zRun 1 [0] d_X8_isSort
set_option maxRecDepth 100000 in
set_option maxHeartbeats 4000000 in
theorem s_X8_isSort (ns : List Nat) (cp : Int) (P : Int → zHp → Prop) : zSt (RX8, cX8_isSort, 1, wz_X8_isSort, 1, 25, none, 4, ns, ns, cp, P) [(0, 0)] 0 0 [] zX0 (d_X8_isSort) := zs_ret (zx_z (zc_and (zc_ifN_ge (zx_iload_n dX8_isSort_0 rfl (by decide)) dX8_isSort_1 (by decide)) (zc_icmpN_le (zx_iload_n dX8_isSort_4 rfl (by decide)) (zx_iconst dX8_isSort_5 rfl ⟨by decide, by decide⟩) dX8_isSort_6 (by decide))) dX8_isSort_9 dX8_isSort_10 (by decide) dX8_isSort_13 rfl) rfl (by decide) dX8_isSort_14
theorem k_X8_isSort : zCon yX8_isSort wz_X8_isSort [] [] (none) 1 25 [0] 4 (m_X8_isSort) := zMk (own := RX8) (cc := cX8_isSort) (b := 0) (Γ2 := []) (X := zX0) (by decide +kernel) rfl rfl (by decide) (Or.inr (Or.inr (Or.inl ⟨rfl, rfl⟩))) zex_0 (fun P cp ns hh => s_X8_isSort ns cp P)
theorem e_X8_isSort (x0 : Int) (σ : zHp) : m_X8_isSort [x0] σ = (d_X8_isSort [x0] σ).bind fun q => if q.1 = 1 then some (zg q.2.1 0, q.2.2) else none := rfl
abbrev wz_X8_land : List Cond := Cond.code yX8_land cX8_land 7 (some .int) :: zG
def d_X8_land : zS := sQ (sG 0 8 (xC 0)) (sQ (sI (cN (cV rb (xK m_X8_isSheet (aC (xL 1) (aN))))) (sR (xC (-1))) sK) (sQ (sI (cN (cV rb (xK m_X8_isSort (aC (xL 2) (aN))))) (sR (xC (-2))) sK) (sQ (sS 5 (xH (xL 1))) (sQ (sG 0 8 (xK m_X6_faultOfRow (aC (xL 5) (aC (xL 2) (aC (xL 3) (aC (xL 4) (aN))))))) (sQ (sI (cV (fun x => r_ne x 0) (xG 0 8)) (sR (xB o_isub (xC (-10)) (xG 0 8))) sK) (sQ (sS 6 (xK m_X3_firstFault (aC (xC 1) (aC (xU (fun x => x + 1) (xL 5)) (aC (xL 3) (aC (xL 4) (aN))))))) (sQ (sI (cR r_ne (xL 6) (xC (-9))) (sR (xB o_isub (xC (-100)) (xL 6))) sK) (sQ (sX (xK m_X3_take (aC (xC 1) (aC (xU (fun x => x + 1) (xL 5)) (aC (xL 3) (aN)))))) (sQ (sG 6 0 (xC 0)) (sQ (sG 14 2 (xC 0)) (sQ (sG 10 2 (xC 10)) (sR (xG 1 2)))))))))))))
def m_X8_land : List Int → zHp → Option (Int × zHp) := zRun 7 [10, 0, 0, 0, 0] d_X8_land
set_option maxRecDepth 100000 in
set_option maxHeartbeats 4000000 in
theorem s_X8_land (ns : List Nat) (cp : Int) (P : Int → zHp → Prop) : zSt (RX8, cX8_land, 7, wz_X8_land, 3, 74, none, 0, ns, ns, cp, P) [(0, 10), (1, 0), (2, 0), (3, 0), (4, 0)] 0 0 [] zX0 (d_X8_land) := zs_seq (zs_putS (o := 0) (k := 8) (zx_this (o := 0) dX8_land_0 rfl rfl (by decide) (by decide)) (zx_iconst dX8_land_1 rfl ⟨by decide, by decide⟩) rfl rfl (by decide) inC_X8 (List.mem_cons_of_mem _ zw_247) tyX8_ok nmX8 rfl (tyX8_ok 8 (by decide)) rfl (by decide) rfl dX8_land_2) (zs_seq (zs_if (zc_not (zc_b (zx_sub (zx_callS (za_cons (zx_iload_n dX8_land_5 rfl (by decide)) rfl (za_nil)) k_X8_isSheet zf_0 (by decide) rfl (zGS zw_273 zw_274 zw_8 zw_275) rfl hyS_X8_isSheet ⟨Nat.le_of_ble_eq_true rfl, Nat.le_of_ble_eq_true rfl⟩ (by decide) dX8_land_6)) dX8_land_9 (by decide))) (zs_ret (zx_iconst dX8_land_12 rfl ⟨by decide, by decide⟩) rfl (by decide) dX8_land_13) zs_skip) (zs_seq (zs_if (zc_not (zc_b (zx_sub (zx_callS (za_cons (zx_iload_n dX8_land_14 rfl (by decide)) rfl (za_nil)) k_X8_isSort zf_0 (by decide) rfl (zGS zw_276 zw_277 zw_8 zw_278) rfl hyS_X8_isSort ⟨Nat.le_of_ble_eq_true rfl, Nat.le_of_ble_eq_true rfl⟩ (by decide) dX8_land_15)) dX8_land_18 (by decide))) (zs_ret (zx_bipush dX8_land_21 rfl ⟨by decide, by decide⟩) rfl (by decide) dX8_land_23) zs_skip) (zs_seq (zs_astore (Γ2 := [(0, 10), (1, 0), (2, 0), (3, 0), (4, 0), (5, 5)]) (zx_aald (zx_path (o := 0) (o2 := 28) (k := 7) (zx_this (o := 0) dX8_land_24 rfl rfl (by decide) (by decide)) rfl (by decide) rfl rfl (by decide) inC_X8 (List.mem_cons_of_mem _ zw_246) rfl rfl rfl dX8_land_25) (zx_iload_n dX8_land_28 rfl (by decide)) dX8_land_29) (by decide) dX8_land_30 (Nat.le_of_ble_eq_true rfl) (by decide)) (zs_seq (zs_putS (o := 0) (k := 8) (zx_this (o := 0) dX8_land_32 rfl rfl (by decide) (by decide)) (zx_callV (za_cons (zx_aload (t := 5) dX8_land_33 (by decide) (by decide)) rfl (za_cons (zx_iload_n dX8_land_35 rfl (by decide)) rfl (za_cons (zx_iload_n dX8_land_36 rfl (by decide)) rfl (za_cons (zx_iload dX8_land_37 (by decide)) rfl (za_nil))))) k_X6_faultOfRow zf_0 (by decide) (by decide) (by decide) rfl rfl (zGV zw_279 zw_280 zw_281 zw_16 zw_282) rfl hyV_X6_faultOfRow ⟨Nat.le_of_ble_eq_true rfl, Nat.le_of_ble_eq_true rfl⟩ (by decide) dX8_land_39) rfl rfl (by decide) inC_X8 (List.mem_cons_of_mem _ zw_247) tyX8_ok nmX8 rfl (tyX8_ok 8 (by decide)) rfl (by decide) rfl dX8_land_42) (zs_seq (zs_if (zc_ifN_ne (zx_fldS (o := 0) (k := 8) (zx_this (o := 0) dX8_land_45 rfl rfl (by decide) (by decide)) rfl rfl (by decide) inC_X8 (List.mem_cons_of_mem _ zw_247) rfl (by decide) rfl dX8_land_46) dX8_land_49 (by decide)) (zs_ret (zx_isub (zx_bipush dX8_land_52 rfl ⟨by decide, by decide⟩) (zx_fldS (o := 0) (k := 8) (zx_this (o := 0) dX8_land_54 rfl rfl (by decide) (by decide)) rfl rfl (by decide) inC_X8 (List.mem_cons_of_mem _ zw_247) rfl (by decide) rfl dX8_land_55) dX8_land_58) rfl (by decide) dX8_land_59) zs_skip) (zs_seq (zs_istore (Γ2 := [(0, 10), (1, 0), (2, 0), (3, 0), (4, 0), (5, 5), (6, 0)]) (zx_callV (za_cons (zx_path (o := 0) (o2 := 1) (k := 0) (zx_this (o := 0) dX8_land_60 rfl rfl (by decide) (by decide)) rfl (by decide) rfl rfl (by decide) inC_X8 (List.mem_cons_of_mem _ zw_239) rfl rfl rfl dX8_land_61) rfl (za_cons (zx_num (zx_aload (t := 5) dX8_land_64 (by decide) (by decide)) inC_X6 (List.mem_cons_of_mem _ zw_225) dX8_land_66) rfl (za_cons (zx_iload_n dX8_land_69 rfl (by decide)) rfl (za_cons (zx_iload dX8_land_70 (by decide)) rfl (za_nil))))) k_X3_firstFault zf_0 (by decide) (by decide) (by decide) rfl rfl (zGV zw_291 zw_292 zw_293 zw_9 zw_294) rfl hyV_X3_firstFault ⟨Nat.le_of_ble_eq_true rfl, Nat.le_of_ble_eq_true rfl⟩ (by decide) dX8_land_72) dX8_land_75 (Nat.le_of_ble_eq_true rfl) (by decide)) (zs_seq (zs_if (zc_icmpN_ne (zx_iload dX8_land_77 (by decide)) (zx_bipush dX8_land_79 rfl ⟨by decide, by decide⟩) dX8_land_81 (by decide)) (zs_ret (zx_isub (zx_bipush dX8_land_84 rfl ⟨by decide, by decide⟩) (zx_iload dX8_land_86 (by decide)) dX8_land_88) rfl (by decide) dX8_land_89) zs_skip) (zs_seq (zs_callV (za_cons (zx_path (o := 0) (o2 := 1) (k := 0) (zx_this (o := 0) dX8_land_90 rfl rfl (by decide) (by decide)) rfl (by decide) rfl rfl (by decide) inC_X8 (List.mem_cons_of_mem _ zw_239) rfl rfl rfl dX8_land_91) rfl (za_cons (zx_num (zx_aload (t := 5) dX8_land_94 (by decide) (by decide)) inC_X6 (List.mem_cons_of_mem _ zw_225) dX8_land_96) rfl (za_cons (zx_iload_n dX8_land_99 rfl (by decide)) rfl (za_nil)))) k_X3_take zf_0 (by decide) (by decide) rfl rfl (zGV zw_295 zw_296 zw_297 zw_9 zw_298) rfl hyV_X3_take ⟨Nat.le_of_ble_eq_true rfl, Nat.le_of_ble_eq_true rfl⟩ dX8_land_100) (zs_seq (zs_putS (o := 6) (k := 0) (zx_path (o := 0) (o2 := 6) (k := 1) (zx_this (o := 0) dX8_land_103 rfl rfl (by decide) (by decide)) rfl (by decide) rfl rfl (by decide) inC_X8 (List.mem_cons_of_mem _ zw_240) rfl rfl rfl dX8_land_104) (zx_iconst dX8_land_107 rfl ⟨by decide, by decide⟩) rfl rfl (by decide) inC_X1 (List.mem_cons_of_mem _ zw_71) tyX1_ok nmX1 rfl (tyX1_ok 0 (by decide)) rfl (by decide) rfl dX8_land_108) (zs_seq (zs_putS (o := 14) (k := 2) (zx_path (o := 0) (o2 := 14) (k := 3) (zx_this (o := 0) dX8_land_111 rfl rfl (by decide) (by decide)) rfl (by decide) rfl rfl (by decide) inC_X8 (List.mem_cons_of_mem _ zw_242) rfl rfl rfl dX8_land_112) (zx_iconst dX8_land_115 rfl ⟨by decide, by decide⟩) rfl rfl (by decide) inC_X4 (List.mem_cons_of_mem _ zw_129) tyX4_ok nmX4 rfl (tyX4_ok 2 (by decide)) rfl (by decide) rfl dX8_land_116) (zs_seq (zs_putS (o := 10) (k := 2) (zx_path (o := 0) (o2 := 10) (k := 2) (zx_this (o := 0) dX8_land_119 rfl rfl (by decide) (by decide)) rfl (by decide) rfl rfl (by decide) inC_X8 (List.mem_cons_of_mem _ zw_241) rfl rfl rfl dX8_land_120) (zx_bipush dX8_land_123 rfl ⟨by decide, by decide⟩) rfl rfl (by decide) inC_X0 (List.mem_cons_of_mem _ zw_99) tyX0_ok nmX0 rfl (tyX0_ok 2 (by decide)) rfl (by decide) rfl dX8_land_125) (zs_ret (zx_fldS (o := 1) (k := 2) (zx_path (o := 0) (o2 := 1) (k := 0) (zx_this (o := 0) dX8_land_128 rfl rfl (by decide) (by decide)) rfl (by decide) rfl rfl (by decide) inC_X8 (List.mem_cons_of_mem _ zw_239) rfl rfl rfl dX8_land_129) rfl rfl (by decide) inC_X3 (List.mem_cons_of_mem _ zw_36) rfl (by decide) rfl dX8_land_132) rfl (by decide) dX8_land_135))))))))))))
theorem k_X8_land : zCon yX8_land wz_X8_land [] [] (none) 3 74 [10, 0, 0, 0, 0] 0 (m_X8_land) := zMk (own := RX8) (cc := cX8_land) (b := 0) (Γ2 := []) (X := zX0) (by decide +kernel) rfl rfl (by decide) (Or.inl ⟨rfl, rfl⟩) zex_0 (fun P cp ns hh => s_X8_land ns cp P)
theorem e_X8_land (x0 x1 x2 x3 x4 : Int) (σ : zHp) : m_X8_land [x0, x1, x2, x3, x4] σ = (d_X8_land [x0, x1, x2, x3, x4, 0, 0] σ).bind fun q => if q.1 = 1 then some (zg q.2.1 0, q.2.2) else none := rfl
abbrev wz_X8_isCell : List Cond := Cond.code yX8_isCell cX8_isCell 2 (some .boolean) :: zG
def d_X8_isCell : zS := sR (xZ (cA (cV (fun x => r_ge x 0) (xL 1)) (cR r_lt (xL 1) (xG 1 2))))
def m_X8_isCell : List Int → zHp → Option (Int × zHp) := zRun 2 [10, 0] d_X8_isCell
set_option maxRecDepth 100000 in
set_option maxHeartbeats 4000000 in
theorem s_X8_isCell (ns : List Nat) (cp : Int) (P : Int → zHp → Prop) : zSt (RX8, cX8_isCell, 2, wz_X8_isCell, 1, 25, none, 4, ns, ns, cp, P) [(0, 10), (1, 0)] 0 0 [] zX0 (d_X8_isCell) := zs_ret (zx_z (zc_and (zc_ifN_ge (zx_iload_n dX8_isCell_0 rfl (by decide)) dX8_isCell_1 (by decide)) (zc_icmpN_lt (zx_iload_n dX8_isCell_4 rfl (by decide)) (zx_fldS (o := 1) (k := 2) (zx_path (o := 0) (o2 := 1) (k := 0) (zx_this (o := 0) dX8_isCell_5 rfl rfl (by decide) (by decide)) rfl (by decide) rfl rfl (by decide) inC_X8 (List.mem_cons_of_mem _ zw_239) rfl rfl rfl dX8_isCell_6) rfl rfl (by decide) inC_X3 (List.mem_cons_of_mem _ zw_36) rfl (by decide) rfl dX8_isCell_9) dX8_isCell_12 (by decide))) dX8_isCell_15 dX8_isCell_16 (by decide) dX8_isCell_19 rfl) rfl (by decide) dX8_isCell_20
theorem k_X8_isCell : zCon yX8_isCell wz_X8_isCell [] [] (none) 1 25 [10, 0] 4 (m_X8_isCell) := zMk (own := RX8) (cc := cX8_isCell) (b := 0) (Γ2 := []) (X := zX0) (by decide +kernel) rfl rfl (by decide) (Or.inr (Or.inr (Or.inl ⟨rfl, rfl⟩))) zex_0 (fun P cp ns hh => s_X8_isCell ns cp P)
theorem e_X8_isCell (x0 x1 : Int) (σ : zHp) : m_X8_isCell [x0, x1] σ = (d_X8_isCell [x0, x1] σ).bind fun q => if q.1 = 1 then some (zg q.2.1 0, q.2.2) else none := rfl
abbrev wz_X8_plant : List Cond := Cond.code yX8_plant cX8_plant 3 (some .int) :: zG
def d_X8_plant : zS := sQ (sI (cN (cV rb (xK m_X8_isCell (aC (xC 0) (aC (xL 1) (aN)))))) (sR (xC (-1))) sK) (sQ (sI (cR r_eq (xK m_X3_isPlanted (aC (xC 1) (aC (xL 1) (aN)))) (xL 2)) (sR (xC 0)) sK) (sQ (sG 1 3 (xB zXor (xG 1 3) (xB zShl (xC 1) (xL 1)))) (sQ (sX (xK m_X0_carryAll (aC (xC 10) (aN)))) (sR (xC 1)))))
def m_X8_plant : List Int → zHp → Option (Int × zHp) := zRun 3 [10, 0, 4] d_X8_plant
set_option maxRecDepth 100000 in
set_option maxHeartbeats 4000000 in
theorem s_X8_plant (ns : List Nat) (cp : Int) (P : Int → zHp → Prop) : zSt (RX8, cX8_plant, 3, wz_X8_plant, 6, 148, none, 0, ns, ns, cp, P) [(0, 10), (1, 0), (2, 4)] 0 0 [] zX0 (d_X8_plant) := zs_seq (zs_if (zc_not (zc_b (zx_sub (zx_callV (za_cons (zx_this (o := 0) dX8_plant_0 rfl rfl (by decide) (by decide)) rfl (za_cons (zx_iload_n dX8_plant_1 rfl (by decide)) rfl (za_nil))) k_X8_isCell zf_0 (by decide) (by decide) (by decide) rfl rfl (zGV zw_314 zw_316 zw_1 zw_8 zw_317) rfl hyV_X8_isCell ⟨Nat.le_of_ble_eq_true rfl, Nat.le_of_ble_eq_true rfl⟩ (by decide) dX8_plant_2)) dX8_plant_5 (by decide))) (zs_ret (zx_iconst dX8_plant_8 rfl ⟨by decide, by decide⟩) rfl (by decide) dX8_plant_9) zs_skip) (zs_seq (zs_if (zc_icmpN_eq (zx_sub (zx_callV (za_cons (zx_path (o := 0) (o2 := 1) (k := 0) (zx_this (o := 0) dX8_plant_10 rfl rfl (by decide) (by decide)) rfl (by decide) rfl rfl (by decide) inC_X8 (List.mem_cons_of_mem _ zw_239) rfl rfl rfl dX8_plant_11) rfl (za_cons (zx_iload_n dX8_plant_14 rfl (by decide)) rfl (za_nil))) k_X3_isPlanted zf_0 (by decide) (by decide) (by decide) rfl rfl (zGV zw_507 zw_508 zw_509 zw_9 zw_510) rfl hyV_X3_isPlanted ⟨Nat.le_of_ble_eq_true rfl, Nat.le_of_ble_eq_true rfl⟩ (by decide) dX8_plant_15)) (zx_sub (zx_zload_n dX8_plant_18 rfl (by decide))) dX8_plant_19 (by decide)) (zs_ret (zx_iconst dX8_plant_22 rfl ⟨by decide, by decide⟩) rfl (by decide) dX8_plant_23) zs_skip) (zs_seq (zs_putO (o := 1) (k := 3) (zx_path (o := 0) (o2 := 1) (k := 0) (zx_this (o := 0) dX8_plant_24 rfl rfl (by decide) (by decide)) rfl (by decide) rfl rfl (by decide) inC_X8 (List.mem_cons_of_mem _ zw_239) rfl rfl rfl dX8_plant_25) dX8_plant_28 dX8_plant_29 rfl (zx_ishl (zx_iconst dX8_plant_32 rfl ⟨by decide, by decide⟩) (zx_iload_n dX8_plant_33 rfl (by decide)) dX8_plant_34) (zo_ixor dX8_plant_35) rfl rfl (by decide) inC_X3 (List.mem_cons_of_mem _ zw_40) tyX3_ok nmX3 rfl (tyX3_ok 3 (by decide)) rfl (by decide) rfl dX8_plant_36) (zs_seq (zs_callV (za_cons (zx_path (o := 0) (o2 := 10) (k := 2) (zx_this (o := 0) dX8_plant_39 rfl rfl (by decide) (by decide)) rfl (by decide) rfl rfl (by decide) inC_X8 (List.mem_cons_of_mem _ zw_241) rfl rfl rfl dX8_plant_40) rfl (za_nil)) k_X0_carryAll zf_0 (by decide) (by decide) rfl rfl (zGV zw_511 zw_512 zw_513 zw_11 zw_514) rfl hyV_X0_carryAll ⟨Nat.le_of_ble_eq_true rfl, Nat.le_of_ble_eq_true rfl⟩ dX8_plant_43) (zs_ret (zx_iconst dX8_plant_46 rfl ⟨by decide, by decide⟩) rfl (by decide) dX8_plant_47))))
theorem k_X8_plant : zCon yX8_plant wz_X8_plant [] [] (none) 6 148 [10, 0, 4] 0 (m_X8_plant) := zMk (own := RX8) (cc := cX8_plant) (b := 0) (Γ2 := []) (X := zX0) (by decide +kernel) rfl rfl (by decide) (Or.inl ⟨rfl, rfl⟩) zex_0 (fun P cp ns hh => s_X8_plant ns cp P)
theorem e_X8_plant (x0 x1 x2 : Int) (σ : zHp) : m_X8_plant [x0, x1, x2] σ = (d_X8_plant [x0, x1, x2] σ).bind fun q => if q.1 = 1 then some (zg q.2.1 0, q.2.2) else none := rfl
abbrev wz_X8_ear : List Cond := Cond.code yX8_ear cX8_ear 3 (some .int) :: zG
def d_X8_ear : zS := sQ (sI (cO (cV (fun x => r_lt x 0) (xL 1)) (cR r_gt (xL 1) (xC 99))) (sR (xC (-2))) sK) (sQ (sI (cV (fun x => r_eq x 0) (xG 1 2)) (sR (xC (-3))) sK) (sQ (sS 2 (xG 10 2)) (sQ (sG 10 2 (xL 1)) (sR (xL 2)))))
def m_X8_ear : List Int → zHp → Option (Int × zHp) := zRun 3 [10, 0] d_X8_ear
set_option maxRecDepth 100000 in
set_option maxHeartbeats 4000000 in
theorem s_X8_ear (ns : List Nat) (cp : Int) (P : Int → zHp → Prop) : zSt (RX8, cX8_ear, 3, wz_X8_ear, 1, 25, none, 0, ns, ns, cp, P) [(0, 10), (1, 0)] 0 0 [] zX0 (d_X8_ear) := zs_seq (zs_if (zc_or (zc_if_lt (zx_iload_n dX8_ear_0 rfl (by decide)) dX8_ear_1 (by decide)) (zc_icmpN_gt (zx_iload_n dX8_ear_4 rfl (by decide)) (zx_bipush dX8_ear_5 rfl ⟨by decide, by decide⟩) dX8_ear_7 (by decide))) (zs_ret (zx_bipush dX8_ear_10 rfl ⟨by decide, by decide⟩) rfl (by decide) dX8_ear_12) zs_skip) (zs_seq (zs_if (zc_ifN_eq (zx_fldS (o := 1) (k := 2) (zx_path (o := 0) (o2 := 1) (k := 0) (zx_this (o := 0) dX8_ear_13 rfl rfl (by decide) (by decide)) rfl (by decide) rfl rfl (by decide) inC_X8 (List.mem_cons_of_mem _ zw_239) rfl rfl rfl dX8_ear_14) rfl rfl (by decide) inC_X3 (List.mem_cons_of_mem _ zw_36) rfl (by decide) rfl dX8_ear_17) dX8_ear_20 (by decide)) (zs_ret (zx_bipush dX8_ear_23 rfl ⟨by decide, by decide⟩) rfl (by decide) dX8_ear_25) zs_skip) (zs_seq (zs_istore_n (Γ2 := [(0, 10), (1, 0), (2, 0)]) (zx_fldS (o := 10) (k := 2) (zx_path (o := 0) (o2 := 10) (k := 2) (zx_this (o := 0) dX8_ear_26 rfl rfl (by decide) (by decide)) rfl (by decide) rfl rfl (by decide) inC_X8 (List.mem_cons_of_mem _ zw_241) rfl rfl rfl dX8_ear_27) rfl rfl (by decide) inC_X0 (List.mem_cons_of_mem _ zw_99) rfl (by decide) rfl dX8_ear_30) dX8_ear_33 rfl (Nat.le_of_ble_eq_true rfl) (by decide)) (zs_seq (zs_putS (o := 10) (k := 2) (zx_path (o := 0) (o2 := 10) (k := 2) (zx_this (o := 0) dX8_ear_34 rfl rfl (by decide) (by decide)) rfl (by decide) rfl rfl (by decide) inC_X8 (List.mem_cons_of_mem _ zw_241) rfl rfl rfl dX8_ear_35) (zx_iload_n dX8_ear_38 rfl (by decide)) rfl rfl (by decide) inC_X0 (List.mem_cons_of_mem _ zw_99) tyX0_ok nmX0 rfl (tyX0_ok 2 (by decide)) rfl (by decide) rfl dX8_ear_39) (zs_ret (zx_iload_n dX8_ear_42 rfl (by decide)) rfl (by decide) dX8_ear_43))))
theorem k_X8_ear : zCon yX8_ear wz_X8_ear [] [] (none) 1 25 [10, 0] 0 (m_X8_ear) := zMk (own := RX8) (cc := cX8_ear) (b := 0) (Γ2 := []) (X := zX0) (by decide +kernel) rfl rfl (by decide) (Or.inl ⟨rfl, rfl⟩) zex_0 (fun P cp ns hh => s_X8_ear ns cp P)
theorem e_X8_ear (x0 x1 : Int) (σ : zHp) : m_X8_ear [x0, x1] σ = (d_X8_ear [x0, x1, 0] σ).bind fun q => if q.1 = 1 then some (zg q.2.1 0, q.2.2) else none := rfl
abbrev wz_X8_isKind : List Cond := Cond.code yX8_isKind cX8_isKind 1 (some .boolean) :: zG
def d_X8_isKind : zS := sR (xZ (cA (cV (fun x => r_ge x 0) (xL 0)) (cR r_le (xL 0) (xC 2))))
def m_X8_isKind : List Int → zHp → Option (Int × zHp) := zRun 1 [0] d_X8_isKind
set_option maxRecDepth 100000 in
set_option maxHeartbeats 4000000 in
theorem s_X8_isKind (ns : List Nat) (cp : Int) (P : Int → zHp → Prop) : zSt (RX8, cX8_isKind, 1, wz_X8_isKind, 1, 25, none, 4, ns, ns, cp, P) [(0, 0)] 0 0 [] zX0 (d_X8_isKind) := zs_ret (zx_z (zc_and (zc_ifN_ge (zx_iload_n dX8_isKind_0 rfl (by decide)) dX8_isKind_1 (by decide)) (zc_icmpN_le (zx_iload_n dX8_isKind_4 rfl (by decide)) (zx_iconst dX8_isKind_5 rfl ⟨by decide, by decide⟩) dX8_isKind_6 (by decide))) dX8_isKind_9 dX8_isKind_10 (by decide) dX8_isKind_13 rfl) rfl (by decide) dX8_isKind_14
theorem k_X8_isKind : zCon yX8_isKind wz_X8_isKind [] [] (none) 1 25 [0] 4 (m_X8_isKind) := zMk (own := RX8) (cc := cX8_isKind) (b := 0) (Γ2 := []) (X := zX0) (by decide +kernel) rfl rfl (by decide) (Or.inr (Or.inr (Or.inl ⟨rfl, rfl⟩))) zex_0 (fun P cp ns hh => s_X8_isKind ns cp P)
theorem e_X8_isKind (x0 : Int) (σ : zHp) : m_X8_isKind [x0] σ = (d_X8_isKind [x0] σ).bind fun q => if q.1 = 1 then some (zg q.2.1 0, q.2.2) else none := rfl
abbrev wz_X8_isWeight : List Cond := Cond.code yX8_isWeight cX8_isWeight 1 (some .boolean) :: zG
def d_X8_isWeight : zS := sR (xZ (cA (cR r_ge (xL 0) (xC 1)) (cR r_le (xL 0) (xC 99))))
def m_X8_isWeight : List Int → zHp → Option (Int × zHp) := zRun 1 [0] d_X8_isWeight
set_option maxRecDepth 100000 in
set_option maxHeartbeats 4000000 in
theorem s_X8_isWeight (ns : List Nat) (cp : Int) (P : Int → zHp → Prop) : zSt (RX8, cX8_isWeight, 1, wz_X8_isWeight, 1, 25, none, 4, ns, ns, cp, P) [(0, 0)] 0 0 [] zX0 (d_X8_isWeight) := zs_ret (zx_z (zc_and (zc_icmpN_ge (zx_iload_n dX8_isWeight_0 rfl (by decide)) (zx_iconst dX8_isWeight_1 rfl ⟨by decide, by decide⟩) dX8_isWeight_2 (by decide)) (zc_icmpN_le (zx_iload_n dX8_isWeight_5 rfl (by decide)) (zx_bipush dX8_isWeight_6 rfl ⟨by decide, by decide⟩) dX8_isWeight_8 (by decide))) dX8_isWeight_11 dX8_isWeight_12 (by decide) dX8_isWeight_15 rfl) rfl (by decide) dX8_isWeight_16
theorem k_X8_isWeight : zCon yX8_isWeight wz_X8_isWeight [] [] (none) 1 25 [0] 4 (m_X8_isWeight) := zMk (own := RX8) (cc := cX8_isWeight) (b := 0) (Γ2 := []) (X := zX0) (by decide +kernel) rfl rfl (by decide) (Or.inr (Or.inr (Or.inl ⟨rfl, rfl⟩))) zex_0 (fun P cp ns hh => s_X8_isWeight ns cp P)
theorem e_X8_isWeight (x0 : Int) (σ : zHp) : m_X8_isWeight [x0] σ = (d_X8_isWeight [x0] σ).bind fun q => if q.1 = 1 then some (zg q.2.1 0, q.2.2) else none := rfl
abbrev wz_X8_bell : List Cond := Cond.code yX8_bell cX8_bell 5 (some .int) :: zG
def d_X8_bell : zS := sQ (sI (cN (cV rb (xK m_X8_isCell (aC (xC 0) (aC (xL 2) (aN)))))) (sR (xC (-1))) sK) (sQ (sI (cO (cN (cV rb (xK m_X8_isKind (aC (xL 1) (aN))))) (cN (cV rb (xK m_X8_isWeight (aC (xL 3) (aN)))))) (sR (xC (-2))) sK) (sQ (sI (cR r_ge (xG 6 0) (xC 6)) (sR (xC (-4))) sK) (sQ (sS 4 (xK m_X1_add (aC (xC 6) (aC (xL 1) (aC (xL 2) (aC (xL 3) (aN))))))) (sQ (sX (xK m_X0_carry (aC (xC 10) (aC (xL 4) (aN))))) (sR (xL 4))))))
def m_X8_bell : List Int → zHp → Option (Int × zHp) := zRun 5 [10, 0, 0, 0] d_X8_bell
set_option maxRecDepth 100000 in
set_option maxHeartbeats 4000000 in
theorem s_X8_bell (ns : List Nat) (cp : Int) (P : Int → zHp → Prop) : zSt (RX8, cX8_bell, 5, wz_X8_bell, 5, 127, none, 0, ns, ns, cp, P) [(0, 10), (1, 0), (2, 0), (3, 0)] 0 0 [] zX0 (d_X8_bell) := zs_seq (zs_if (zc_not (zc_b (zx_sub (zx_callV (za_cons (zx_this (o := 0) dX8_bell_0 rfl rfl (by decide) (by decide)) rfl (za_cons (zx_iload_n dX8_bell_1 rfl (by decide)) rfl (za_nil))) k_X8_isCell zf_0 (by decide) (by decide) (by decide) rfl rfl (zGV zw_314 zw_316 zw_1 zw_8 zw_317) rfl hyV_X8_isCell ⟨Nat.le_of_ble_eq_true rfl, Nat.le_of_ble_eq_true rfl⟩ (by decide) dX8_bell_2)) dX8_bell_5 (by decide))) (zs_ret (zx_iconst dX8_bell_8 rfl ⟨by decide, by decide⟩) rfl (by decide) dX8_bell_9) zs_skip) (zs_seq (zs_if (zc_or (zc_not (zc_bN (zx_sub (zx_callS (za_cons (zx_iload_n dX8_bell_10 rfl (by decide)) rfl (za_nil)) k_X8_isKind zf_0 (by decide) rfl (zGS zw_463 zw_464 zw_8 zw_465) rfl hyS_X8_isKind ⟨Nat.le_of_ble_eq_true rfl, Nat.le_of_ble_eq_true rfl⟩ (by decide) dX8_bell_11)) dX8_bell_14 (by decide))) (zc_not (zc_b (zx_sub (zx_callS (za_cons (zx_iload_n dX8_bell_17 rfl (by decide)) rfl (za_nil)) k_X8_isWeight zf_0 (by decide) rfl (zGS zw_466 zw_467 zw_8 zw_468) rfl hyS_X8_isWeight ⟨Nat.le_of_ble_eq_true rfl, Nat.le_of_ble_eq_true rfl⟩ (by decide) dX8_bell_18)) dX8_bell_21 (by decide)))) (zs_ret (zx_bipush dX8_bell_24 rfl ⟨by decide, by decide⟩) rfl (by decide) dX8_bell_26) zs_skip) (zs_seq (zs_if (zc_icmpN_ge (zx_fldS (o := 6) (k := 0) (zx_path (o := 0) (o2 := 6) (k := 1) (zx_this (o := 0) dX8_bell_27 rfl rfl (by decide) (by decide)) rfl (by decide) rfl rfl (by decide) inC_X8 (List.mem_cons_of_mem _ zw_240) rfl rfl rfl dX8_bell_28) rfl rfl (by decide) inC_X1 (List.mem_cons_of_mem _ zw_71) rfl (by decide) rfl dX8_bell_31) (zx_bipush dX8_bell_34 rfl ⟨by decide, by decide⟩) dX8_bell_36 (by decide)) (zs_ret (zx_bipush dX8_bell_39 rfl ⟨by decide, by decide⟩) rfl (by decide) dX8_bell_41) zs_skip) (zs_seq (zs_istore (Γ2 := [(0, 10), (1, 0), (2, 0), (3, 0), (4, 0)]) (zx_callV (za_cons (zx_path (o := 0) (o2 := 6) (k := 1) (zx_this (o := 0) dX8_bell_42 rfl rfl (by decide) (by decide)) rfl (by decide) rfl rfl (by decide) inC_X8 (List.mem_cons_of_mem _ zw_240) rfl rfl rfl dX8_bell_43) rfl (za_cons (zx_iload_n dX8_bell_46 rfl (by decide)) rfl (za_cons (zx_iload_n dX8_bell_47 rfl (by decide)) rfl (za_cons (zx_iload_n dX8_bell_48 rfl (by decide)) rfl (za_nil))))) k_X1_add zf_0 (by decide) (by decide) (by decide) rfl rfl (zGV zw_469 zw_470 zw_471 zw_10 zw_472) rfl hyV_X1_add ⟨Nat.le_of_ble_eq_true rfl, Nat.le_of_ble_eq_true rfl⟩ (by decide) dX8_bell_49) dX8_bell_52 (Nat.le_of_ble_eq_true rfl) (by decide)) (zs_seq (zs_callV (za_cons (zx_path (o := 0) (o2 := 10) (k := 2) (zx_this (o := 0) dX8_bell_54 rfl rfl (by decide) (by decide)) rfl (by decide) rfl rfl (by decide) inC_X8 (List.mem_cons_of_mem _ zw_241) rfl rfl rfl dX8_bell_55) rfl (za_cons (zx_iload dX8_bell_58 (by decide)) rfl (za_nil))) k_X0_carry zf_0 (by decide) (by decide) rfl rfl (zGV zw_473 zw_474 zw_475 zw_11 zw_476) rfl hyV_X0_carry ⟨Nat.le_of_ble_eq_true rfl, Nat.le_of_ble_eq_true rfl⟩ dX8_bell_60) (zs_ret (zx_iload dX8_bell_63 (by decide)) rfl (by decide) dX8_bell_65)))))
theorem k_X8_bell : zCon yX8_bell wz_X8_bell [] [] (none) 5 127 [10, 0, 0, 0] 0 (m_X8_bell) := zMk (own := RX8) (cc := cX8_bell) (b := 0) (Γ2 := []) (X := zX0) (by decide +kernel) rfl rfl (by decide) (Or.inl ⟨rfl, rfl⟩) zex_0 (fun P cp ns hh => s_X8_bell ns cp P)
theorem e_X8_bell (x0 x1 x2 x3 : Int) (σ : zHp) : m_X8_bell [x0, x1, x2, x3] σ = (d_X8_bell [x0, x1, x2, x3, 0] σ).bind fun q => if q.1 = 1 then some (zg q.2.1 0, q.2.2) else none := rfl
abbrev wz_X8_isBell : List Cond := Cond.code yX8_isBell cX8_isBell 2 (some .boolean) :: zG
def d_X8_isBell : zS := sR (xZ (cA (cV (fun x => r_ge x 0) (xL 1)) (cR r_lt (xL 1) (xG 6 0))))
def m_X8_isBell : List Int → zHp → Option (Int × zHp) := zRun 2 [10, 0] d_X8_isBell
set_option maxRecDepth 100000 in
set_option maxHeartbeats 4000000 in
theorem s_X8_isBell (ns : List Nat) (cp : Int) (P : Int → zHp → Prop) : zSt (RX8, cX8_isBell, 2, wz_X8_isBell, 1, 25, none, 4, ns, ns, cp, P) [(0, 10), (1, 0)] 0 0 [] zX0 (d_X8_isBell) := zs_ret (zx_z (zc_and (zc_ifN_ge (zx_iload_n dX8_isBell_0 rfl (by decide)) dX8_isBell_1 (by decide)) (zc_icmpN_lt (zx_iload_n dX8_isBell_4 rfl (by decide)) (zx_fldS (o := 6) (k := 0) (zx_path (o := 0) (o2 := 6) (k := 1) (zx_this (o := 0) dX8_isBell_5 rfl rfl (by decide) (by decide)) rfl (by decide) rfl rfl (by decide) inC_X8 (List.mem_cons_of_mem _ zw_240) rfl rfl rfl dX8_isBell_6) rfl rfl (by decide) inC_X1 (List.mem_cons_of_mem _ zw_71) rfl (by decide) rfl dX8_isBell_9) dX8_isBell_12 (by decide))) dX8_isBell_15 dX8_isBell_16 (by decide) dX8_isBell_19 rfl) rfl (by decide) dX8_isBell_20
theorem k_X8_isBell : zCon yX8_isBell wz_X8_isBell [] [] (none) 1 25 [10, 0] 4 (m_X8_isBell) := zMk (own := RX8) (cc := cX8_isBell) (b := 0) (Γ2 := []) (X := zX0) (by decide +kernel) rfl rfl (by decide) (Or.inr (Or.inr (Or.inl ⟨rfl, rfl⟩))) zex_0 (fun P cp ns hh => s_X8_isBell ns cp P)
theorem e_X8_isBell (x0 x1 : Int) (σ : zHp) : m_X8_isBell [x0, x1] σ = (d_X8_isBell [x0, x1] σ).bind fun q => if q.1 = 1 then some (zg q.2.1 0, q.2.2) else none := rfl
abbrev wz_X8_ofBell : List Cond := Cond.code yX8_ofBell cX8_ofBell 3 (some .int) :: zG
def d_X8_ofBell : zS := sQ (sI (cN (cV rb (xK m_X8_isBell (aC (xC 0) (aC (xL 1) (aN)))))) (sR (xC (-1))) sK) (sN (xL 2) 0 [sR (xE 7 6 (xL 1)), sR (xE 8 6 (xL 1)), sR (xE 9 6 (xL 1))] (sR (xC (-2))))
def m_X8_ofBell : List Int → zHp → Option (Int × zHp) := zRun 3 [10, 0, 0] d_X8_ofBell
set_option maxRecDepth 100000 in
set_option maxHeartbeats 4000000 in
theorem s_X8_ofBell (ns : List Nat) (cp : Int) (P : Int → zHp → Prop) : zSt (RX8, cX8_ofBell, 3, wz_X8_ofBell, 2, 46, none, 0, ns, ns, cp, P) [(0, 10), (1, 0), (2, 0)] 0 0 [] zX0 (d_X8_ofBell) := zs_seq (zs_if (zc_not (zc_b (zx_sub (zx_callV (za_cons (zx_this (o := 0) dX8_ofBell_0 rfl rfl (by decide) (by decide)) rfl (za_cons (zx_iload_n dX8_ofBell_1 rfl (by decide)) rfl (za_nil))) k_X8_isBell zf_0 (by decide) (by decide) (by decide) rfl rfl (zGV zw_306 zw_308 zw_0 zw_8 zw_309) rfl hyV_X8_isBell ⟨Nat.le_of_ble_eq_true rfl, Nat.le_of_ble_eq_true rfl⟩ (by decide) dX8_ofBell_2)) dX8_ofBell_5 (by decide))) (zs_ret (zx_iconst dX8_ofBell_8 rfl ⟨by decide, by decide⟩) rfl (by decide) dX8_ofBell_9) zs_skip) (zs_switch (ts := [36, 46, 56]) (zx_iload_n dX8_ofBell_10 rfl (by decide)) dX8_ofBell_11 (by decide) (by decide) (by decide) ⟨zs_ret (zx_ialdS (o := 7) (zx_path (o := 6) (o2 := 7) (k := 1) (zx_path (o := 0) (o2 := 6) (k := 1) (zx_this (o := 0) dX8_ofBell_36 rfl rfl (by decide) (by decide)) rfl (by decide) rfl rfl (by decide) inC_X8 (List.mem_cons_of_mem _ zw_240) rfl rfl rfl dX8_ofBell_37) rfl (by decide) rfl rfl (by decide) inC_X1 (List.mem_cons_of_mem _ zw_75) rfl rfl rfl dX8_ofBell_40) (zx_iload_n dX8_ofBell_43 rfl (by decide)) (zp_a (by decide)) rfl rfl dX8_ofBell_44) rfl (by decide) dX8_ofBell_45, ⟨zs_ret (zx_ialdS (o := 8) (zx_path (o := 6) (o2 := 8) (k := 2) (zx_path (o := 0) (o2 := 6) (k := 1) (zx_this (o := 0) dX8_ofBell_46 rfl rfl (by decide) (by decide)) rfl (by decide) rfl rfl (by decide) inC_X8 (List.mem_cons_of_mem _ zw_240) rfl rfl rfl dX8_ofBell_47) rfl (by decide) rfl rfl (by decide) inC_X1 (List.mem_cons_of_mem _ zw_78) rfl rfl rfl dX8_ofBell_50) (zx_iload_n dX8_ofBell_53 rfl (by decide)) (zp_a (by decide)) rfl rfl dX8_ofBell_54) rfl (by decide) dX8_ofBell_55, ⟨zs_ret (zx_ialdS (o := 9) (zx_path (o := 6) (o2 := 9) (k := 3) (zx_path (o := 0) (o2 := 6) (k := 1) (zx_this (o := 0) dX8_ofBell_56 rfl rfl (by decide) (by decide)) rfl (by decide) rfl rfl (by decide) inC_X8 (List.mem_cons_of_mem _ zw_240) rfl rfl rfl dX8_ofBell_57) rfl (by decide) rfl rfl (by decide) inC_X1 (List.mem_cons_of_mem _ zw_80) rfl rfl rfl dX8_ofBell_60) (zx_iload_n dX8_ofBell_63 rfl (by decide)) (zp_a (by decide)) rfl rfl dX8_ofBell_64) rfl (by decide) dX8_ofBell_65, trivial⟩⟩⟩ (zs_ret (zx_bipush dX8_ofBell_66 rfl ⟨by decide, by decide⟩) rfl (by decide) dX8_ofBell_68))
theorem k_X8_ofBell : zCon yX8_ofBell wz_X8_ofBell [] [] (none) 2 46 [10, 0, 0] 0 (m_X8_ofBell) := zMk (own := RX8) (cc := cX8_ofBell) (b := 0) (Γ2 := []) (X := zX0) (by decide +kernel) rfl rfl (by decide) (Or.inl ⟨rfl, rfl⟩) zex_0 (fun P cp ns hh => s_X8_ofBell ns cp P)
theorem e_X8_ofBell (x0 x1 x2 : Int) (σ : zHp) : m_X8_ofBell [x0, x1, x2] σ = (d_X8_ofBell [x0, x1, x2] σ).bind fun q => if q.1 = 1 then some (zg q.2.1 0, q.2.2) else none := rfl
abbrev wz_X8_isOneOfTwo : List Cond := Cond.code yX8_isOneOfTwo cX8_isOneOfTwo 1 (some .boolean) :: zG
def d_X8_isOneOfTwo : zS := sR (xZ (cO (cV (fun x => r_eq x 0) (xL 0)) (cR r_eq (xL 0) (xC 1))))
def m_X8_isOneOfTwo : List Int → zHp → Option (Int × zHp) := zRun 1 [0] d_X8_isOneOfTwo
set_option maxRecDepth 100000 in
set_option maxHeartbeats 4000000 in
theorem s_X8_isOneOfTwo (ns : List Nat) (cp : Int) (P : Int → zHp → Prop) : zSt (RX8, cX8_isOneOfTwo, 1, wz_X8_isOneOfTwo, 1, 25, none, 4, ns, ns, cp, P) [(0, 0)] 0 0 [] zX0 (d_X8_isOneOfTwo) := zs_ret (zx_z (zc_or (zc_if_eq (zx_iload_n dX8_isOneOfTwo_0 rfl (by decide)) dX8_isOneOfTwo_1 (by decide)) (zc_icmpN_eq (zx_iload_n dX8_isOneOfTwo_4 rfl (by decide)) (zx_iconst dX8_isOneOfTwo_5 rfl ⟨by decide, by decide⟩) dX8_isOneOfTwo_6 (by decide))) dX8_isOneOfTwo_9 dX8_isOneOfTwo_10 (by decide) dX8_isOneOfTwo_13 rfl) rfl (by decide) dX8_isOneOfTwo_14
theorem k_X8_isOneOfTwo : zCon yX8_isOneOfTwo wz_X8_isOneOfTwo [] [] (none) 1 25 [0] 4 (m_X8_isOneOfTwo) := zMk (own := RX8) (cc := cX8_isOneOfTwo) (b := 0) (Γ2 := []) (X := zX0) (by decide +kernel) rfl rfl (by decide) (Or.inr (Or.inr (Or.inl ⟨rfl, rfl⟩))) zex_0 (fun P cp ns hh => s_X8_isOneOfTwo ns cp P)
theorem e_X8_isOneOfTwo (x0 : Int) (σ : zHp) : m_X8_isOneOfTwo [x0] σ = (d_X8_isOneOfTwo [x0] σ).bind fun q => if q.1 = 1 then some (zg q.2.1 0, q.2.2) else none := rfl
abbrev wz_X8_isWind : List Cond := Cond.code yX8_isWind cX8_isWind 1 (some .boolean) :: zG
def d_X8_isWind : zS := sR (xZ (cA (cV (fun x => r_ge x 0) (xL 0)) (cR r_le (xL 0) (xC 39))))
def m_X8_isWind : List Int → zHp → Option (Int × zHp) := zRun 1 [0] d_X8_isWind
set_option maxRecDepth 100000 in
set_option maxHeartbeats 4000000 in
theorem s_X8_isWind (ns : List Nat) (cp : Int) (P : Int → zHp → Prop) : zSt (RX8, cX8_isWind, 1, wz_X8_isWind, 1, 25, none, 4, ns, ns, cp, P) [(0, 0)] 0 0 [] zX0 (d_X8_isWind) := zs_ret (zx_z (zc_and (zc_ifN_ge (zx_iload_n dX8_isWind_0 rfl (by decide)) dX8_isWind_1 (by decide)) (zc_icmpN_le (zx_iload_n dX8_isWind_4 rfl (by decide)) (zx_bipush dX8_isWind_5 rfl ⟨by decide, by decide⟩) dX8_isWind_7 (by decide))) dX8_isWind_10 dX8_isWind_11 (by decide) dX8_isWind_14 rfl) rfl (by decide) dX8_isWind_15
theorem k_X8_isWind : zCon yX8_isWind wz_X8_isWind [] [] (none) 1 25 [0] 4 (m_X8_isWind) := zMk (own := RX8) (cc := cX8_isWind) (b := 0) (Γ2 := []) (X := zX0) (by decide +kernel) rfl rfl (by decide) (Or.inr (Or.inr (Or.inl ⟨rfl, rfl⟩))) zex_0 (fun P cp ns hh => s_X8_isWind ns cp P)
theorem e_X8_isWind (x0 : Int) (σ : zHp) : m_X8_isWind [x0] σ = (d_X8_isWind [x0] σ).bind fun q => if q.1 = 1 then some (zg q.2.1 0, q.2.2) else none := rfl
abbrev wz_X8_greatestCommon : List Cond := Cond.code yX8_greatestCommon cX8_greatestCommon 11 (some .long) :: zG
def lc_X8_greatestCommon_1 : zC := cA (cR r_lt (xL 8) (xC 100)) (cR r_ne (xL 6) (xC 0))
def lf_X8_greatestCommon_1 : zS := sD [9] (sQ (sS 9 (xD zmod (xL 4) (xL 6))) (sQ (sS 4 (xL 6)) (sS 6 (xL 9))))
def ls_X8_greatestCommon_1 : zS := sS 8 (xB o_iadd (xL 8) (xC 1))
def d_X8_greatestCommon : zS := sQ (sS 4 (xL 0)) (sQ (sS 6 (xL 2)) (sQ (sD [8] (sQ (sS 8 (xC 0)) (sW lc_X8_greatestCommon_1 lf_X8_greatestCommon_1 ls_X8_greatestCommon_1))) (sR (xB o_maxl (xC 1) (xL 4)))))
def m_X8_greatestCommon : List Int → zHp → Option (Int × zHp) := zRun 11 [1, 1] d_X8_greatestCommon
set_option maxRecDepth 100000 in
set_option maxHeartbeats 4000000 in
theorem s_X8_greatestCommon (ns : List Nat) (cp : Int) (P : Int → zHp → Prop) : zSt (RX8, cX8_greatestCommon, 11, wz_X8_greatestCommon, 1, 25, none, 1, ns, ns, cp, P) [(0, 1), (2, 1)] 0 0 [] zX0 (d_X8_greatestCommon) := zs_seq (zs_lstore (Γ2 := [(0, 1), (2, 1), (4, 1)]) (zx_lload_n dX8_greatestCommon_0 rfl (by decide)) dX8_greatestCommon_1 (Nat.le_of_ble_eq_true rfl) (by decide)) (zs_seq (zs_lstore (Γ2 := [(0, 1), (2, 1), (4, 1), (6, 1)]) (zx_lload_n dX8_greatestCommon_3 rfl (by decide)) dX8_greatestCommon_4 (Nat.le_of_ble_eq_true rfl) (by decide)) (zs_seq (zs_blk (Γ2 := [(0, 1), (2, 1), (4, 1), (6, 1)]) (Γ3 := [(0, 1), (2, 1), (4, 1), (6, 1), (8, 0)]) (ks := [8]) (zs_seq (zs_istore (Γ2 := [(0, 1), (2, 1), (4, 1), (6, 1), (8, 0)]) (zx_iconst dX8_greatestCommon_6 rfl ⟨by decide, by decide⟩) dX8_greatestCommon_7 (Nat.le_of_ble_eq_true rfl) (by decide)) (zs_loop (Γ := [(0, 1), (2, 1), (4, 1), (6, 1), (8, 0)]) (zc_and (zc_icmpN_lt (zx_iload dX8_greatestCommon_9 (by decide)) (zx_bipush dX8_greatestCommon_11 rfl ⟨by decide, by decide⟩) dX8_greatestCommon_13 (by decide)) (zc_lcmpN_ne (zx_lload dX8_greatestCommon_16 (by decide)) (zx_lconst dX8_greatestCommon_18 rfl ⟨by decide, by decide⟩) dX8_greatestCommon_19 dX8_greatestCommon_20 (by decide))) (zs_blk (Γ2 := [(0, 1), (2, 1), (4, 1), (6, 1), (8, 0)]) (Γ3 := [(0, 1), (2, 1), (4, 1), (6, 1), (8, 0), (9, 1)]) (ks := [9]) (zs_seq (zs_lstore (Γ2 := [(0, 1), (2, 1), (4, 1), (6, 1), (8, 0), (9, 1)]) (zx_lrem (zx_lload dX8_greatestCommon_23 (by decide)) (zx_lload dX8_greatestCommon_25 (by decide)) dX8_greatestCommon_27) dX8_greatestCommon_28 (Nat.le_of_ble_eq_true rfl) (by decide)) (zs_seq (zs_lstore (Γ2 := [(0, 1), (2, 1), (4, 1), (6, 1), (8, 0), (9, 1)]) (zx_lload dX8_greatestCommon_30 (by decide)) dX8_greatestCommon_32 (Nat.le_of_ble_eq_true rfl) (by decide)) (zs_lstore (Γ2 := [(0, 1), (2, 1), (4, 1), (6, 1), (8, 0), (9, 1)]) (zx_lload dX8_greatestCommon_34 (by decide)) dX8_greatestCommon_36 (Nat.le_of_ble_eq_true rfl) (by decide)))) (by decide) (by decide) (zY_ok (by decide))) (zs_goto (zs_iinc (Γ2 := [(0, 1), (2, 1), (4, 1), (6, 1), (8, 0)]) dX8_greatestCommon_38 (by decide) (Nat.le_of_ble_eq_true rfl) (by decide)) dX8_greatestCommon_41 (by decide)))) (by decide) (by decide) zX0_ok) (zs_ret (zx_maxl (zx_lconst dX8_greatestCommon_44 rfl ⟨by decide, by decide⟩) (zx_lload dX8_greatestCommon_45 (by decide)) (List.mem_cons_of_mem _ zw_352) (List.mem_cons_of_mem _ zw_353) (List.mem_cons_of_mem _ zw_18) (List.mem_cons_of_mem _ zw_354) (Nat.le_of_ble_eq_true rfl) (Nat.le_of_ble_eq_true rfl) dX8_greatestCommon_47) rfl (by decide) dX8_greatestCommon_50)))
theorem k_X8_greatestCommon : zCon yX8_greatestCommon wz_X8_greatestCommon [] [] (none) 1 25 [1, 1] 1 (m_X8_greatestCommon) := zMk (own := RX8) (cc := cX8_greatestCommon) (b := 0) (Γ2 := []) (X := zX0) (by decide +kernel) rfl rfl (by decide) (Or.inr (Or.inl ⟨rfl, rfl⟩)) zex_0 (fun P cp ns hh => s_X8_greatestCommon ns cp P)
theorem e_X8_greatestCommon (x0 x1 : Int) (σ : zHp) : m_X8_greatestCommon [x0, x1] σ = (d_X8_greatestCommon [x0, 0, x1, 0, 0, 0, 0, 0, 0, 0, 0] σ).bind fun q => if q.1 = 1 then some (zg q.2.1 0, q.2.2) else none := rfl
abbrev wz_X8_share : List Cond := Cond.code yX8_share cX8_share 7 (some .long) :: zG
def d_X8_share : zS := sQ (sS 5 (xK m_X8_greatestCommon (aC (xL 0) (aC (xL 2) (aN))))) (sR (xD zldiv (xI (cV (fun x => r_eq x 0) (xL 4)) (xL 0) (xL 2)) (xL 5)))
def m_X8_share : List Int → zHp → Option (Int × zHp) := zRun 7 [1, 1, 0] d_X8_share
set_option maxRecDepth 100000 in
set_option maxHeartbeats 4000000 in
theorem s_X8_share (ns : List Nat) (cp : Int) (P : Int → zHp → Prop) : zSt (RX8, cX8_share, 7, wz_X8_share, 2, 55, none, 1, ns, ns, cp, P) [(0, 1), (2, 1), (4, 0)] 0 0 [] zX0 (d_X8_share) := zs_seq (zs_lstore (Γ2 := [(0, 1), (2, 1), (4, 0), (5, 1)]) (zx_callS (za_cons (zx_lload_n dX8_share_0 rfl (by decide)) rfl (za_cons (zx_lload_n dX8_share_1 rfl (by decide)) rfl (za_nil))) k_X8_greatestCommon zf_0 (by decide) rfl (zGS zw_349 zw_350 zw_8 zw_351) rfl hyS_X8_greatestCommon ⟨Nat.le_of_ble_eq_true rfl, Nat.le_of_ble_eq_true rfl⟩ (by decide) dX8_share_2) dX8_share_5 (Nat.le_of_ble_eq_true rfl) (by decide)) (zs_ret (zx_ldiv (zx_ite (zc_ifN_eq (zx_iload dX8_share_7 (by decide)) dX8_share_9 (by decide)) (zx_lload_n dX8_share_12 rfl (by decide)) dX8_share_13 (by decide) (zx_lload_n dX8_share_16 rfl (by decide))) (zx_lload dX8_share_17 (by decide)) dX8_share_19) rfl (by decide) dX8_share_20)
theorem k_X8_share : zCon yX8_share wz_X8_share [] [] (none) 2 55 [1, 1, 0] 1 (m_X8_share) := zMk (own := RX8) (cc := cX8_share) (b := 0) (Γ2 := []) (X := zX0) (by decide +kernel) rfl rfl (by decide) (Or.inr (Or.inl ⟨rfl, rfl⟩)) zex_0 (fun P cp ns hh => s_X8_share ns cp P)
theorem e_X8_share (x0 x1 x2 : Int) (σ : zHp) : m_X8_share [x0, x1, x2] σ = (d_X8_share [x0, 0, x1, 0, x2, 0, 0] σ).bind fun q => if q.1 = 1 then some (zg q.2.1 0, q.2.2) else none := rfl
abbrev wz_X8_loud : List Cond := Cond.code yX8_loud cX8_loud 5 (some .long) :: zG
def d_X8_loud : zS := sQ (sI (cO (cO (cO (cN (cV rb (xK m_X8_isBell (aC (xC 0) (aC (xL 1) (aN)))))) (cN (cV rb (xK m_X8_isCell (aC (xC 0) (aC (xL 2) (aN))))))) (cN (cV rb (xK m_X8_isWind (aC (xL 3) (aN)))))) (cN (cV rb (xK m_X8_isOneOfTwo (aC (xL 4) (aN)))))) (sR (xC (-9223372036854775808))) sK) (sR (xK m_X8_share (aC (xB o_lmul (xE 9 6 (xL 1)) (xK m_X0_unitBy (aC (xC 10) (aC (xL 1) (aC (xL 2) (aC (xL 3) (aN))))))) (aC (xK m_X0_grainsOfOne (aC (xL 3) (aN))) (aC (xL 4) (aN))))))
def m_X8_loud : List Int → zHp → Option (Int × zHp) := zRun 5 [10, 0, 0, 0, 0] d_X8_loud
set_option maxRecDepth 100000 in
set_option maxHeartbeats 4000000 in
theorem s_X8_loud (ns : List Nat) (cp : Int) (P : Int → zHp → Prop) : zSt (RX8, cX8_loud, 5, wz_X8_loud, 4, 98, none, 1, ns, ns, cp, P) [(0, 10), (1, 0), (2, 0), (3, 0), (4, 0)] 0 0 [] zX0 (d_X8_loud) := zs_seq (zs_if (zc_or (zc_or (zc_or (zc_not (zc_bN (zx_sub (zx_callV (za_cons (zx_this (o := 0) dX8_loud_0 rfl rfl (by decide) (by decide)) rfl (za_cons (zx_iload_n dX8_loud_1 rfl (by decide)) rfl (za_nil))) k_X8_isBell zf_0 (by decide) (by decide) (by decide) rfl rfl (zGV zw_306 zw_308 zw_0 zw_8 zw_309) rfl hyV_X8_isBell ⟨Nat.le_of_ble_eq_true rfl, Nat.le_of_ble_eq_true rfl⟩ (by decide) dX8_loud_2)) dX8_loud_5 (by decide))) (zc_not (zc_bN (zx_sub (zx_callV (za_cons (zx_this (o := 0) dX8_loud_8 rfl rfl (by decide) (by decide)) rfl (za_cons (zx_iload_n dX8_loud_9 rfl (by decide)) rfl (za_nil))) k_X8_isCell zf_0 (by decide) (by decide) (by decide) rfl rfl (zGV zw_314 zw_316 zw_1 zw_8 zw_317) rfl hyV_X8_isCell ⟨Nat.le_of_ble_eq_true rfl, Nat.le_of_ble_eq_true rfl⟩ (by decide) dX8_loud_10)) dX8_loud_13 (by decide)))) (zc_not (zc_bN (zx_sub (zx_callS (za_cons (zx_iload_n dX8_loud_16 rfl (by decide)) rfl (za_nil)) k_X8_isWind zf_0 (by decide) rfl (zGS zw_318 zw_319 zw_8 zw_320) rfl hyS_X8_isWind ⟨Nat.le_of_ble_eq_true rfl, Nat.le_of_ble_eq_true rfl⟩ (by decide) dX8_loud_17)) dX8_loud_20 (by decide)))) (zc_not (zc_b (zx_sub (zx_callS (za_cons (zx_iload dX8_loud_23 (by decide)) rfl (za_nil)) k_X8_isOneOfTwo zf_0 (by decide) rfl (zGS zw_321 zw_322 zw_8 zw_323) rfl hyS_X8_isOneOfTwo ⟨Nat.le_of_ble_eq_true rfl, Nat.le_of_ble_eq_true rfl⟩ (by decide) dX8_loud_25)) dX8_loud_28 (by decide)))) (zs_ret (zx_ldc2 dX8_loud_31 (List.mem_cons_of_mem _ zw_324) rfl ⟨by decide, by decide⟩) rfl (by decide) dX8_loud_34) zs_skip) (zs_ret (zx_callS (za_cons (zx_lmul (zx_i2l (zx_ialdS (o := 9) (zx_path (o := 6) (o2 := 9) (k := 3) (zx_path (o := 0) (o2 := 6) (k := 1) (zx_this (o := 0) dX8_loud_35 rfl rfl (by decide) (by decide)) rfl (by decide) rfl rfl (by decide) inC_X8 (List.mem_cons_of_mem _ zw_240) rfl rfl rfl dX8_loud_36) rfl (by decide) rfl rfl (by decide) inC_X1 (List.mem_cons_of_mem _ zw_80) rfl rfl rfl dX8_loud_39) (zx_iload_n dX8_loud_42 rfl (by decide)) (zp_a (by decide)) rfl rfl dX8_loud_43) dX8_loud_44) (zx_callV (za_cons (zx_path (o := 0) (o2 := 10) (k := 2) (zx_this (o := 0) dX8_loud_45 rfl rfl (by decide) (by decide)) rfl (by decide) rfl rfl (by decide) inC_X8 (List.mem_cons_of_mem _ zw_241) rfl rfl rfl dX8_loud_46) rfl (za_cons (zx_iload_n dX8_loud_49 rfl (by decide)) rfl (za_cons (zx_iload_n dX8_loud_50 rfl (by decide)) rfl (za_cons (zx_iload_n dX8_loud_51 rfl (by decide)) rfl (za_nil))))) k_X0_unitBy zf_0 (by decide) (by decide) (by decide) rfl rfl (zGV zw_325 zw_326 zw_327 zw_11 zw_328) rfl hyV_X0_unitBy ⟨Nat.le_of_ble_eq_true rfl, Nat.le_of_ble_eq_true rfl⟩ (by decide) dX8_loud_52) dX8_loud_55) rfl (za_cons (zx_callS (za_cons (zx_iload_n dX8_loud_56 rfl (by decide)) rfl (za_nil)) k_X0_grainsOfOne zf_0 (by decide) rfl (zGS zw_342 zw_343 zw_11 zw_344) rfl hyS_X0_grainsOfOne ⟨Nat.le_of_ble_eq_true rfl, Nat.le_of_ble_eq_true rfl⟩ (by decide) dX8_loud_57) rfl (za_cons (zx_iload dX8_loud_60 (by decide)) rfl (za_nil)))) k_X8_share zf_0 (by decide) rfl (zGS zw_346 zw_347 zw_8 zw_348) rfl hyS_X8_share ⟨Nat.le_of_ble_eq_true rfl, Nat.le_of_ble_eq_true rfl⟩ (by decide) dX8_loud_62) rfl (by decide) dX8_loud_65)
theorem k_X8_loud : zCon yX8_loud wz_X8_loud [] [] (none) 4 98 [10, 0, 0, 0, 0] 1 (m_X8_loud) := zMk (own := RX8) (cc := cX8_loud) (b := 0) (Γ2 := []) (X := zX0) (by decide +kernel) rfl rfl (by decide) (Or.inr (Or.inl ⟨rfl, rfl⟩)) zex_0 (fun P cp ns hh => s_X8_loud ns cp P)
theorem e_X8_loud (x0 x1 x2 x3 x4 : Int) (σ : zHp) : m_X8_loud [x0, x1, x2, x3, x4] σ = (d_X8_loud [x0, x1, x2, x3, x4] σ).bind fun q => if q.1 = 1 then some (zg q.2.1 0, q.2.2) else none := rfl
abbrev wz_X8_whose : List Cond := Cond.code yX8_whose cX8_whose 5 (some .int) :: zG
def lc_X8_whose_1 : zC := cR r_lt (xL 4) (xG 6 0)
def lf_X8_whose_1 : zS := sI (cR r_eq (xL 3) (xB zShl (xC 1) (xL 4))) (sR (xL 4)) sK
def ls_X8_whose_1 : zS := sS 4 (xB o_iadd (xL 4) (xC 1))
def d_X8_whose : zS := sQ (sI (cN (cV rb (xK m_X8_isCell (aC (xC 0) (aC (xL 1) (aN)))))) (sR (xC (-1))) sK) (sQ (sI (cN (cV rb (xK m_X8_isWind (aC (xL 2) (aN))))) (sR (xC (-2))) sK) (sQ (sX (xK m_X0_blow (aC (xC 10) (aC (xL 2) (aN))))) (sQ (sS 3 (xK m_X0_loudestIn (aC (xC 10) (aC (xL 1) (aN))))) (sQ (sD [4] (sQ (sS 4 (xC 0)) (sW lc_X8_whose_1 lf_X8_whose_1 ls_X8_whose_1))) (sR (xI (cV (fun x => r_eq x 0) (xL 3)) (xC (-6)) (xC (-5))))))))
def m_X8_whose : List Int → zHp → Option (Int × zHp) := zRun 5 [10, 0, 0] d_X8_whose
set_option maxRecDepth 100000 in
set_option maxHeartbeats 4000000 in
theorem s_X8_whose (ns : List Nat) (cp : Int) (P : Int → zHp → Prop) : zSt (RX8, cX8_whose, 5, wz_X8_whose, 5, 121, none, 0, ns, ns, cp, P) [(0, 10), (1, 0), (2, 0)] 0 0 [] zX0 (d_X8_whose) := zs_seq (zs_if (zc_not (zc_b (zx_sub (zx_callV (za_cons (zx_this (o := 0) dX8_whose_0 rfl rfl (by decide) (by decide)) rfl (za_cons (zx_iload_n dX8_whose_1 rfl (by decide)) rfl (za_nil))) k_X8_isCell zf_0 (by decide) (by decide) (by decide) rfl rfl (zGV zw_314 zw_316 zw_1 zw_8 zw_317) rfl hyV_X8_isCell ⟨Nat.le_of_ble_eq_true rfl, Nat.le_of_ble_eq_true rfl⟩ (by decide) dX8_whose_2)) dX8_whose_5 (by decide))) (zs_ret (zx_iconst dX8_whose_8 rfl ⟨by decide, by decide⟩) rfl (by decide) dX8_whose_9) zs_skip) (zs_seq (zs_if (zc_not (zc_b (zx_sub (zx_callS (za_cons (zx_iload_n dX8_whose_10 rfl (by decide)) rfl (za_nil)) k_X8_isWind zf_0 (by decide) rfl (zGS zw_318 zw_319 zw_8 zw_320) rfl hyS_X8_isWind ⟨Nat.le_of_ble_eq_true rfl, Nat.le_of_ble_eq_true rfl⟩ (by decide) dX8_whose_11)) dX8_whose_14 (by decide))) (zs_ret (zx_bipush dX8_whose_17 rfl ⟨by decide, by decide⟩) rfl (by decide) dX8_whose_19) zs_skip) (zs_seq (zs_callV (za_cons (zx_path (o := 0) (o2 := 10) (k := 2) (zx_this (o := 0) dX8_whose_20 rfl rfl (by decide) (by decide)) rfl (by decide) rfl rfl (by decide) inC_X8 (List.mem_cons_of_mem _ zw_241) rfl rfl rfl dX8_whose_21) rfl (za_cons (zx_iload_n dX8_whose_24 rfl (by decide)) rfl (za_nil))) k_X0_blow zf_0 (by decide) (by decide) rfl rfl (zGV zw_359 zw_360 zw_361 zw_11 zw_362) rfl hyV_X0_blow ⟨Nat.le_of_ble_eq_true rfl, Nat.le_of_ble_eq_true rfl⟩ dX8_whose_25) (zs_seq (zs_istore_n (Γ2 := [(0, 10), (1, 0), (2, 0), (3, 0)]) (zx_callV (za_cons (zx_path (o := 0) (o2 := 10) (k := 2) (zx_this (o := 0) dX8_whose_28 rfl rfl (by decide) (by decide)) rfl (by decide) rfl rfl (by decide) inC_X8 (List.mem_cons_of_mem _ zw_241) rfl rfl rfl dX8_whose_29) rfl (za_cons (zx_iload_n dX8_whose_32 rfl (by decide)) rfl (za_nil))) k_X0_loudestIn zf_0 (by decide) (by decide) (by decide) rfl rfl (zGV zw_365 zw_366 zw_367 zw_11 zw_368) rfl hyV_X0_loudestIn ⟨Nat.le_of_ble_eq_true rfl, Nat.le_of_ble_eq_true rfl⟩ (by decide) dX8_whose_33) dX8_whose_36 rfl (Nat.le_of_ble_eq_true rfl) (by decide)) (zs_seq (zs_blk (Γ2 := [(0, 10), (1, 0), (2, 0), (3, 0)]) (Γ3 := [(0, 10), (1, 0), (2, 0), (3, 0), (4, 0)]) (ks := [4]) (zs_seq (zs_istore (Γ2 := [(0, 10), (1, 0), (2, 0), (3, 0), (4, 0)]) (zx_iconst dX8_whose_37 rfl ⟨by decide, by decide⟩) dX8_whose_38 (Nat.le_of_ble_eq_true rfl) (by decide)) (zs_loop (Γ := [(0, 10), (1, 0), (2, 0), (3, 0), (4, 0)]) (zc_icmpN_lt (zx_iload dX8_whose_40 (by decide)) (zx_fldS (o := 6) (k := 0) (zx_path (o := 0) (o2 := 6) (k := 1) (zx_this (o := 0) dX8_whose_42 rfl rfl (by decide) (by decide)) rfl (by decide) rfl rfl (by decide) inC_X8 (List.mem_cons_of_mem _ zw_240) rfl rfl rfl dX8_whose_43) rfl rfl (by decide) inC_X1 (List.mem_cons_of_mem _ zw_71) rfl (by decide) rfl dX8_whose_46) dX8_whose_49 (by decide)) (zs_if (zc_icmpN_eq (zx_iload_n dX8_whose_52 rfl (by decide)) (zx_ishl (zx_iconst dX8_whose_53 rfl ⟨by decide, by decide⟩) (zx_iload dX8_whose_54 (by decide)) dX8_whose_56) dX8_whose_57 (by decide)) (zs_ret (zx_iload dX8_whose_60 (by decide)) rfl (by decide) dX8_whose_62) zs_skip) (zs_goto (zs_iinc (Γ2 := [(0, 10), (1, 0), (2, 0), (3, 0), (4, 0)]) dX8_whose_63 (by decide) (Nat.le_of_ble_eq_true rfl) (by decide)) dX8_whose_66 (by decide)))) (by decide) (by decide) zX0_ok) (zs_ret (zx_ite (zc_ifN_eq (zx_iload_n dX8_whose_69 rfl (by decide)) dX8_whose_70 (by decide)) (zx_bipush dX8_whose_73 rfl ⟨by decide, by decide⟩) dX8_whose_75 (by decide) (zx_bipush dX8_whose_78 rfl ⟨by decide, by decide⟩)) rfl (by decide) dX8_whose_80)))))
theorem k_X8_whose : zCon yX8_whose wz_X8_whose [] [] (none) 5 121 [10, 0, 0] 0 (m_X8_whose) := zMk (own := RX8) (cc := cX8_whose) (b := 0) (Γ2 := []) (X := zX0) (by decide +kernel) rfl rfl (by decide) (Or.inl ⟨rfl, rfl⟩) zex_0 (fun P cp ns hh => s_X8_whose ns cp P)
theorem e_X8_whose (x0 x1 x2 : Int) (σ : zHp) : m_X8_whose [x0, x1, x2] σ = (d_X8_whose [x0, x1, x2, 0, 0] σ).bind fun q => if q.1 = 1 then some (zg q.2.1 0, q.2.2) else none := rfl
abbrev wz_X8_reach : List Cond := Cond.code yX8_reach cX8_reach 5 (some .int) :: zG
def lc_X8_reach_1 : zC := cR r_lt (xL 4) (xG 1 2)
def lf_X8_reach_1 : zS := sS 3 (xB zOr (xL 3) (xB zShl (xB zAnd (xB zShr (xK m_X0_loudestIn (aC (xC 10) (aC (xL 4) (aN)))) (xL 1)) (xC 1)) (xL 4)))
def ls_X8_reach_1 : zS := sS 4 (xB o_iadd (xL 4) (xC 1))
def d_X8_reach : zS := sQ (sI (cN (cV rb (xK m_X8_isBell (aC (xC 0) (aC (xL 1) (aN)))))) (sR (xC (-1))) sK) (sQ (sI (cN (cV rb (xK m_X8_isWind (aC (xL 2) (aN))))) (sR (xC (-2))) sK) (sQ (sX (xK m_X0_blow (aC (xC 10) (aC (xL 2) (aN))))) (sQ (sS 3 (xC 0)) (sQ (sD [4] (sQ (sS 4 (xC 0)) (sW lc_X8_reach_1 lf_X8_reach_1 ls_X8_reach_1))) (sR (xL 3))))))
def m_X8_reach : List Int → zHp → Option (Int × zHp) := zRun 5 [10, 0, 0] d_X8_reach
set_option maxRecDepth 100000 in
set_option maxHeartbeats 4000000 in
theorem s_X8_reach (ns : List Nat) (cp : Int) (P : Int → zHp → Prop) : zSt (RX8, cX8_reach, 5, wz_X8_reach, 5, 121, none, 0, ns, ns, cp, P) [(0, 10), (1, 0), (2, 0)] 0 0 [] zX0 (d_X8_reach) := zs_seq (zs_if (zc_not (zc_b (zx_sub (zx_callV (za_cons (zx_this (o := 0) dX8_reach_0 rfl rfl (by decide) (by decide)) rfl (za_cons (zx_iload_n dX8_reach_1 rfl (by decide)) rfl (za_nil))) k_X8_isBell zf_0 (by decide) (by decide) (by decide) rfl rfl (zGV zw_306 zw_308 zw_0 zw_8 zw_309) rfl hyV_X8_isBell ⟨Nat.le_of_ble_eq_true rfl, Nat.le_of_ble_eq_true rfl⟩ (by decide) dX8_reach_2)) dX8_reach_5 (by decide))) (zs_ret (zx_iconst dX8_reach_8 rfl ⟨by decide, by decide⟩) rfl (by decide) dX8_reach_9) zs_skip) (zs_seq (zs_if (zc_not (zc_b (zx_sub (zx_callS (za_cons (zx_iload_n dX8_reach_10 rfl (by decide)) rfl (za_nil)) k_X8_isWind zf_0 (by decide) rfl (zGS zw_318 zw_319 zw_8 zw_320) rfl hyS_X8_isWind ⟨Nat.le_of_ble_eq_true rfl, Nat.le_of_ble_eq_true rfl⟩ (by decide) dX8_reach_11)) dX8_reach_14 (by decide))) (zs_ret (zx_bipush dX8_reach_17 rfl ⟨by decide, by decide⟩) rfl (by decide) dX8_reach_19) zs_skip) (zs_seq (zs_callV (za_cons (zx_path (o := 0) (o2 := 10) (k := 2) (zx_this (o := 0) dX8_reach_20 rfl rfl (by decide) (by decide)) rfl (by decide) rfl rfl (by decide) inC_X8 (List.mem_cons_of_mem _ zw_241) rfl rfl rfl dX8_reach_21) rfl (za_cons (zx_iload_n dX8_reach_24 rfl (by decide)) rfl (za_nil))) k_X0_blow zf_0 (by decide) (by decide) rfl rfl (zGV zw_359 zw_360 zw_361 zw_11 zw_362) rfl hyV_X0_blow ⟨Nat.le_of_ble_eq_true rfl, Nat.le_of_ble_eq_true rfl⟩ dX8_reach_25) (zs_seq (zs_istore_n (Γ2 := [(0, 10), (1, 0), (2, 0), (3, 0)]) (zx_iconst dX8_reach_28 rfl ⟨by decide, by decide⟩) dX8_reach_29 rfl (Nat.le_of_ble_eq_true rfl) (by decide)) (zs_seq (zs_blk (Γ2 := [(0, 10), (1, 0), (2, 0), (3, 0)]) (Γ3 := [(0, 10), (1, 0), (2, 0), (3, 0), (4, 0)]) (ks := [4]) (zs_seq (zs_istore (Γ2 := [(0, 10), (1, 0), (2, 0), (3, 0), (4, 0)]) (zx_iconst dX8_reach_30 rfl ⟨by decide, by decide⟩) dX8_reach_31 (Nat.le_of_ble_eq_true rfl) (by decide)) (zs_loop (Γ := [(0, 10), (1, 0), (2, 0), (3, 0), (4, 0)]) (zc_icmpN_lt (zx_iload dX8_reach_33 (by decide)) (zx_fldS (o := 1) (k := 2) (zx_path (o := 0) (o2 := 1) (k := 0) (zx_this (o := 0) dX8_reach_35 rfl rfl (by decide) (by decide)) rfl (by decide) rfl rfl (by decide) inC_X8 (List.mem_cons_of_mem _ zw_239) rfl rfl rfl dX8_reach_36) rfl rfl (by decide) inC_X3 (List.mem_cons_of_mem _ zw_36) rfl (by decide) rfl dX8_reach_39) dX8_reach_42 (by decide)) (zs_istore_n (Γ2 := [(0, 10), (1, 0), (2, 0), (3, 0), (4, 0)]) (zx_ior (zx_iload_n dX8_reach_45 rfl (by decide)) (zx_ishl (zx_iand (zx_ishr (zx_callV (za_cons (zx_path (o := 0) (o2 := 10) (k := 2) (zx_this (o := 0) dX8_reach_46 rfl rfl (by decide) (by decide)) rfl (by decide) rfl rfl (by decide) inC_X8 (List.mem_cons_of_mem _ zw_241) rfl rfl rfl dX8_reach_47) rfl (za_cons (zx_iload dX8_reach_50 (by decide)) rfl (za_nil))) k_X0_loudestIn zf_0 (by decide) (by decide) (by decide) rfl rfl (zGV zw_365 zw_366 zw_367 zw_11 zw_368) rfl hyV_X0_loudestIn ⟨Nat.le_of_ble_eq_true rfl, Nat.le_of_ble_eq_true rfl⟩ (by decide) dX8_reach_52) (zx_iload_n dX8_reach_55 rfl (by decide)) dX8_reach_56) (zx_iconst dX8_reach_57 rfl ⟨by decide, by decide⟩) dX8_reach_58) (zx_iload dX8_reach_59 (by decide)) dX8_reach_61) dX8_reach_62) dX8_reach_63 rfl (Nat.le_of_ble_eq_true rfl) (by decide)) (zs_goto (zs_iinc (Γ2 := [(0, 10), (1, 0), (2, 0), (3, 0), (4, 0)]) dX8_reach_64 (by decide) (Nat.le_of_ble_eq_true rfl) (by decide)) dX8_reach_67 (by decide)))) (by decide) (by decide) zX0_ok) (zs_ret (zx_iload_n dX8_reach_70 rfl (by decide)) rfl (by decide) dX8_reach_71)))))
theorem k_X8_reach : zCon yX8_reach wz_X8_reach [] [] (none) 5 121 [10, 0, 0] 0 (m_X8_reach) := zMk (own := RX8) (cc := cX8_reach) (b := 0) (Γ2 := []) (X := zX0) (by decide +kernel) rfl rfl (by decide) (Or.inl ⟨rfl, rfl⟩) zex_0 (fun P cp ns hh => s_X8_reach ns cp P)
theorem e_X8_reach (x0 x1 x2 : Int) (σ : zHp) : m_X8_reach [x0, x1, x2] σ = (d_X8_reach [x0, x1, x2, 0, 0] σ).bind fun q => if q.1 = 1 then some (zg q.2.1 0, q.2.2) else none := rfl
abbrev wz_X8_partsOfTithe : List Cond := Cond.code yX8_partsOfTithe cX8_partsOfTithe 5 (some .int) :: zG
def lc_X8_partsOfTithe_1 : zC := cR r_lt (xL 3) (xG 1 2)
def lf_X8_partsOfTithe_1 : zS := sD [4] (sQ (sS 4 (xK m_X0_loudestIn (aC (xC 10) (aC (xL 3) (aN))))) (sI (cR r_eq (xB zAnd (xB zShr (xL 4) (xL 1)) (xC 1)) (xC 1)) (sS 2 (xB o_iadd (xL 2) (xD zdiv (xB o_imul (xK m_X3_titheOf (aC (xC 1) (aC (xL 3) (aN)))) (xC 60)) (xK m_J6_bitCount_0f7a4 (aC (xL 4) (aN)))))) sK))
def ls_X8_partsOfTithe_1 : zS := sS 3 (xB o_iadd (xL 3) (xC 1))
def d_X8_partsOfTithe : zS := sQ (sS 2 (xC 0)) (sQ (sD [3] (sQ (sS 3 (xC 0)) (sW lc_X8_partsOfTithe_1 lf_X8_partsOfTithe_1 ls_X8_partsOfTithe_1))) (sR (xL 2)))
def m_X8_partsOfTithe : List Int → zHp → Option (Int × zHp) := zRun 5 [10, 0] d_X8_partsOfTithe
set_option maxRecDepth 100000 in
set_option maxHeartbeats 4000000 in
theorem s_X8_partsOfTithe (ns : List Nat) (cp : Int) (P : Int → zHp → Prop) : zSt (RX8, cX8_partsOfTithe, 5, wz_X8_partsOfTithe, 3, 74, none, 0, ns, ns, cp, P) [(0, 10), (1, 0)] 0 0 [] zX0 (d_X8_partsOfTithe) := zs_seq (zs_istore_n (Γ2 := [(0, 10), (1, 0), (2, 0)]) (zx_iconst dX8_partsOfTithe_0 rfl ⟨by decide, by decide⟩) dX8_partsOfTithe_1 rfl (Nat.le_of_ble_eq_true rfl) (by decide)) (zs_seq (zs_blk (Γ2 := [(0, 10), (1, 0), (2, 0)]) (Γ3 := [(0, 10), (1, 0), (2, 0), (3, 0)]) (ks := [3]) (zs_seq (zs_istore_n (Γ2 := [(0, 10), (1, 0), (2, 0), (3, 0)]) (zx_iconst dX8_partsOfTithe_2 rfl ⟨by decide, by decide⟩) dX8_partsOfTithe_3 rfl (Nat.le_of_ble_eq_true rfl) (by decide)) (zs_loop (Γ := [(0, 10), (1, 0), (2, 0), (3, 0)]) (zc_icmpN_lt (zx_iload_n dX8_partsOfTithe_4 rfl (by decide)) (zx_fldS (o := 1) (k := 2) (zx_path (o := 0) (o2 := 1) (k := 0) (zx_this (o := 0) dX8_partsOfTithe_5 rfl rfl (by decide) (by decide)) rfl (by decide) rfl rfl (by decide) inC_X8 (List.mem_cons_of_mem _ zw_239) rfl rfl rfl dX8_partsOfTithe_6) rfl rfl (by decide) inC_X3 (List.mem_cons_of_mem _ zw_36) rfl (by decide) rfl dX8_partsOfTithe_9) dX8_partsOfTithe_12 (by decide)) (zs_blk (Γ2 := [(0, 10), (1, 0), (2, 0), (3, 0)]) (Γ3 := [(0, 10), (1, 0), (2, 0), (3, 0), (4, 0)]) (ks := [4]) (zs_seq (zs_istore (Γ2 := [(0, 10), (1, 0), (2, 0), (3, 0), (4, 0)]) (zx_callV (za_cons (zx_path (o := 0) (o2 := 10) (k := 2) (zx_this (o := 0) dX8_partsOfTithe_15 rfl rfl (by decide) (by decide)) rfl (by decide) rfl rfl (by decide) inC_X8 (List.mem_cons_of_mem _ zw_241) rfl rfl rfl dX8_partsOfTithe_16) rfl (za_cons (zx_iload_n dX8_partsOfTithe_19 rfl (by decide)) rfl (za_nil))) k_X0_loudestIn zf_0 (by decide) (by decide) (by decide) rfl rfl (zGV zw_365 zw_366 zw_367 zw_11 zw_368) rfl hyV_X0_loudestIn ⟨Nat.le_of_ble_eq_true rfl, Nat.le_of_ble_eq_true rfl⟩ (by decide) dX8_partsOfTithe_20) dX8_partsOfTithe_23 (Nat.le_of_ble_eq_true rfl) (by decide)) (zs_if (zc_icmpN_eq (zx_iand (zx_ishr (zx_iload dX8_partsOfTithe_25 (by decide)) (zx_iload_n dX8_partsOfTithe_27 rfl (by decide)) dX8_partsOfTithe_28) (zx_iconst dX8_partsOfTithe_29 rfl ⟨by decide, by decide⟩) dX8_partsOfTithe_30) (zx_iconst dX8_partsOfTithe_31 rfl ⟨by decide, by decide⟩) dX8_partsOfTithe_32 (by decide)) (zs_istore_n (Γ2 := [(0, 10), (1, 0), (2, 0), (3, 0), (4, 0)]) (zx_iadd (zx_iload_n dX8_partsOfTithe_35 rfl (by decide)) (zx_idiv (zx_imul (zx_callV (za_cons (zx_path (o := 0) (o2 := 1) (k := 0) (zx_this (o := 0) dX8_partsOfTithe_36 rfl rfl (by decide) (by decide)) rfl (by decide) rfl rfl (by decide) inC_X8 (List.mem_cons_of_mem _ zw_239) rfl rfl rfl dX8_partsOfTithe_37) rfl (za_cons (zx_iload_n dX8_partsOfTithe_40 rfl (by decide)) rfl (za_nil))) k_X3_titheOf zf_0 (by decide) (by decide) (by decide) rfl rfl (zGV zw_385 zw_386 zw_387 zw_9 zw_388) rfl hyV_X3_titheOf ⟨Nat.le_of_ble_eq_true rfl, Nat.le_of_ble_eq_true rfl⟩ (by decide) dX8_partsOfTithe_41) (zx_bipush dX8_partsOfTithe_44 rfl ⟨by decide, by decide⟩) dX8_partsOfTithe_46) (zx_callS (za_cons (zx_iload dX8_partsOfTithe_47 (by decide)) rfl (za_nil)) k_J6_bitCount_0f7a4 zf_0 (by decide) rfl (zGS zw_389 zw_390 zw_19 zw_391) rfl hyS_J6_bitCount_0f7a4 ⟨Nat.le_of_ble_eq_true rfl, Nat.le_of_ble_eq_true rfl⟩ (by decide) dX8_partsOfTithe_49) dX8_partsOfTithe_52) dX8_partsOfTithe_53) dX8_partsOfTithe_54 rfl (Nat.le_of_ble_eq_true rfl) (by decide)) zs_skip)) (by decide) (by decide) (zY_ok (by decide))) (zs_goto (zs_iinc (Γ2 := [(0, 10), (1, 0), (2, 0), (3, 0)]) dX8_partsOfTithe_55 (by decide) (Nat.le_of_ble_eq_true rfl) (by decide)) dX8_partsOfTithe_58 (by decide)))) (by decide) (by decide) zX0_ok) (zs_ret (zx_iload_n dX8_partsOfTithe_61 rfl (by decide)) rfl (by decide) dX8_partsOfTithe_62))
theorem k_X8_partsOfTithe : zCon yX8_partsOfTithe wz_X8_partsOfTithe [] [] (none) 3 74 [10, 0] 0 (m_X8_partsOfTithe) := zMk (own := RX8) (cc := cX8_partsOfTithe) (b := 0) (Γ2 := []) (X := zX0) (by decide +kernel) rfl rfl (by decide) (Or.inl ⟨rfl, rfl⟩) zex_0 (fun P cp ns hh => s_X8_partsOfTithe ns cp P)
theorem e_X8_partsOfTithe (x0 x1 : Int) (σ : zHp) : m_X8_partsOfTithe [x0, x1] σ = (d_X8_partsOfTithe [x0, x1, 0, 0, 0] σ).bind fun q => if q.1 = 1 then some (zg q.2.1 0, q.2.2) else none := rfl
abbrev wz_X8_tithes : List Cond := Cond.code yX8_tithes cX8_tithes 11 (some .long) :: zG
def lc_X8_tithes_1 : zC := cR r_lt (xL 8) (xB o_iadd (xL 4) (xL 5))
def lf_X8_tithes_1 : zS := sI (cN (cV rb (xK m_X8_isWind (aC (xA (xU (fun x => x + 1) (xL 7)) 60 (xL 8)) (aN))))) (sR (xC (-9223372036854775808))) sK
def ls_X8_tithes_1 : zS := sS 8 (xB o_iadd (xL 8) (xC 1))
def lc_X8_tithes_2 : zC := cR r_lt (xL 10) (xB o_iadd (xL 4) (xL 5))
def lf_X8_tithes_2 : zS := sQ (sX (xK m_X0_blow (aC (xC 10) (aC (xA (xU (fun x => x + 1) (xL 7)) 60 (xL 10)) (aN))))) (sS 8 (xB o_ladd (xL 8) (xK m_X8_partsOfTithe (aC (xC 0) (aC (xL 1) (aN))))))
def ls_X8_tithes_2 : zS := sS 10 (xB o_iadd (xL 10) (xC 1))
def d_X8_tithes : zS := sQ (sG 0 8 (xC 0)) (sQ (sI (cO (cO (cN (cV rb (xK m_X8_isBell (aC (xC 0) (aC (xL 1) (aN)))))) (cN (cV rb (xK m_X8_isSheet (aC (xL 2) (aN)))))) (cN (cV rb (xK m_X8_isSort (aC (xL 3) (aN)))))) (sR (xC (-9223372036854775808))) sK) (sQ (sS 7 (xH (xL 2))) (sQ (sG 0 8 (xK m_X6_faultOfRow (aC (xL 7) (aC (xL 3) (aC (xL 4) (aC (xL 5) (aN))))))) (sQ (sI (cO (cV (fun x => r_ne x 0) (xG 0 8)) (cN (cV rb (xK m_X8_isOneOfTwo (aC (xL 6) (aN)))))) (sR (xC (-9223372036854775808))) sK) (sQ (sD [8] (sQ (sS 8 (xL 4)) (sW lc_X8_tithes_1 lf_X8_tithes_1 ls_X8_tithes_1))) (sQ (sS 8 (xC 0)) (sQ (sD [10] (sQ (sS 10 (xL 4)) (sW lc_X8_tithes_2 lf_X8_tithes_2 ls_X8_tithes_2))) (sR (xK m_X8_share (aC (xL 8) (aC (xC 60) (aC (xL 6) (aN)))))))))))))
def m_X8_tithes : List Int → zHp → Option (Int × zHp) := zRun 11 [10, 0, 0, 0, 0, 0, 0] d_X8_tithes
set_option maxRecDepth 100000 in
set_option maxHeartbeats 4000000 in
theorem s_X8_tithes (ns : List Nat) (cp : Int) (P : Int → zHp → Prop) : zSt (RX8, cX8_tithes, 11, wz_X8_tithes, 5, 121, none, 1, ns, ns, cp, P) [(0, 10), (1, 0), (2, 0), (3, 0), (4, 0), (5, 0), (6, 0)] 0 0 [] zX0 (d_X8_tithes) := zs_seq (zs_putS (o := 0) (k := 8) (zx_this (o := 0) dX8_tithes_0 rfl rfl (by decide) (by decide)) (zx_iconst dX8_tithes_1 rfl ⟨by decide, by decide⟩) rfl rfl (by decide) inC_X8 (List.mem_cons_of_mem _ zw_247) tyX8_ok nmX8 rfl (tyX8_ok 8 (by decide)) rfl (by decide) rfl dX8_tithes_2) (zs_seq (zs_if (zc_or (zc_or (zc_not (zc_bN (zx_sub (zx_callV (za_cons (zx_this (o := 0) dX8_tithes_5 rfl rfl (by decide) (by decide)) rfl (za_cons (zx_iload_n dX8_tithes_6 rfl (by decide)) rfl (za_nil))) k_X8_isBell zf_0 (by decide) (by decide) (by decide) rfl rfl (zGV zw_306 zw_308 zw_0 zw_8 zw_309) rfl hyV_X8_isBell ⟨Nat.le_of_ble_eq_true rfl, Nat.le_of_ble_eq_true rfl⟩ (by decide) dX8_tithes_7)) dX8_tithes_10 (by decide))) (zc_not (zc_bN (zx_sub (zx_callS (za_cons (zx_iload_n dX8_tithes_13 rfl (by decide)) rfl (za_nil)) k_X8_isSheet zf_0 (by decide) rfl (zGS zw_273 zw_274 zw_8 zw_275) rfl hyS_X8_isSheet ⟨Nat.le_of_ble_eq_true rfl, Nat.le_of_ble_eq_true rfl⟩ (by decide) dX8_tithes_14)) dX8_tithes_17 (by decide)))) (zc_not (zc_b (zx_sub (zx_callS (za_cons (zx_iload_n dX8_tithes_20 rfl (by decide)) rfl (za_nil)) k_X8_isSort zf_0 (by decide) rfl (zGS zw_276 zw_277 zw_8 zw_278) rfl hyS_X8_isSort ⟨Nat.le_of_ble_eq_true rfl, Nat.le_of_ble_eq_true rfl⟩ (by decide) dX8_tithes_21)) dX8_tithes_24 (by decide)))) (zs_ret (zx_ldc2 dX8_tithes_27 (List.mem_cons_of_mem _ zw_324) rfl ⟨by decide, by decide⟩) rfl (by decide) dX8_tithes_30) zs_skip) (zs_seq (zs_astore (Γ2 := [(0, 10), (1, 0), (2, 0), (3, 0), (4, 0), (5, 0), (6, 0), (7, 5)]) (zx_aald (zx_path (o := 0) (o2 := 28) (k := 7) (zx_this (o := 0) dX8_tithes_31 rfl rfl (by decide) (by decide)) rfl (by decide) rfl rfl (by decide) inC_X8 (List.mem_cons_of_mem _ zw_246) rfl rfl rfl dX8_tithes_32) (zx_iload_n dX8_tithes_35 rfl (by decide)) dX8_tithes_36) (by decide) dX8_tithes_37 (Nat.le_of_ble_eq_true rfl) (by decide)) (zs_seq (zs_putS (o := 0) (k := 8) (zx_this (o := 0) dX8_tithes_39 rfl rfl (by decide) (by decide)) (zx_callV (za_cons (zx_aload (t := 5) dX8_tithes_40 (by decide) (by decide)) rfl (za_cons (zx_iload_n dX8_tithes_42 rfl (by decide)) rfl (za_cons (zx_iload dX8_tithes_43 (by decide)) rfl (za_cons (zx_iload dX8_tithes_45 (by decide)) rfl (za_nil))))) k_X6_faultOfRow zf_0 (by decide) (by decide) (by decide) rfl rfl (zGV zw_279 zw_280 zw_281 zw_16 zw_282) rfl hyV_X6_faultOfRow ⟨Nat.le_of_ble_eq_true rfl, Nat.le_of_ble_eq_true rfl⟩ (by decide) dX8_tithes_47) rfl rfl (by decide) inC_X8 (List.mem_cons_of_mem _ zw_247) tyX8_ok nmX8 rfl (tyX8_ok 8 (by decide)) rfl (by decide) rfl dX8_tithes_50) (zs_seq (zs_if (zc_or (zc_if_ne (zx_fldS (o := 0) (k := 8) (zx_this (o := 0) dX8_tithes_53 rfl rfl (by decide) (by decide)) rfl rfl (by decide) inC_X8 (List.mem_cons_of_mem _ zw_247) rfl (by decide) rfl dX8_tithes_54) dX8_tithes_57 (by decide)) (zc_not (zc_b (zx_sub (zx_callS (za_cons (zx_iload dX8_tithes_60 (by decide)) rfl (za_nil)) k_X8_isOneOfTwo zf_0 (by decide) rfl (zGS zw_321 zw_322 zw_8 zw_323) rfl hyS_X8_isOneOfTwo ⟨Nat.le_of_ble_eq_true rfl, Nat.le_of_ble_eq_true rfl⟩ (by decide) dX8_tithes_62)) dX8_tithes_65 (by decide)))) (zs_ret (zx_ldc2 dX8_tithes_68 (List.mem_cons_of_mem _ zw_324) rfl ⟨by decide, by decide⟩) rfl (by decide) dX8_tithes_71) zs_skip) (zs_seq (zs_blk (Γ2 := [(0, 10), (1, 0), (2, 0), (3, 0), (4, 0), (5, 0), (6, 0), (7, 5)]) (Γ3 := [(0, 10), (1, 0), (2, 0), (3, 0), (4, 0), (5, 0), (6, 0), (7, 5), (8, 0)]) (ks := [8]) (zs_seq (zs_istore (Γ2 := [(0, 10), (1, 0), (2, 0), (3, 0), (4, 0), (5, 0), (6, 0), (7, 5), (8, 0)]) (zx_iload dX8_tithes_72 (by decide)) dX8_tithes_74 (Nat.le_of_ble_eq_true rfl) (by decide)) (zs_loop (Γ := [(0, 10), (1, 0), (2, 0), (3, 0), (4, 0), (5, 0), (6, 0), (7, 5), (8, 0)]) (zc_icmpN_lt (zx_iload dX8_tithes_76 (by decide)) (zx_iadd (zx_iload dX8_tithes_78 (by decide)) (zx_iload dX8_tithes_80 (by decide)) dX8_tithes_82) dX8_tithes_83 (by decide)) (zs_if (zc_not (zc_b (zx_sub (zx_callS (za_cons (zx_iald (zx_num (zx_aload (t := 5) dX8_tithes_86 (by decide) (by decide)) inC_X6 (List.mem_cons_of_mem _ zw_225) dX8_tithes_88) (zx_iload dX8_tithes_91 (by decide)) (by decide) (zp_a (by decide)) rfl rfl dX8_tithes_93) rfl (za_nil)) k_X8_isWind zf_0 (by decide) rfl (zGS zw_318 zw_319 zw_8 zw_320) rfl hyS_X8_isWind ⟨Nat.le_of_ble_eq_true rfl, Nat.le_of_ble_eq_true rfl⟩ (by decide) dX8_tithes_94)) dX8_tithes_97 (by decide))) (zs_ret (zx_ldc2 dX8_tithes_100 (List.mem_cons_of_mem _ zw_324) rfl ⟨by decide, by decide⟩) rfl (by decide) dX8_tithes_103) zs_skip) (zs_goto (zs_iinc (Γ2 := [(0, 10), (1, 0), (2, 0), (3, 0), (4, 0), (5, 0), (6, 0), (7, 5), (8, 0)]) dX8_tithes_104 (by decide) (Nat.le_of_ble_eq_true rfl) (by decide)) dX8_tithes_107 (by decide)))) (by decide) (by decide) zX0_ok) (zs_seq (zs_lstore (Γ2 := [(0, 10), (1, 0), (2, 0), (3, 0), (4, 0), (5, 0), (6, 0), (7, 5), (8, 1)]) (zx_lconst dX8_tithes_110 rfl ⟨by decide, by decide⟩) dX8_tithes_111 (Nat.le_of_ble_eq_true rfl) (by decide)) (zs_seq (zs_blk (Γ2 := [(0, 10), (1, 0), (2, 0), (3, 0), (4, 0), (5, 0), (6, 0), (7, 5), (8, 1)]) (Γ3 := [(0, 10), (1, 0), (2, 0), (3, 0), (4, 0), (5, 0), (6, 0), (7, 5), (8, 1), (10, 0)]) (ks := [10]) (zs_seq (zs_istore (Γ2 := [(0, 10), (1, 0), (2, 0), (3, 0), (4, 0), (5, 0), (6, 0), (7, 5), (8, 1), (10, 0)]) (zx_iload dX8_tithes_113 (by decide)) dX8_tithes_115 (Nat.le_of_ble_eq_true rfl) (by decide)) (zs_loop (Γ := [(0, 10), (1, 0), (2, 0), (3, 0), (4, 0), (5, 0), (6, 0), (7, 5), (8, 1), (10, 0)]) (zc_icmpN_lt (zx_iload dX8_tithes_117 (by decide)) (zx_iadd (zx_iload dX8_tithes_119 (by decide)) (zx_iload dX8_tithes_121 (by decide)) dX8_tithes_123) dX8_tithes_124 (by decide)) (zs_seq (zs_callV (za_cons (zx_path (o := 0) (o2 := 10) (k := 2) (zx_this (o := 0) dX8_tithes_127 rfl rfl (by decide) (by decide)) rfl (by decide) rfl rfl (by decide) inC_X8 (List.mem_cons_of_mem _ zw_241) rfl rfl rfl dX8_tithes_128) rfl (za_cons (zx_iald (zx_num (zx_aload (t := 5) dX8_tithes_131 (by decide) (by decide)) inC_X6 (List.mem_cons_of_mem _ zw_225) dX8_tithes_133) (zx_iload dX8_tithes_136 (by decide)) (by decide) (zp_a (by decide)) rfl rfl dX8_tithes_138) rfl (za_nil))) k_X0_blow zf_0 (by decide) (by decide) rfl rfl (zGV zw_359 zw_360 zw_361 zw_11 zw_362) rfl hyV_X0_blow ⟨Nat.le_of_ble_eq_true rfl, Nat.le_of_ble_eq_true rfl⟩ dX8_tithes_139) (zs_lstore (Γ2 := [(0, 10), (1, 0), (2, 0), (3, 0), (4, 0), (5, 0), (6, 0), (7, 5), (8, 1), (10, 0)]) (zx_ladd (zx_lload dX8_tithes_142 (by decide)) (zx_i2l (zx_callV (za_cons (zx_this (o := 0) dX8_tithes_144 rfl rfl (by decide) (by decide)) rfl (za_cons (zx_iload_n dX8_tithes_145 rfl (by decide)) rfl (za_nil))) k_X8_partsOfTithe zf_0 (by decide) (by decide) (by decide) rfl rfl (zGV zw_381 zw_383 zw_3 zw_8 zw_384) rfl hyV_X8_partsOfTithe ⟨Nat.le_of_ble_eq_true rfl, Nat.le_of_ble_eq_true rfl⟩ (by decide) dX8_tithes_146) dX8_tithes_149) dX8_tithes_150) dX8_tithes_151 (Nat.le_of_ble_eq_true rfl) (by decide))) (zs_goto (zs_iinc (Γ2 := [(0, 10), (1, 0), (2, 0), (3, 0), (4, 0), (5, 0), (6, 0), (7, 5), (8, 1), (10, 0)]) dX8_tithes_153 (by decide) (Nat.le_of_ble_eq_true rfl) (by decide)) dX8_tithes_156 (by decide)))) (by decide) (by decide) zX0_ok) (zs_ret (zx_callS (za_cons (zx_lload dX8_tithes_159 (by decide)) rfl (za_cons (zx_ldc2 dX8_tithes_161 (List.mem_cons_of_mem _ zw_395) rfl ⟨by decide, by decide⟩) rfl (za_cons (zx_iload dX8_tithes_164 (by decide)) rfl (za_nil)))) k_X8_share zf_0 (by decide) rfl (zGS zw_346 zw_347 zw_8 zw_348) rfl hyS_X8_share ⟨Nat.le_of_ble_eq_true rfl, Nat.le_of_ble_eq_true rfl⟩ (by decide) dX8_tithes_166) rfl (by decide) dX8_tithes_169))))))))
theorem k_X8_tithes : zCon yX8_tithes wz_X8_tithes [] [] (none) 5 121 [10, 0, 0, 0, 0, 0, 0] 1 (m_X8_tithes) := zMk (own := RX8) (cc := cX8_tithes) (b := 0) (Γ2 := []) (X := zX0) (by decide +kernel) rfl rfl (by decide) (Or.inr (Or.inl ⟨rfl, rfl⟩)) zex_0 (fun P cp ns hh => s_X8_tithes ns cp P)
theorem e_X8_tithes (x0 x1 x2 x3 x4 x5 x6 : Int) (σ : zHp) : m_X8_tithes [x0, x1, x2, x3, x4, x5, x6] σ = (d_X8_tithes [x0, x1, x2, x3, x4, x5, x6, 0, 0, 0, 0] σ).bind fun q => if q.1 = 1 then some (zg q.2.1 0, q.2.2) else none := rfl
abbrev wz_X8_wins : List Cond := Cond.code yX8_wins cX8_wins 4 (some .int) :: zG
def d_X8_wins : zS := sQ (sI (cO (cN (cV rb (xK m_X8_isBell (aC (xC 0) (aC (xL 1) (aN)))))) (cN (cV rb (xK m_X8_isCell (aC (xC 0) (aC (xL 2) (aN))))))) (sR (xC (-1))) sK) (sQ (sI (cN (cV rb (xK m_X8_isWind (aC (xL 3) (aN))))) (sR (xC (-2))) sK) (sQ (sX (xK m_X0_blow (aC (xC 10) (aC (xL 3) (aN))))) (sR (xK m_X0_leastToOwn (aC (xC 10) (aC (xL 1) (aC (xL 2) (aN))))))))
def m_X8_wins : List Int → zHp → Option (Int × zHp) := zRun 4 [10, 0, 0, 0] d_X8_wins
set_option maxRecDepth 100000 in
set_option maxHeartbeats 4000000 in
theorem s_X8_wins (ns : List Nat) (cp : Int) (P : Int → zHp → Prop) : zSt (RX8, cX8_wins, 4, wz_X8_wins, 5, 121, none, 0, ns, ns, cp, P) [(0, 10), (1, 0), (2, 0), (3, 0)] 0 0 [] zX0 (d_X8_wins) := zs_seq (zs_if (zc_or (zc_not (zc_bN (zx_sub (zx_callV (za_cons (zx_this (o := 0) dX8_wins_0 rfl rfl (by decide) (by decide)) rfl (za_cons (zx_iload_n dX8_wins_1 rfl (by decide)) rfl (za_nil))) k_X8_isBell zf_0 (by decide) (by decide) (by decide) rfl rfl (zGV zw_306 zw_308 zw_0 zw_8 zw_309) rfl hyV_X8_isBell ⟨Nat.le_of_ble_eq_true rfl, Nat.le_of_ble_eq_true rfl⟩ (by decide) dX8_wins_2)) dX8_wins_5 (by decide))) (zc_not (zc_b (zx_sub (zx_callV (za_cons (zx_this (o := 0) dX8_wins_8 rfl rfl (by decide) (by decide)) rfl (za_cons (zx_iload_n dX8_wins_9 rfl (by decide)) rfl (za_nil))) k_X8_isCell zf_0 (by decide) (by decide) (by decide) rfl rfl (zGV zw_314 zw_316 zw_1 zw_8 zw_317) rfl hyV_X8_isCell ⟨Nat.le_of_ble_eq_true rfl, Nat.le_of_ble_eq_true rfl⟩ (by decide) dX8_wins_10)) dX8_wins_13 (by decide)))) (zs_ret (zx_iconst dX8_wins_16 rfl ⟨by decide, by decide⟩) rfl (by decide) dX8_wins_17) zs_skip) (zs_seq (zs_if (zc_not (zc_b (zx_sub (zx_callS (za_cons (zx_iload_n dX8_wins_18 rfl (by decide)) rfl (za_nil)) k_X8_isWind zf_0 (by decide) rfl (zGS zw_318 zw_319 zw_8 zw_320) rfl hyS_X8_isWind ⟨Nat.le_of_ble_eq_true rfl, Nat.le_of_ble_eq_true rfl⟩ (by decide) dX8_wins_19)) dX8_wins_22 (by decide))) (zs_ret (zx_bipush dX8_wins_25 rfl ⟨by decide, by decide⟩) rfl (by decide) dX8_wins_27) zs_skip) (zs_seq (zs_callV (za_cons (zx_path (o := 0) (o2 := 10) (k := 2) (zx_this (o := 0) dX8_wins_28 rfl rfl (by decide) (by decide)) rfl (by decide) rfl rfl (by decide) inC_X8 (List.mem_cons_of_mem _ zw_241) rfl rfl rfl dX8_wins_29) rfl (za_cons (zx_iload_n dX8_wins_32 rfl (by decide)) rfl (za_nil))) k_X0_blow zf_0 (by decide) (by decide) rfl rfl (zGV zw_359 zw_360 zw_361 zw_11 zw_362) rfl hyV_X0_blow ⟨Nat.le_of_ble_eq_true rfl, Nat.le_of_ble_eq_true rfl⟩ dX8_wins_33) (zs_ret (zx_callV (za_cons (zx_path (o := 0) (o2 := 10) (k := 2) (zx_this (o := 0) dX8_wins_36 rfl rfl (by decide) (by decide)) rfl (by decide) rfl rfl (by decide) inC_X8 (List.mem_cons_of_mem _ zw_241) rfl rfl rfl dX8_wins_37) rfl (za_cons (zx_iload_n dX8_wins_40 rfl (by decide)) rfl (za_cons (zx_iload_n dX8_wins_41 rfl (by decide)) rfl (za_nil)))) k_X0_leastToOwn zf_0 (by decide) (by decide) (by decide) rfl rfl (zGV zw_400 zw_401 zw_402 zw_11 zw_403) rfl hyV_X0_leastToOwn ⟨Nat.le_of_ble_eq_true rfl, Nat.le_of_ble_eq_true rfl⟩ (by decide) dX8_wins_42) rfl (by decide) dX8_wins_45)))
theorem k_X8_wins : zCon yX8_wins wz_X8_wins [] [] (none) 5 121 [10, 0, 0, 0] 0 (m_X8_wins) := zMk (own := RX8) (cc := cX8_wins) (b := 0) (Γ2 := []) (X := zX0) (by decide +kernel) rfl rfl (by decide) (Or.inl ⟨rfl, rfl⟩) zex_0 (fun P cp ns hh => s_X8_wins ns cp P)
theorem e_X8_wins (x0 x1 x2 x3 : Int) (σ : zHp) : m_X8_wins [x0, x1, x2, x3] σ = (d_X8_wins [x0, x1, x2, x3] σ).bind fun q => if q.1 = 1 then some (zg q.2.1 0, q.2.2) else none := rfl
abbrev wz_X8_cheapest : List Cond := Cond.code yX8_cheapest cX8_cheapest 9 (some .int) :: zG
def lc_X8_cheapest_1 : zC := cR r_lt (xL 6) (xG 6 0)
def lf_X8_cheapest_1 : zS := sD [7, 8] (sQ (sS 7 (xK m_X0_leastToOwn (aC (xC 10) (aC (xL 6) (aC (xL 1) (aN)))))) (sQ (sS 8 (xB o_max (xC 0) (xB o_isub (xL 7) (xE 9 6 (xL 6))))) (sI (cA (cR r_ne (xL 7) (xC (-9))) (cO (cR r_eq (xL 4) (xC (-9))) (cR r_lt (xL 8) (xL 5)))) (sQ (sS 4 (xL 6)) (sS 5 (xL 8))) sK)))
def ls_X8_cheapest_1 : zS := sS 6 (xB o_iadd (xL 6) (xC 1))
def d_X8_cheapest : zS := sQ (sI (cN (cV rb (xK m_X8_isCell (aC (xC 0) (aC (xL 1) (aN)))))) (sR (xC (-1))) sK) (sQ (sI (cO (cN (cV rb (xK m_X8_isWind (aC (xL 2) (aN))))) (cN (cV rb (xK m_X8_isOneOfTwo (aC (xL 3) (aN)))))) (sR (xC (-2))) sK) (sQ (sX (xK m_X0_blow (aC (xC 10) (aC (xL 2) (aN))))) (sQ (sS 4 (xC (-9))) (sQ (sS 5 (xC (-9))) (sQ (sD [6] (sQ (sS 6 (xC 0)) (sW lc_X8_cheapest_1 lf_X8_cheapest_1 ls_X8_cheapest_1))) (sR (xI (cV (fun x => r_eq x 0) (xL 3)) (xL 4) (xL 5))))))))
def m_X8_cheapest : List Int → zHp → Option (Int × zHp) := zRun 9 [10, 0, 0, 0] d_X8_cheapest
set_option maxRecDepth 100000 in
set_option maxHeartbeats 4000000 in
theorem s_X8_cheapest (ns : List Nat) (cp : Int) (P : Int → zHp → Prop) : zSt (RX8, cX8_cheapest, 9, wz_X8_cheapest, 5, 121, none, 0, ns, ns, cp, P) [(0, 10), (1, 0), (2, 0), (3, 0)] 0 0 [] zX0 (d_X8_cheapest) := zs_seq (zs_if (zc_not (zc_b (zx_sub (zx_callV (za_cons (zx_this (o := 0) dX8_cheapest_0 rfl rfl (by decide) (by decide)) rfl (za_cons (zx_iload_n dX8_cheapest_1 rfl (by decide)) rfl (za_nil))) k_X8_isCell zf_0 (by decide) (by decide) (by decide) rfl rfl (zGV zw_314 zw_316 zw_1 zw_8 zw_317) rfl hyV_X8_isCell ⟨Nat.le_of_ble_eq_true rfl, Nat.le_of_ble_eq_true rfl⟩ (by decide) dX8_cheapest_2)) dX8_cheapest_5 (by decide))) (zs_ret (zx_iconst dX8_cheapest_8 rfl ⟨by decide, by decide⟩) rfl (by decide) dX8_cheapest_9) zs_skip) (zs_seq (zs_if (zc_or (zc_not (zc_bN (zx_sub (zx_callS (za_cons (zx_iload_n dX8_cheapest_10 rfl (by decide)) rfl (za_nil)) k_X8_isWind zf_0 (by decide) rfl (zGS zw_318 zw_319 zw_8 zw_320) rfl hyS_X8_isWind ⟨Nat.le_of_ble_eq_true rfl, Nat.le_of_ble_eq_true rfl⟩ (by decide) dX8_cheapest_11)) dX8_cheapest_14 (by decide))) (zc_not (zc_b (zx_sub (zx_callS (za_cons (zx_iload_n dX8_cheapest_17 rfl (by decide)) rfl (za_nil)) k_X8_isOneOfTwo zf_0 (by decide) rfl (zGS zw_321 zw_322 zw_8 zw_323) rfl hyS_X8_isOneOfTwo ⟨Nat.le_of_ble_eq_true rfl, Nat.le_of_ble_eq_true rfl⟩ (by decide) dX8_cheapest_18)) dX8_cheapest_21 (by decide)))) (zs_ret (zx_bipush dX8_cheapest_24 rfl ⟨by decide, by decide⟩) rfl (by decide) dX8_cheapest_26) zs_skip) (zs_seq (zs_callV (za_cons (zx_path (o := 0) (o2 := 10) (k := 2) (zx_this (o := 0) dX8_cheapest_27 rfl rfl (by decide) (by decide)) rfl (by decide) rfl rfl (by decide) inC_X8 (List.mem_cons_of_mem _ zw_241) rfl rfl rfl dX8_cheapest_28) rfl (za_cons (zx_iload_n dX8_cheapest_31 rfl (by decide)) rfl (za_nil))) k_X0_blow zf_0 (by decide) (by decide) rfl rfl (zGV zw_359 zw_360 zw_361 zw_11 zw_362) rfl hyV_X0_blow ⟨Nat.le_of_ble_eq_true rfl, Nat.le_of_ble_eq_true rfl⟩ dX8_cheapest_32) (zs_seq (zs_istore (Γ2 := [(0, 10), (1, 0), (2, 0), (3, 0), (4, 0)]) (zx_bipush dX8_cheapest_35 rfl ⟨by decide, by decide⟩) dX8_cheapest_37 (Nat.le_of_ble_eq_true rfl) (by decide)) (zs_seq (zs_istore (Γ2 := [(0, 10), (1, 0), (2, 0), (3, 0), (4, 0), (5, 0)]) (zx_bipush dX8_cheapest_39 rfl ⟨by decide, by decide⟩) dX8_cheapest_41 (Nat.le_of_ble_eq_true rfl) (by decide)) (zs_seq (zs_blk (Γ2 := [(0, 10), (1, 0), (2, 0), (3, 0), (4, 0), (5, 0)]) (Γ3 := [(0, 10), (1, 0), (2, 0), (3, 0), (4, 0), (5, 0), (6, 0)]) (ks := [6]) (zs_seq (zs_istore (Γ2 := [(0, 10), (1, 0), (2, 0), (3, 0), (4, 0), (5, 0), (6, 0)]) (zx_iconst dX8_cheapest_43 rfl ⟨by decide, by decide⟩) dX8_cheapest_44 (Nat.le_of_ble_eq_true rfl) (by decide)) (zs_loop (Γ := [(0, 10), (1, 0), (2, 0), (3, 0), (4, 0), (5, 0), (6, 0)]) (zc_icmpN_lt (zx_iload dX8_cheapest_46 (by decide)) (zx_fldS (o := 6) (k := 0) (zx_path (o := 0) (o2 := 6) (k := 1) (zx_this (o := 0) dX8_cheapest_48 rfl rfl (by decide) (by decide)) rfl (by decide) rfl rfl (by decide) inC_X8 (List.mem_cons_of_mem _ zw_240) rfl rfl rfl dX8_cheapest_49) rfl rfl (by decide) inC_X1 (List.mem_cons_of_mem _ zw_71) rfl (by decide) rfl dX8_cheapest_52) dX8_cheapest_55 (by decide)) (zs_blk (Γ2 := [(0, 10), (1, 0), (2, 0), (3, 0), (4, 0), (5, 0), (6, 0)]) (Γ3 := [(0, 10), (1, 0), (2, 0), (3, 0), (4, 0), (5, 0), (6, 0), (7, 0), (8, 0)]) (ks := [7, 8]) (zs_seq (zs_istore (Γ2 := [(0, 10), (1, 0), (2, 0), (3, 0), (4, 0), (5, 0), (6, 0), (7, 0)]) (zx_callV (za_cons (zx_path (o := 0) (o2 := 10) (k := 2) (zx_this (o := 0) dX8_cheapest_58 rfl rfl (by decide) (by decide)) rfl (by decide) rfl rfl (by decide) inC_X8 (List.mem_cons_of_mem _ zw_241) rfl rfl rfl dX8_cheapest_59) rfl (za_cons (zx_iload dX8_cheapest_62 (by decide)) rfl (za_cons (zx_iload_n dX8_cheapest_64 rfl (by decide)) rfl (za_nil)))) k_X0_leastToOwn zf_0 (by decide) (by decide) (by decide) rfl rfl (zGV zw_400 zw_401 zw_402 zw_11 zw_403) rfl hyV_X0_leastToOwn ⟨Nat.le_of_ble_eq_true rfl, Nat.le_of_ble_eq_true rfl⟩ (by decide) dX8_cheapest_65) dX8_cheapest_68 (Nat.le_of_ble_eq_true rfl) (by decide)) (zs_seq (zs_istore (Γ2 := [(0, 10), (1, 0), (2, 0), (3, 0), (4, 0), (5, 0), (6, 0), (7, 0), (8, 0)]) (zx_max (zx_iconst dX8_cheapest_70 rfl ⟨by decide, by decide⟩) (zx_isub (zx_iload dX8_cheapest_71 (by decide)) (zx_ialdS (o := 9) (zx_path (o := 6) (o2 := 9) (k := 3) (zx_path (o := 0) (o2 := 6) (k := 1) (zx_this (o := 0) dX8_cheapest_73 rfl rfl (by decide) (by decide)) rfl (by decide) rfl rfl (by decide) inC_X8 (List.mem_cons_of_mem _ zw_240) rfl rfl rfl dX8_cheapest_74) rfl (by decide) rfl rfl (by decide) inC_X1 (List.mem_cons_of_mem _ zw_80) rfl rfl rfl dX8_cheapest_77) (zx_iload dX8_cheapest_80 (by decide)) (zp_a (by decide)) rfl rfl dX8_cheapest_82) dX8_cheapest_83) (List.mem_cons_of_mem _ zw_413) (List.mem_cons_of_mem _ zw_414) (List.mem_cons_of_mem _ zw_18) (List.mem_cons_of_mem _ zw_415) (Nat.le_of_ble_eq_true rfl) (Nat.le_of_ble_eq_true rfl) dX8_cheapest_84) dX8_cheapest_87 (Nat.le_of_ble_eq_true rfl) (by decide)) (zs_if (zc_and (zc_icmpN_ne (zx_iload dX8_cheapest_89 (by decide)) (zx_bipush dX8_cheapest_91 rfl ⟨by decide, by decide⟩) dX8_cheapest_93 (by decide)) (zc_or (zc_icmp_eq (zx_iload dX8_cheapest_96 (by decide)) (zx_bipush dX8_cheapest_98 rfl ⟨by decide, by decide⟩) dX8_cheapest_100 (by decide)) (zc_icmpN_lt (zx_iload dX8_cheapest_103 (by decide)) (zx_iload dX8_cheapest_105 (by decide)) dX8_cheapest_107 (by decide)))) (zs_seq (zs_istore (Γ2 := [(0, 10), (1, 0), (2, 0), (3, 0), (4, 0), (5, 0), (6, 0), (7, 0), (8, 0)]) (zx_iload dX8_cheapest_110 (by decide)) dX8_cheapest_112 (Nat.le_of_ble_eq_true rfl) (by decide)) (zs_istore (Γ2 := [(0, 10), (1, 0), (2, 0), (3, 0), (4, 0), (5, 0), (6, 0), (7, 0), (8, 0)]) (zx_iload dX8_cheapest_114 (by decide)) dX8_cheapest_116 (Nat.le_of_ble_eq_true rfl) (by decide))) zs_skip))) (by decide) (by decide) (zY_ok (by decide))) (zs_goto (zs_iinc (Γ2 := [(0, 10), (1, 0), (2, 0), (3, 0), (4, 0), (5, 0), (6, 0)]) dX8_cheapest_118 (by decide) (Nat.le_of_ble_eq_true rfl) (by decide)) dX8_cheapest_121 (by decide)))) (by decide) (by decide) zX0_ok) (zs_ret (zx_ite (zc_ifN_eq (zx_iload_n dX8_cheapest_124 rfl (by decide)) dX8_cheapest_125 (by decide)) (zx_iload dX8_cheapest_128 (by decide)) dX8_cheapest_130 (by decide) (zx_iload dX8_cheapest_133 (by decide))) rfl (by decide) dX8_cheapest_135))))))
theorem k_X8_cheapest : zCon yX8_cheapest wz_X8_cheapest [] [] (none) 5 121 [10, 0, 0, 0] 0 (m_X8_cheapest) := zMk (own := RX8) (cc := cX8_cheapest) (b := 0) (Γ2 := []) (X := zX0) (by decide +kernel) rfl rfl (by decide) (Or.inl ⟨rfl, rfl⟩) zex_0 (fun P cp ns hh => s_X8_cheapest ns cp P)
theorem e_X8_cheapest (x0 x1 x2 x3 : Int) (σ : zHp) : m_X8_cheapest [x0, x1, x2, x3] σ = (d_X8_cheapest [x0, x1, x2, x3, 0, 0, 0, 0, 0] σ).bind fun q => if q.1 = 1 then some (zg q.2.1 0, q.2.2) else none := rfl
abbrev wz_X8_faulty : List Cond := Cond.code yX8_faulty cX8_faulty 2 (some .int) :: zG
def d_X8_faulty : zS := sQ (sG 0 8 (xL 1)) (sR (xB o_isub (xC (-10)) (xL 1)))
def m_X8_faulty : List Int → zHp → Option (Int × zHp) := zRun 2 [10, 0] d_X8_faulty
set_option maxRecDepth 100000 in
set_option maxHeartbeats 4000000 in
theorem s_X8_faulty (ns : List Nat) (cp : Int) (P : Int → zHp → Prop) : zSt (RX8, cX8_faulty, 2, wz_X8_faulty, 1, 25, none, 0, ns, ns, cp, P) [(0, 10), (1, 0)] 0 0 [] zX0 (d_X8_faulty) := zs_seq (zs_putS (o := 0) (k := 8) (zx_this (o := 0) dX8_faulty_0 rfl rfl (by decide) (by decide)) (zx_iload_n dX8_faulty_1 rfl (by decide)) rfl rfl (by decide) inC_X8 (List.mem_cons_of_mem _ zw_247) tyX8_ok nmX8 rfl (tyX8_ok 8 (by decide)) rfl (by decide) rfl dX8_faulty_2) (zs_ret (zx_isub (zx_bipush dX8_faulty_5 rfl ⟨by decide, by decide⟩) (zx_iload_n dX8_faulty_7 rfl (by decide)) dX8_faulty_8) rfl (by decide) dX8_faulty_9)
theorem k_X8_faulty : zCon yX8_faulty wz_X8_faulty [] [] (none) 1 25 [10, 0] 0 (m_X8_faulty) := zMk (own := RX8) (cc := cX8_faulty) (b := 0) (Γ2 := []) (X := zX0) (by decide +kernel) rfl rfl (by decide) (Or.inl ⟨rfl, rfl⟩) zex_0 (fun P cp ns hh => s_X8_faulty ns cp P)
theorem e_X8_faulty (x0 x1 : Int) (σ : zHp) : m_X8_faulty [x0, x1] σ = (d_X8_faulty [x0, x1] σ).bind fun q => if q.1 = 1 then some (zg q.2.1 0, q.2.2) else none := rfl
abbrev wz_X8_sheet : List Cond := Cond.code yX8_sheet cX8_sheet 4 (some .int) :: zG
def d_X8_sheet : zS := sQ (sG 0 8 (xC 0)) (sQ (sI (cN (cV rb (xK m_X8_isSheet (aC (xL 1) (aN))))) (sR (xC (-1))) sK) (sQ (sI (cO (cN (cV rb (xK m_X8_isSort (aC (xL 2) (aN))))) (cR r_gt (xL 3) (xC 60))) (sR (xC (-2))) sK) (sQ (sI (cV (fun x => r_lt x 0) (xL 3)) (sR (xK m_X8_faulty (aC (xC 0) (aC (xC 4) (aN))))) sK) (sQ (sX (xK m_X6_renew (aC (xH (xL 1)) (aC (xL 2) (aC (xL 3) (aN)))))) (sR (xC 1))))))
def m_X8_sheet : List Int → zHp → Option (Int × zHp) := zRun 4 [10, 0, 0, 0] d_X8_sheet
set_option maxRecDepth 100000 in
set_option maxHeartbeats 4000000 in
theorem s_X8_sheet (ns : List Nat) (cp : Int) (P : Int → zHp → Prop) : zSt (RX8, cX8_sheet, 4, wz_X8_sheet, 3, 70, none, 0, ns, ns, cp, P) [(0, 10), (1, 0), (2, 0), (3, 0)] 0 0 [] zX0 (d_X8_sheet) := zs_seq (zs_putS (o := 0) (k := 8) (zx_this (o := 0) dX8_sheet_0 rfl rfl (by decide) (by decide)) (zx_iconst dX8_sheet_1 rfl ⟨by decide, by decide⟩) rfl rfl (by decide) inC_X8 (List.mem_cons_of_mem _ zw_247) tyX8_ok nmX8 rfl (tyX8_ok 8 (by decide)) rfl (by decide) rfl dX8_sheet_2) (zs_seq (zs_if (zc_not (zc_b (zx_sub (zx_callS (za_cons (zx_iload_n dX8_sheet_5 rfl (by decide)) rfl (za_nil)) k_X8_isSheet zf_0 (by decide) rfl (zGS zw_273 zw_274 zw_8 zw_275) rfl hyS_X8_isSheet ⟨Nat.le_of_ble_eq_true rfl, Nat.le_of_ble_eq_true rfl⟩ (by decide) dX8_sheet_6)) dX8_sheet_9 (by decide))) (zs_ret (zx_iconst dX8_sheet_12 rfl ⟨by decide, by decide⟩) rfl (by decide) dX8_sheet_13) zs_skip) (zs_seq (zs_if (zc_or (zc_not (zc_bN (zx_sub (zx_callS (za_cons (zx_iload_n dX8_sheet_14 rfl (by decide)) rfl (za_nil)) k_X8_isSort zf_0 (by decide) rfl (zGS zw_276 zw_277 zw_8 zw_278) rfl hyS_X8_isSort ⟨Nat.le_of_ble_eq_true rfl, Nat.le_of_ble_eq_true rfl⟩ (by decide) dX8_sheet_15)) dX8_sheet_18 (by decide))) (zc_icmpN_gt (zx_iload_n dX8_sheet_21 rfl (by decide)) (zx_bipush dX8_sheet_22 rfl ⟨by decide, by decide⟩) dX8_sheet_24 (by decide))) (zs_ret (zx_bipush dX8_sheet_27 rfl ⟨by decide, by decide⟩) rfl (by decide) dX8_sheet_29) zs_skip) (zs_seq (zs_if (zc_ifN_lt (zx_iload_n dX8_sheet_30 rfl (by decide)) dX8_sheet_31 (by decide)) (zs_ret (zx_callV (za_cons (zx_this (o := 0) dX8_sheet_34 rfl rfl (by decide) (by decide)) rfl (za_cons (zx_iconst dX8_sheet_35 rfl ⟨by decide, by decide⟩) rfl (za_nil))) k_X8_faulty zf_0 (by decide) (by decide) (by decide) rfl rfl (zGV zw_420 zw_422 zw_5 zw_8 zw_423) rfl hyV_X8_faulty ⟨Nat.le_of_ble_eq_true rfl, Nat.le_of_ble_eq_true rfl⟩ (by decide) dX8_sheet_36) rfl (by decide) dX8_sheet_39) zs_skip) (zs_seq (zs_callV (za_cons (zx_aald (zx_path (o := 0) (o2 := 28) (k := 7) (zx_this (o := 0) dX8_sheet_40 rfl rfl (by decide) (by decide)) rfl (by decide) rfl rfl (by decide) inC_X8 (List.mem_cons_of_mem _ zw_246) rfl rfl rfl dX8_sheet_41) (zx_iload_n dX8_sheet_44 rfl (by decide)) dX8_sheet_45) rfl (za_cons (zx_iload_n dX8_sheet_46 rfl (by decide)) rfl (za_cons (zx_iload_n dX8_sheet_47 rfl (by decide)) rfl (za_nil)))) k_X6_renew zf_0 (by decide) (by decide) rfl rfl (zGV zw_424 zw_425 zw_426 zw_16 zw_427) rfl hyV_X6_renew ⟨Nat.le_of_ble_eq_true rfl, Nat.le_of_ble_eq_true rfl⟩ dX8_sheet_48) (zs_ret (zx_iconst dX8_sheet_51 rfl ⟨by decide, by decide⟩) rfl (by decide) dX8_sheet_52)))))
theorem k_X8_sheet : zCon yX8_sheet wz_X8_sheet [] [] (none) 3 70 [10, 0, 0, 0] 0 (m_X8_sheet) := zMk (own := RX8) (cc := cX8_sheet) (b := 0) (Γ2 := []) (X := zX0) (by decide +kernel) rfl rfl (by decide) (Or.inl ⟨rfl, rfl⟩) zex_0 (fun P cp ns hh => s_X8_sheet ns cp P)
theorem e_X8_sheet (x0 x1 x2 x3 : Int) (σ : zHp) : m_X8_sheet [x0, x1, x2, x3] σ = (d_X8_sheet [x0, x1, x2, x3] σ).bind fun q => if q.1 = 1 then some (zg q.2.1 0, q.2.2) else none := rfl
abbrev wz_X8_put : List Cond := Cond.code yX8_put cX8_put 5 (some .int) :: zG
def d_X8_put : zS := sQ (sG 0 8 (xC 0)) (sQ (sI (cN (cV rb (xK m_X8_isSheet (aC (xL 1) (aN))))) (sR (xC (-1))) sK) (sQ (sS 4 (xH (xL 1))) (sQ (sI (cN (cV rb (xF (xL 4) 1))) (sR (xK m_X8_faulty (aC (xC 0) (aC (xC 1) (aN))))) sK) (sQ (sI (cN (cV rb (xK m_X6_hasNumber (aC (xL 4) (aC (xL 2) (aN)))))) (sR (xK m_X8_faulty (aC (xC 0) (aC (xC 3) (aN))))) sK) (sQ (sA (xU (fun x => x + 1) (xL 4)) 60 (xL 2) (xK m_X6_cut (aC (xL 4) (aC (xL 3) (aN))))) (sR (xC 1)))))))
def m_X8_put : List Int → zHp → Option (Int × zHp) := zRun 5 [10, 0, 0, 0] d_X8_put
set_option maxRecDepth 100000 in
set_option maxHeartbeats 4000000 in
theorem s_X8_put (ns : List Nat) (cp : Int) (P : Int → zHp → Prop) : zSt (RX8, cX8_put, 5, wz_X8_put, 2, 46, none, 0, ns, ns, cp, P) [(0, 10), (1, 0), (2, 0), (3, 0)] 0 0 [] zX0 (d_X8_put) := zs_seq (zs_putS (o := 0) (k := 8) (zx_this (o := 0) dX8_put_0 rfl rfl (by decide) (by decide)) (zx_iconst dX8_put_1 rfl ⟨by decide, by decide⟩) rfl rfl (by decide) inC_X8 (List.mem_cons_of_mem _ zw_247) tyX8_ok nmX8 rfl (tyX8_ok 8 (by decide)) rfl (by decide) rfl dX8_put_2) (zs_seq (zs_if (zc_not (zc_b (zx_sub (zx_callS (za_cons (zx_iload_n dX8_put_5 rfl (by decide)) rfl (za_nil)) k_X8_isSheet zf_0 (by decide) rfl (zGS zw_273 zw_274 zw_8 zw_275) rfl hyS_X8_isSheet ⟨Nat.le_of_ble_eq_true rfl, Nat.le_of_ble_eq_true rfl⟩ (by decide) dX8_put_6)) dX8_put_9 (by decide))) (zs_ret (zx_iconst dX8_put_12 rfl ⟨by decide, by decide⟩) rfl (by decide) dX8_put_13) zs_skip) (zs_seq (zs_astore (Γ2 := [(0, 10), (1, 0), (2, 0), (3, 0), (4, 5)]) (zx_aald (zx_path (o := 0) (o2 := 28) (k := 7) (zx_this (o := 0) dX8_put_14 rfl rfl (by decide) (by decide)) rfl (by decide) rfl rfl (by decide) inC_X8 (List.mem_cons_of_mem _ zw_246) rfl rfl rfl dX8_put_15) (zx_iload_n dX8_put_18 rfl (by decide)) dX8_put_19) (by decide) dX8_put_20 (Nat.le_of_ble_eq_true rfl) (by decide)) (zs_seq (zs_if (zc_not (zc_b (zx_sub (zx_fld (k := 1) (zx_aload (t := 5) dX8_put_22 (by decide) (by decide)) (by decide) (by decide) rfl rfl (by decide) inC_X6 (List.mem_cons_of_mem _ zw_227) rfl (by decide) rfl dX8_put_24)) dX8_put_27 (by decide))) (zs_ret (zx_callV (za_cons (zx_this (o := 0) dX8_put_30 rfl rfl (by decide) (by decide)) rfl (za_cons (zx_iconst dX8_put_31 rfl ⟨by decide, by decide⟩) rfl (za_nil))) k_X8_faulty zf_0 (by decide) (by decide) (by decide) rfl rfl (zGV zw_420 zw_422 zw_5 zw_8 zw_423) rfl hyV_X8_faulty ⟨Nat.le_of_ble_eq_true rfl, Nat.le_of_ble_eq_true rfl⟩ (by decide) dX8_put_32) rfl (by decide) dX8_put_35) zs_skip) (zs_seq (zs_if (zc_not (zc_b (zx_sub (zx_callV (za_cons (zx_aload (t := 5) dX8_put_36 (by decide) (by decide)) rfl (za_cons (zx_iload_n dX8_put_38 rfl (by decide)) rfl (za_nil))) k_X6_hasNumber zf_0 (by decide) (by decide) (by decide) rfl rfl (zGV zw_433 zw_434 zw_435 zw_16 zw_436) rfl hyV_X6_hasNumber ⟨Nat.le_of_ble_eq_true rfl, Nat.le_of_ble_eq_true rfl⟩ (by decide) dX8_put_39)) dX8_put_42 (by decide))) (zs_ret (zx_callV (za_cons (zx_this (o := 0) dX8_put_45 rfl rfl (by decide) (by decide)) rfl (za_cons (zx_iconst dX8_put_46 rfl ⟨by decide, by decide⟩) rfl (za_nil))) k_X8_faulty zf_0 (by decide) (by decide) (by decide) rfl rfl (zGV zw_420 zw_422 zw_5 zw_8 zw_423) rfl hyV_X8_faulty ⟨Nat.le_of_ble_eq_true rfl, Nat.le_of_ble_eq_true rfl⟩ (by decide) dX8_put_47) rfl (by decide) dX8_put_50) zs_skip) (zs_seq (zs_iast (zx_num (zx_aload (t := 5) dX8_put_51 (by decide) (by decide)) inC_X6 (List.mem_cons_of_mem _ zw_225) dX8_put_53) (zx_iload_n dX8_put_56 rfl (by decide)) (zx_callV (za_cons (zx_aload (t := 5) dX8_put_57 (by decide) (by decide)) rfl (za_cons (zx_iload_n dX8_put_59 rfl (by decide)) rfl (za_nil))) k_X6_cut zf_0 (by decide) (by decide) (by decide) rfl rfl (zGV zw_437 zw_438 zw_439 zw_16 zw_440) rfl hyV_X6_cut ⟨Nat.le_of_ble_eq_true rfl, Nat.le_of_ble_eq_true rfl⟩ (by decide) dX8_put_60) (by decide) (zp_a (by decide)) rfl rfl dX8_put_63) (zs_ret (zx_iconst dX8_put_64 rfl ⟨by decide, by decide⟩) rfl (by decide) dX8_put_65))))))
theorem k_X8_put : zCon yX8_put wz_X8_put [] [] (none) 2 46 [10, 0, 0, 0] 0 (m_X8_put) := zMk (own := RX8) (cc := cX8_put) (b := 0) (Γ2 := []) (X := zX0) (by decide +kernel) rfl rfl (by decide) (Or.inl ⟨rfl, rfl⟩) zex_0 (fun P cp ns hh => s_X8_put ns cp P)
theorem e_X8_put (x0 x1 x2 x3 : Int) (σ : zHp) : m_X8_put [x0, x1, x2, x3] σ = (d_X8_put [x0, x1, x2, x3, 0] σ).bind fun q => if q.1 = 1 then some (zg q.2.1 0, q.2.2) else none := rfl
abbrev wz_X8_fault : List Cond := Cond.code yX8_fault cX8_fault 1 (some .int) :: zG
def d_X8_fault : zS := sR (xG 0 8)
def m_X8_fault : List Int → zHp → Option (Int × zHp) := zRun 1 [10] d_X8_fault
set_option maxRecDepth 100000 in
set_option maxHeartbeats 4000000 in
theorem s_X8_fault (ns : List Nat) (cp : Int) (P : Int → zHp → Prop) : zSt (RX8, cX8_fault, 1, wz_X8_fault, 1, 25, none, 0, ns, ns, cp, P) [(0, 10)] 0 0 [] zX0 (d_X8_fault) := zs_ret (zx_fldS (o := 0) (k := 8) (zx_this (o := 0) dX8_fault_0 rfl rfl (by decide) (by decide)) rfl rfl (by decide) inC_X8 (List.mem_cons_of_mem _ zw_247) rfl (by decide) rfl dX8_fault_1) rfl (by decide) dX8_fault_4
theorem k_X8_fault : zCon yX8_fault wz_X8_fault [] [] (none) 1 25 [10] 0 (m_X8_fault) := zMk (own := RX8) (cc := cX8_fault) (b := 0) (Γ2 := []) (X := zX0) (by decide +kernel) rfl rfl (by decide) (Or.inl ⟨rfl, rfl⟩) zex_0 (fun P cp ns hh => s_X8_fault ns cp P)
theorem e_X8_fault (x0 : Int) (σ : zHp) : m_X8_fault [x0] σ = (d_X8_fault [x0] σ).bind fun q => if q.1 = 1 then some (zg q.2.1 0, q.2.2) else none := rfl
end
section
theorem hyS_L_best : yL_best.cls ≠ "java/lang/invoke/MethodHandle" ∧ yL_best.cls ≠ "java/lang/invoke/VarHandle" ∧ (parseMethodDescriptor yL_best.desc).map (fun d => d.parameters.length) = some 2 := by decide +kernel
theorem hyS_L_cell : yL_cell.cls ≠ "java/lang/invoke/MethodHandle" ∧ yL_cell.cls ≠ "java/lang/invoke/VarHandle" ∧ (parseMethodDescriptor yL_cell.desc).map (fun d => d.parameters.length) = some 2 := by decide +kernel
theorem hyS_L_hear : yL_hear.cls ≠ "java/lang/invoke/MethodHandle" ∧ yL_hear.cls ≠ "java/lang/invoke/VarHandle" ∧ (parseMethodDescriptor yL_hear.desc).map (fun d => d.parameters.length) = some 4 := by decide +kernel
theorem hyS_L_loud : yL_loud.cls ≠ "java/lang/invoke/MethodHandle" ∧ yL_loud.cls ≠ "java/lang/invoke/VarHandle" ∧ (parseMethodDescriptor yL_loud.desc).map (fun d => d.parameters.length) = some 7 := by decide +kernel
theorem hyS_L_some : yL_some.cls ≠ "java/lang/invoke/MethodHandle" ∧ yL_some.cls ≠ "java/lang/invoke/VarHandle" ∧ (parseMethodDescriptor yL_some.desc).map (fun d => d.parameters.length) = some 2 := by decide +kernel
theorem hyV_X8_bell : yX8_bell.cls = RX8 ∧ yX8_bell.cls ≠ "java/lang/invoke/MethodHandle" ∧ yX8_bell.cls ≠ "java/lang/invoke/VarHandle" ∧ (parseMethodDescriptor yX8_bell.desc).map (fun d => d.parameters.length) = some 3 := by decide +kernel
theorem hyV_X8_ear : yX8_ear.cls = RX8 ∧ yX8_ear.cls ≠ "java/lang/invoke/MethodHandle" ∧ yX8_ear.cls ≠ "java/lang/invoke/VarHandle" ∧ (parseMethodDescriptor yX8_ear.desc).map (fun d => d.parameters.length) = some 1 := by decide +kernel
theorem hyV_X8_plant : yX8_plant.cls = RX8 ∧ yX8_plant.cls ≠ "java/lang/invoke/MethodHandle" ∧ yX8_plant.cls ≠ "java/lang/invoke/VarHandle" ∧ (parseMethodDescriptor yX8_plant.desc).map (fun d => d.parameters.length) = some 2 := by decide +kernel
theorem hyV_X8_put : yX8_put.cls = RX8 ∧ yX8_put.cls ≠ "java/lang/invoke/MethodHandle" ∧ yX8_put.cls ≠ "java/lang/invoke/VarHandle" ∧ (parseMethodDescriptor yX8_put.desc).map (fun d => d.parameters.length) = some 3 := by decide +kernel
theorem hyV_X8_sheet : yX8_sheet.cls = RX8 ∧ yX8_sheet.cls ≠ "java/lang/invoke/MethodHandle" ∧ yX8_sheet.cls ≠ "java/lang/invoke/VarHandle" ∧ (parseMethodDescriptor yX8_sheet.desc).map (fun d => d.parameters.length) = some 3 := by decide +kernel
abbrev wz_L_cell : List Cond := Cond.code yL_cell cL_cell 2 (some .int) :: zG
def d_L_cell (L : Nat) (xs : Nat → Int32) : zS := sR (xI (cR r_lt (xL 1) (xC (L : Int))) (xT L xs (xL 1)) (xB o_imul (xC 747796405) (xB o_iadd (xL 1) (xC 1))))
def m_L_cell (L : Nat) (xs : Nat → Int32) : List Int → zHp → Option (Int × zHp) := zRun 2 [3, 0] (d_L_cell L xs)
set_option maxRecDepth 100000 in
set_option maxHeartbeats 4000000 in
theorem s_L_cell {L : Nat} {xs : Nat → Int32} (hL2 : L < 2147483648) (ns : List Nat) (cp : Int) (P : Int → zHp → Prop) : zSt (RL, cL_cell, 2, wz_L_cell, 1, 25, some (L, xs), 0, ns, ns, cp, P) [(0, 3), (1, 0)] 0 0 [] zX0 (d_L_cell L xs) := zs_ret (zx_ite (zc_icmpN_lt (zx_iload_n dL_cell_0 rfl (by decide)) (zx_slen rfl hL2 rfl (by decide) dL_cell_1 dL_cell_2) dL_cell_3 (by decide)) (zx_sld rfl (by decide) dL_cell_6 (zx_iload_n dL_cell_7 rfl (by decide)) dL_cell_8) dL_cell_9 (by decide) (zx_imul (zx_ldc dL_cell_12 (List.mem_cons_of_mem _ zw_448) rfl ⟨by decide, by decide⟩) (zx_iadd (zx_iload_n dL_cell_14 rfl (by decide)) (zx_iconst dL_cell_15 rfl ⟨by decide, by decide⟩) dL_cell_16) dL_cell_17)) rfl (by decide) dL_cell_18
theorem k_L_cell {L : Nat} {xs : Nat → Int32} (hL2 : L < 2147483648) : zCon yL_cell wz_L_cell [] [] (some (L, xs)) 1 25 [3, 0] 0 (m_L_cell L xs) := zMk (own := RL) (cc := cL_cell) (b := 0) (Γ2 := []) (X := zX0) (by decide +kernel) rfl rfl (by decide) (Or.inl ⟨rfl, rfl⟩) zex_0 (fun P cp ns hh => s_L_cell hL2 ns cp P)
theorem e_L_cell (L : Nat) (xs : Nat → Int32) (x0 x1 : Int) (σ : zHp) : m_L_cell L xs [x0, x1] σ = (d_L_cell L xs [x0, x1] σ).bind fun q => if q.1 = 1 then some (zg q.2.1 0, q.2.2) else none := rfl
abbrev wz_L_some : List Cond := Cond.code yL_some cL_some 2 (some .int) :: zG
def d_L_some : zS := sR (xD zmod (xB zAnd (xL 0) (xC 2147483647)) (xL 1))
def m_L_some : List Int → zHp → Option (Int × zHp) := zRun 2 [0, 0] d_L_some
set_option maxRecDepth 100000 in
set_option maxHeartbeats 4000000 in
theorem s_L_some (ns : List Nat) (cp : Int) (P : Int → zHp → Prop) : zSt (RL, cL_some, 2, wz_L_some, 1, 25, none, 0, ns, ns, cp, P) [(0, 0), (1, 0)] 0 0 [] zX0 (d_L_some) := zs_ret (zx_irem (zx_iand (zx_iload_n dL_some_0 rfl (by decide)) (zx_ldc dL_some_1 (List.mem_cons_of_mem _ zw_452) rfl ⟨by decide, by decide⟩) dL_some_3) (zx_iload_n dL_some_4 rfl (by decide)) dL_some_5) rfl (by decide) dL_some_6
theorem k_L_some : zCon yL_some wz_L_some [] [] (none) 1 25 [0, 0] 0 (m_L_some) := zMk (own := RL) (cc := cL_some) (b := 0) (Γ2 := []) (X := zX0) (by decide +kernel) rfl rfl (by decide) (Or.inl ⟨rfl, rfl⟩) zex_0 (fun P cp ns hh => s_L_some ns cp P)
theorem e_L_some (x0 x1 : Int) (σ : zHp) : m_L_some [x0, x1] σ = (d_L_some [x0, x1] σ).bind fun q => if q.1 = 1 then some (zg q.2.1 0, q.2.2) else none := rfl
abbrev wz_L_put : List Cond := Cond.code yL_put cL_put 9 (some .int) :: zG
def lc_L_put_1 (L : Nat) (xs : Nat → Int32) : zC := cR r_lt (xL 7) (xE 37 60 (xC 1))
def lf_L_put_1 (L : Nat) (xs : Nat → Int32) : zS := sD [8] (sQ (sS 8 (xK m_L_some (aC (xB zShr (xK (m_L_cell L xs) (aC (xC 0) (aC (xB o_iadd (xB o_iadd (xL 2) (xC 1)) (xD zmod (xL 6) (xC 3))) (aN)))) (xB o_iadd (xB o_imul (xD zdiv (xL 6) (xC 3)) (xC 15)) (xB o_imul (xC 2) (xL 7)))) (aC (xI (cV (fun x => r_eq x 0) (xK m_L_some (aC (xB zShr (xL 4) (xC 9)) (aC (xC 2) (aN))))) (xC 10) (xC 3)) (aN))))) (sQ (sE 37 60 (xB o_iadd (xB o_iadd (xC 3) (xB o_imul (xE 37 60 (xC 1)) (xL 6))) (xL 7)) (xL 8)) (sQ (sS 5 (xB o_iadd (xL 5) (xC 1))) (sI (cR r_ne (xK m_X8_put (aC (xC 0) (aC (xC 0) (aC (xB o_isub (xL 5) (xC 1)) (aC (xB o_iadd (xC 48) (xL 8)) aN))))) (xC 1)) (sR (xC (-99))) sK))))
def ls_L_put_1 (L : Nat) (xs : Nat → Int32) : zS := sS 7 (xB o_iadd (xL 7) (xC 1))
def lc_L_put_2 (L : Nat) (xs : Nat → Int32) : zC := cR r_lt (xL 6) (xE 37 60 (xC 0))
def lf_L_put_2 (L : Nat) (xs : Nat → Int32) : zS := sQ (sQ (sS 5 (xB o_iadd (xL 5) (xC 1))) (sI (cR r_ne (xK m_X8_put (aC (xC 0) (aC (xC 0) (aC (xB o_isub (xL 5) (xC 1)) (aC (xC 59) aN))))) (xC 1)) (sR (xC (-99))) sK)) (sD [7] (sQ (sS 7 (xC 0)) (sW (lc_L_put_1 L xs) (lf_L_put_1 L xs) (ls_L_put_1 L xs))))
def ls_L_put_2 (L : Nat) (xs : Nat → Int32) : zS := sS 6 (xB o_iadd (xL 6) (xC 1))
def d_L_put (L : Nat) (xs : Nat → Int32) : zS := sQ (sS 4 (xK (m_L_cell L xs) (aC (xC 0) (aC (xL 2) (aN))))) (sQ (sE 37 60 (xC 0) (xB o_iadd (xC 2) (xK m_L_some (aC (xL 4) (aC (xC 4) (aN)))))) (sQ (sE 37 60 (xC 1) (xB o_iadd (xC 2) (xK m_L_some (aC (xB zShr (xL 4) (xC 3)) (aC (xC 5) (aN)))))) (sQ (sE 37 60 (xC 2) (xC 10)) (sQ (sE 37 60 (xC 40) (xC 0)) (sQ (sE 37 60 (xC 41) (xC 0)) (sQ (sI (cO (cO (cO (cR r_ne (xK m_X8_sheet (aC (xC 0) (aC (xC 0) (aC (xC 0) (aC (xC 50) (aN)))))) (xC 1)) (cR r_ne (xK m_X8_put (aC (xC 0) (aC (xC 0) (aC (xC 0) (aC (xC 103) (aN)))))) (xC 1))) (cR r_ne (xK m_X8_put (aC (xC 0) (aC (xC 0) (aC (xC 1) (aC (xB o_iadd (xC 48) (xE 37 60 (xC 0))) (aN)))))) (xC 1))) (cR r_ne (xK m_X8_put (aC (xC 0) (aC (xC 0) (aC (xC 2) (aC (xB o_iadd (xC 48) (xE 37 60 (xC 1))) (aN)))))) (xC 1))) (sR (xC (-99))) sK) (sQ (sS 5 (xC 3)) (sQ (sD [6] (sQ (sS 6 (xC 0)) (sW (lc_L_put_2 L xs) (lf_L_put_2 L xs) (ls_L_put_2 L xs)))) (sR (xL 5))))))))))
def m_L_put (L : Nat) (xs : Nat → Int32) : List Int → zHp → Option (Int × zHp) := zRun 9 [10, 3, 0, 47] (d_L_put L xs)
set_option maxRecDepth 100000 in
set_option maxHeartbeats 4000000 in
theorem s_L_put {L : Nat} {xs : Nat → Int32} (hL2 : L < 2147483648) (ns : List Nat) (h37 : 37 ∈ ns) (cp : Int) (P : Int → zHp → Prop) : zSt (RL, cL_put, 9, wz_L_put, 4, 93, some (L, xs), 0, ns, ns, cp, P) [(0, 10), (1, 3), (2, 0), (3, 47)] 0 0 [] zX0 (d_L_put L xs) := zs_seq (zs_istore (Γ2 := [(0, 10), (1, 3), (2, 0), (3, 47), (4, 0)]) (zx_callS (za_cons (zx_sarg dL_put_0 rfl (by decide)) rfl (za_cons (zx_iload_n dL_put_1 rfl (by decide)) rfl (za_nil))) (k_L_cell hL2) ⟨znd_0, znd_0, Or.inr rfl⟩ (by decide) rfl (zGS zw_445 zw_446 zw_7 zw_447) rfl hyS_L_cell ⟨Nat.le_of_ble_eq_true rfl, Nat.le_of_ble_eq_true rfl⟩ (by decide) dL_put_2) dL_put_5 (Nat.le_of_ble_eq_true rfl) (by decide)) (zs_seq (zs_iastS (o := 37) (zx_this (o := 37) dL_put_7 rfl rfl (by decide) (by decide)) (zx_iconst dL_put_8 rfl ⟨by decide, by decide⟩) (zx_iadd (zx_iconst dL_put_9 rfl ⟨by decide, by decide⟩) (zx_callS (za_cons (zx_iload dL_put_10 (by decide)) rfl (za_cons (zx_iconst dL_put_12 rfl ⟨by decide, by decide⟩) rfl (za_nil))) k_L_some zf_0 (by decide) rfl (zGS zw_449 zw_450 zw_7 zw_451) rfl hyS_L_some ⟨Nat.le_of_ble_eq_true rfl, Nat.le_of_ble_eq_true rfl⟩ (by decide) dL_put_13) dL_put_16) (zp_b (by decide) h37) rfl rfl dL_put_17) (zs_seq (zs_iastS (o := 37) (zx_this (o := 37) dL_put_18 rfl rfl (by decide) (by decide)) (zx_iconst dL_put_19 rfl ⟨by decide, by decide⟩) (zx_iadd (zx_iconst dL_put_20 rfl ⟨by decide, by decide⟩) (zx_callS (za_cons (zx_ishr (zx_iload dL_put_21 (by decide)) (zx_iconst dL_put_23 rfl ⟨by decide, by decide⟩) dL_put_24) rfl (za_cons (zx_iconst dL_put_25 rfl ⟨by decide, by decide⟩) rfl (za_nil))) k_L_some zf_0 (by decide) rfl (zGS zw_449 zw_450 zw_7 zw_451) rfl hyS_L_some ⟨Nat.le_of_ble_eq_true rfl, Nat.le_of_ble_eq_true rfl⟩ (by decide) dL_put_26) dL_put_29) (zp_b (by decide) h37) rfl rfl dL_put_30) (zs_seq (zs_iastS (o := 37) (zx_this (o := 37) dL_put_31 rfl rfl (by decide) (by decide)) (zx_iconst dL_put_32 rfl ⟨by decide, by decide⟩) (zx_bipush dL_put_33 rfl ⟨by decide, by decide⟩) (zp_b (by decide) h37) rfl rfl dL_put_35) (zs_seq (zs_iastS (o := 37) (zx_this (o := 37) dL_put_36 rfl rfl (by decide) (by decide)) (zx_bipush dL_put_37 rfl ⟨by decide, by decide⟩) (zx_iconst dL_put_39 rfl ⟨by decide, by decide⟩) (zp_b (by decide) h37) rfl rfl dL_put_40) (zs_seq (zs_iastS (o := 37) (zx_this (o := 37) dL_put_41 rfl rfl (by decide) (by decide)) (zx_bipush dL_put_42 rfl ⟨by decide, by decide⟩) (zx_iconst dL_put_44 rfl ⟨by decide, by decide⟩) (zp_b (by decide) h37) rfl rfl dL_put_45) (zs_seq (zs_if (zc_or (zc_or (zc_or (zc_icmp_ne (zx_callV (za_cons (zx_this (o := 0) dL_put_46 rfl rfl (by decide) (by decide)) rfl (za_cons (zx_iconst dL_put_47 rfl ⟨by decide, by decide⟩) rfl (za_cons (zx_iconst dL_put_48 rfl ⟨by decide, by decide⟩) rfl (za_cons (zx_bipush dL_put_49 rfl ⟨by decide, by decide⟩) rfl (za_nil))))) k_X8_sheet zf_0 (by decide) (by decide) (by decide) rfl rfl (zGV zw_416 zw_417 zw_418 zw_8 zw_419) rfl hyV_X8_sheet ⟨Nat.le_of_ble_eq_true rfl, Nat.le_of_ble_eq_true rfl⟩ (by decide) dL_put_51) (zx_iconst dL_put_54 rfl ⟨by decide, by decide⟩) dL_put_55 (by decide)) (zc_icmp_ne (zx_callV (za_cons (zx_this (o := 0) dL_put_58 rfl rfl (by decide) (by decide)) rfl (za_cons (zx_iconst dL_put_59 rfl ⟨by decide, by decide⟩) rfl (za_cons (zx_iconst dL_put_60 rfl ⟨by decide, by decide⟩) rfl (za_cons (zx_bipush dL_put_61 rfl ⟨by decide, by decide⟩) rfl (za_nil))))) k_X8_put zf_0 (by decide) (by decide) (by decide) rfl rfl (zGV zw_429 zw_430 zw_431 zw_8 zw_432) rfl hyV_X8_put ⟨Nat.le_of_ble_eq_true rfl, Nat.le_of_ble_eq_true rfl⟩ (by decide) dL_put_63) (zx_iconst dL_put_66 rfl ⟨by decide, by decide⟩) dL_put_67 (by decide))) (zc_icmp_ne (zx_callV (za_cons (zx_this (o := 0) dL_put_70 rfl rfl (by decide) (by decide)) rfl (za_cons (zx_iconst dL_put_71 rfl ⟨by decide, by decide⟩) rfl (za_cons (zx_iconst dL_put_72 rfl ⟨by decide, by decide⟩) rfl (za_cons (zx_iadd (zx_bipush dL_put_73 rfl ⟨by decide, by decide⟩) (zx_ialdS (o := 37) (zx_this (o := 37) dL_put_75 rfl rfl (by decide) (by decide)) (zx_iconst dL_put_76 rfl ⟨by decide, by decide⟩) (zp_b (by decide) h37) rfl rfl dL_put_77) dL_put_78) rfl (za_nil))))) k_X8_put zf_0 (by decide) (by decide) (by decide) rfl rfl (zGV zw_429 zw_430 zw_431 zw_8 zw_432) rfl hyV_X8_put ⟨Nat.le_of_ble_eq_true rfl, Nat.le_of_ble_eq_true rfl⟩ (by decide) dL_put_79) (zx_iconst dL_put_82 rfl ⟨by decide, by decide⟩) dL_put_83 (by decide))) (zc_icmpN_ne (zx_callV (za_cons (zx_this (o := 0) dL_put_86 rfl rfl (by decide) (by decide)) rfl (za_cons (zx_iconst dL_put_87 rfl ⟨by decide, by decide⟩) rfl (za_cons (zx_iconst dL_put_88 rfl ⟨by decide, by decide⟩) rfl (za_cons (zx_iadd (zx_bipush dL_put_89 rfl ⟨by decide, by decide⟩) (zx_ialdS (o := 37) (zx_this (o := 37) dL_put_91 rfl rfl (by decide) (by decide)) (zx_iconst dL_put_92 rfl ⟨by decide, by decide⟩) (zp_b (by decide) h37) rfl rfl dL_put_93) dL_put_94) rfl (za_nil))))) k_X8_put zf_0 (by decide) (by decide) (by decide) rfl rfl (zGV zw_429 zw_430 zw_431 zw_8 zw_432) rfl hyV_X8_put ⟨Nat.le_of_ble_eq_true rfl, Nat.le_of_ble_eq_true rfl⟩ (by decide) dL_put_95) (zx_iconst dL_put_98 rfl ⟨by decide, by decide⟩) dL_put_99 (by decide))) (zs_ret (zx_bipush dL_put_102 rfl ⟨by decide, by decide⟩) rfl (by decide) dL_put_104) zs_skip) (zs_seq (zs_istore (Γ2 := [(0, 10), (1, 3), (2, 0), (3, 47), (4, 0), (5, 0)]) (zx_iconst dL_put_105 rfl ⟨by decide, by decide⟩) dL_put_106 (Nat.le_of_ble_eq_true rfl) (by decide)) (zs_seq (zs_blk (Γ2 := [(0, 10), (1, 3), (2, 0), (3, 47), (4, 0), (5, 0)]) (Γ3 := [(0, 10), (1, 3), (2, 0), (3, 47), (4, 0), (5, 0), (6, 0)]) (ks := [6]) (zs_seq (zs_istore (Γ2 := [(0, 10), (1, 3), (2, 0), (3, 47), (4, 0), (5, 0), (6, 0)]) (zx_iconst dL_put_108 rfl ⟨by decide, by decide⟩) dL_put_109 (Nat.le_of_ble_eq_true rfl) (by decide)) (zs_loop (Γ := [(0, 10), (1, 3), (2, 0), (3, 47), (4, 0), (5, 0), (6, 0)]) (zc_icmpN_lt (zx_iload dL_put_111 (by decide)) (zx_ialdS (o := 37) (zx_this (o := 37) dL_put_113 rfl rfl (by decide) (by decide)) (zx_iconst dL_put_114 rfl ⟨by decide, by decide⟩) (zp_b (by decide) h37) rfl rfl dL_put_115) dL_put_116 (by decide)) (zs_seq (zs_at (i := 5) dL_put_119 dL_put_120 dL_put_121 dL_put_123 (zx_bipush dL_put_126 rfl ⟨by decide, by decide⟩) k_X8_put zf_0 rfl rfl (zGV zw_429 zw_430 zw_431 zw_8 zw_432) hyV_X8_put ⟨Nat.le_of_ble_eq_true rfl, Nat.le_of_ble_eq_true rfl⟩ dL_put_128 dL_put_131 dL_put_132 (by decide) (by decide) (by decide) (Nat.le_of_ble_eq_true rfl) (by decide) (zs_ret (zx_bipush dL_put_135 rfl ⟨by decide, by decide⟩) rfl (by decide) dL_put_137)) (zs_blk (Γ2 := [(0, 10), (1, 3), (2, 0), (3, 47), (4, 0), (5, 0), (6, 0)]) (Γ3 := [(0, 10), (1, 3), (2, 0), (3, 47), (4, 0), (5, 0), (6, 0), (7, 0)]) (ks := [7]) (zs_seq (zs_istore (Γ2 := [(0, 10), (1, 3), (2, 0), (3, 47), (4, 0), (5, 0), (6, 0), (7, 0)]) (zx_iconst dL_put_138 rfl ⟨by decide, by decide⟩) dL_put_139 (Nat.le_of_ble_eq_true rfl) (by decide)) (zs_loop (Γ := [(0, 10), (1, 3), (2, 0), (3, 47), (4, 0), (5, 0), (6, 0), (7, 0)]) (zc_icmpN_lt (zx_iload dL_put_141 (by decide)) (zx_ialdS (o := 37) (zx_this (o := 37) dL_put_143 rfl rfl (by decide) (by decide)) (zx_iconst dL_put_144 rfl ⟨by decide, by decide⟩) (zp_b (by decide) h37) rfl rfl dL_put_145) dL_put_146 (by decide)) (zs_blk (Γ2 := [(0, 10), (1, 3), (2, 0), (3, 47), (4, 0), (5, 0), (6, 0), (7, 0)]) (Γ3 := [(0, 10), (1, 3), (2, 0), (3, 47), (4, 0), (5, 0), (6, 0), (7, 0), (8, 0)]) (ks := [8]) (zs_seq (zs_istore (Γ2 := [(0, 10), (1, 3), (2, 0), (3, 47), (4, 0), (5, 0), (6, 0), (7, 0), (8, 0)]) (zx_callS (za_cons (zx_ishr (zx_callS (za_cons (zx_sarg dL_put_149 rfl (by decide)) rfl (za_cons (zx_iadd (zx_iadd (zx_iload_n dL_put_150 rfl (by decide)) (zx_iconst dL_put_151 rfl ⟨by decide, by decide⟩) dL_put_152) (zx_irem (zx_iload dL_put_153 (by decide)) (zx_iconst dL_put_155 rfl ⟨by decide, by decide⟩) dL_put_156) dL_put_157) rfl (za_nil))) (k_L_cell hL2) ⟨znd_0, znd_0, Or.inr rfl⟩ (by decide) rfl (zGS zw_445 zw_446 zw_7 zw_447) rfl hyS_L_cell ⟨Nat.le_of_ble_eq_true rfl, Nat.le_of_ble_eq_true rfl⟩ (by decide) dL_put_158) (zx_iadd (zx_imul (zx_idiv (zx_iload dL_put_161 (by decide)) (zx_iconst dL_put_163 rfl ⟨by decide, by decide⟩) dL_put_164) (zx_bipush dL_put_165 rfl ⟨by decide, by decide⟩) dL_put_167) (zx_imul (zx_iconst dL_put_168 rfl ⟨by decide, by decide⟩) (zx_iload dL_put_169 (by decide)) dL_put_171) dL_put_172) dL_put_173) rfl (za_cons (zx_ite (zc_ifN_eq (zx_callS (za_cons (zx_ishr (zx_iload dL_put_174 (by decide)) (zx_bipush dL_put_176 rfl ⟨by decide, by decide⟩) dL_put_178) rfl (za_cons (zx_iconst dL_put_179 rfl ⟨by decide, by decide⟩) rfl (za_nil))) k_L_some zf_0 (by decide) rfl (zGS zw_449 zw_450 zw_7 zw_451) rfl hyS_L_some ⟨Nat.le_of_ble_eq_true rfl, Nat.le_of_ble_eq_true rfl⟩ (by decide) dL_put_180) dL_put_183 (by decide)) (zx_bipush dL_put_186 rfl ⟨by decide, by decide⟩) dL_put_188 (by decide) (zx_iconst dL_put_191 rfl ⟨by decide, by decide⟩)) rfl (za_nil))) k_L_some zf_0 (by decide) rfl (zGS zw_449 zw_450 zw_7 zw_451) rfl hyS_L_some ⟨Nat.le_of_ble_eq_true rfl, Nat.le_of_ble_eq_true rfl⟩ (by decide) dL_put_192) dL_put_195 (Nat.le_of_ble_eq_true rfl) (by decide)) (zs_seq (zs_iastS (o := 37) (zx_this (o := 37) dL_put_197 rfl rfl (by decide) (by decide)) (zx_iadd (zx_iadd (zx_iconst dL_put_198 rfl ⟨by decide, by decide⟩) (zx_imul (zx_ialdS (o := 37) (zx_this (o := 37) dL_put_199 rfl rfl (by decide) (by decide)) (zx_iconst dL_put_200 rfl ⟨by decide, by decide⟩) (zp_b (by decide) h37) rfl rfl dL_put_201) (zx_iload dL_put_202 (by decide)) dL_put_204) dL_put_205) (zx_iload dL_put_206 (by decide)) dL_put_208) (zx_iload dL_put_209 (by decide)) (zp_b (by decide) h37) rfl rfl dL_put_211) (zs_at (i := 5) dL_put_212 dL_put_213 dL_put_214 dL_put_216 (zx_iadd (zx_bipush dL_put_219 rfl ⟨by decide, by decide⟩) (zx_iload dL_put_221 (by decide)) dL_put_223) k_X8_put zf_0 rfl rfl (zGV zw_429 zw_430 zw_431 zw_8 zw_432) hyV_X8_put ⟨Nat.le_of_ble_eq_true rfl, Nat.le_of_ble_eq_true rfl⟩ dL_put_224 dL_put_227 dL_put_228 (by decide) (by decide) (by decide) (Nat.le_of_ble_eq_true rfl) (by decide) (zs_ret (zx_bipush dL_put_231 rfl ⟨by decide, by decide⟩) rfl (by decide) dL_put_233)))) (by decide) (by decide) (zY_ok (by decide))) (zs_goto (zs_iinc (Γ2 := [(0, 10), (1, 3), (2, 0), (3, 47), (4, 0), (5, 0), (6, 0), (7, 0)]) dL_put_234 (by decide) (Nat.le_of_ble_eq_true rfl) (by decide)) dL_put_237 (by decide)))) (by decide) (by decide) (zY_ok (by decide)))) (zs_goto (zs_iinc (Γ2 := [(0, 10), (1, 3), (2, 0), (3, 47), (4, 0), (5, 0), (6, 0)]) dL_put_240 (by decide) (Nat.le_of_ble_eq_true rfl) (by decide)) dL_put_243 (by decide)))) (by decide) (by decide) zX0_ok) (zs_ret (zx_iload dL_put_246 (by decide)) rfl (by decide) dL_put_248)))))))))
theorem k_L_put {L : Nat} {xs : Nat → Int32} (hL2 : L < 2147483648) : zCon yL_put wz_L_put [37] [] (some (L, xs)) 4 93 [10, 3, 0, 47] 0 (m_L_put L xs) := zMk (own := RL) (cc := cL_put) (b := 0) (Γ2 := []) (X := zX0) (by decide +kernel) rfl rfl (by decide) (Or.inl ⟨rfl, rfl⟩) ⟨List.range 37 ++ [37], ⟨by decide +kernel, fun o h => List.mem_append_left _ (List.mem_range.mpr h)⟩, by decide +kernel, by decide +kernel⟩ (fun P cp ns hh => s_L_put hL2 ns (hh.2.1 37 (by decide)) cp P)
theorem e_L_put (L : Nat) (xs : Nat → Int32) (x0 x1 x2 x3 : Int) (σ : zHp) : m_L_put L xs [x0, x1, x2, x3] σ = (d_L_put L xs [x0, x1, x2, x3, 0, 0, 0, 0, 0] σ).bind fun q => if q.1 = 1 then some (zg q.2.1 0, q.2.2) else none := rfl
abbrev wz_L_come : List Cond := Cond.code yL_come cL_come 10 (some .boolean) :: zG
def lc_L_come_1 (L : Nat) (xs : Nat → Int32) : zC := cR r_lt (xL 7) (xL 6)
def lf_L_come_1 (L : Nat) (xs : Nat → Int32) : zS := sD [8] (sQ (sS 8 (xB zShr (xK (m_L_cell L xs) (aC (xC 0) (aC (xB o_iadd (xB o_iadd (xL 2) (xC 1)) (xD zmod (xL 7) (xC 3))) (aN)))) (xB o_imul (xD zdiv (xL 7) (xC 3)) (xC 15)))) (sQ (sE 37 60 (xB o_iadd (xC 42) (xL 7)) (xK m_L_some (aC (xL 8) (aC (xC 3) (aN))))) (sQ (sE 37 60 (xB o_iadd (xC 48) (xL 7)) (xK m_L_some (aC (xB zShr (xL 8) (xC 2)) (aC (xL 5) (aN))))) (sQ (sE 37 60 (xB o_iadd (xC 54) (xL 7)) (xB o_iadd (xC 1) (xK m_L_some (aC (xB zShr (xL 8) (xC 7)) (aC (xI (cV (fun x => r_eq x 0) (xK m_L_some (aC (xB zShr (xL 8) (xC 14)) (aC (xC 3) (aN))))) (xC 99) (xC 20)) (aN)))))) (sQ (sI (cR r_ne (xK m_X8_bell (aC (xC 0) (aC (xE 37 60 (xB o_iadd (xC 42) (xL 7))) (aC (xE 37 60 (xB o_iadd (xC 48) (xL 7))) (aC (xE 37 60 (xB o_iadd (xC 54) (xL 7))) (aN)))))) (xL 7)) (sR (xC 0)) sK) (sEo o_iadd 37 60 (xC 41) (xC 1)))))))
def ls_L_come_1 (L : Nat) (xs : Nat → Int32) : zS := sS 7 (xB o_iadd (xL 7) (xC 1))
def lc_L_come_2 (L : Nat) (xs : Nat → Int32) : zC := cR r_lt (xL 7) (xK m_L_some (aC (xB zShr (xK (m_L_cell L xs) (aC (xC 0) (aC (xL 2) (aN)))) (xC 3)) (aC (xC 6) (aN))))
def lf_L_come_2 (L : Nat) (xs : Nat → Int32) : zS := sD [8, 9] (sQ (sS 8 (xK m_L_some (aC (xB zShr (xK (m_L_cell L xs) (aC (xC 0) (aC (xL 2) (aN)))) (xB o_iadd (xC 6) (xB o_imul (xC 4) (xL 7)))) (aC (xL 5) (aN))))) (sQ (sS 9 (xZ (cR r_eq (xB zAnd (xB zShr (xE 37 60 (xC 40)) (xL 8)) (xC 1)) (xC 1)))) (sQ (sI (cR r_ne (xK m_X8_plant (aC (xC 0) (aC (xL 8) (aC (xC 1) (aN))))) (xI (cV rb (xL 9)) (xC 0) (xC 1))) (sR (xC 0)) sK) (sEo zOr 37 60 (xC 40) (xB zShl (xC 1) (xL 8))))))
def ls_L_come_2 (L : Nat) (xs : Nat → Int32) : zS := sS 7 (xB o_iadd (xL 7) (xC 1))
def d_L_come (L : Nat) (xs : Nat → Int32) : zS := sQ (sS 5 (xB o_imul (xE 37 60 (xC 0)) (xE 37 60 (xC 1)))) (sQ (sS 6 (xB o_iadd (xC 1) (xK m_L_some (aC (xK (m_L_cell L xs) (aC (xC 0) (aC (xL 2) (aN)))) (aC (xL 3) (aN)))))) (sQ (sD [7] (sQ (sS 7 (xC 0)) (sW (lc_L_come_1 L xs) (lf_L_come_1 L xs) (ls_L_come_1 L xs)))) (sQ (sD [7] (sQ (sS 7 (xC 0)) (sW (lc_L_come_2 L xs) (lf_L_come_2 L xs) (ls_L_come_2 L xs)))) (sQ (sS 7 (xK m_L_some (aC (xK (m_L_cell L xs) (aC (xC 0) (aC (xB o_iadd (xL 2) (xC 4)) (aN)))) (aC (xI (cV (fun x => r_eq x 0) (xK m_L_some (aC (xB zShr (xK (m_L_cell L xs) (aC (xC 0) (aC (xB o_iadd (xL 2) (xC 4)) (aN)))) (xC 8)) (aC (xC 2) (aN))))) (xC 100) (xC 15)) (aN))))) (sQ (sI (cR r_ne (xK m_X8_ear (aC (xC 0) (aC (xL 7) (aN)))) (xE 37 60 (xC 2))) (sR (xC 0)) sK) (sQ (sE 37 60 (xC 2) (xL 7)) (sR (xC 1))))))))
def m_L_come (L : Nat) (xs : Nat → Int32) : List Int → zHp → Option (Int × zHp) := zRun 10 [10, 3, 0, 0, 47] (d_L_come L xs)
set_option maxRecDepth 100000 in
set_option maxHeartbeats 4000000 in
theorem s_L_come {L : Nat} {xs : Nat → Int32} (hL2 : L < 2147483648) (ns : List Nat) (h37 : 37 ∈ ns) (cp : Int) (P : Int → zHp → Prop) : zSt (RL, cL_come, 10, wz_L_come, 7, 170, some (L, xs), 4, ns, ns, cp, P) [(0, 10), (1, 3), (2, 0), (3, 0), (4, 47)] 0 0 [] zX0 (d_L_come L xs) := zs_seq (zs_istore (Γ2 := [(0, 10), (1, 3), (2, 0), (3, 0), (4, 47), (5, 0)]) (zx_imul (zx_ialdS (o := 37) (zx_thisW (o := 37) dL_come_0 rfl (by decide) (by decide)) (zx_iconst dL_come_2 rfl ⟨by decide, by decide⟩) (zp_b (by decide) h37) rfl rfl dL_come_3) (zx_ialdS (o := 37) (zx_thisW (o := 37) dL_come_4 rfl (by decide) (by decide)) (zx_iconst dL_come_6 rfl ⟨by decide, by decide⟩) (zp_b (by decide) h37) rfl rfl dL_come_7) dL_come_8) dL_come_9 (Nat.le_of_ble_eq_true rfl) (by decide)) (zs_seq (zs_istore (Γ2 := [(0, 10), (1, 3), (2, 0), (3, 0), (4, 47), (5, 0), (6, 0)]) (zx_iadd (zx_iconst dL_come_11 rfl ⟨by decide, by decide⟩) (zx_callS (za_cons (zx_callS (za_cons (zx_sarg dL_come_12 rfl (by decide)) rfl (za_cons (zx_iload_n dL_come_13 rfl (by decide)) rfl (za_nil))) (k_L_cell hL2) ⟨znd_0, znd_0, Or.inr rfl⟩ (by decide) rfl (zGS zw_445 zw_446 zw_7 zw_447) rfl hyS_L_cell ⟨Nat.le_of_ble_eq_true rfl, Nat.le_of_ble_eq_true rfl⟩ (by decide) dL_come_14) rfl (za_cons (zx_iload_n dL_come_17 rfl (by decide)) rfl (za_nil))) k_L_some zf_0 (by decide) rfl (zGS zw_449 zw_450 zw_7 zw_451) rfl hyS_L_some ⟨Nat.le_of_ble_eq_true rfl, Nat.le_of_ble_eq_true rfl⟩ (by decide) dL_come_18) dL_come_21) dL_come_22 (Nat.le_of_ble_eq_true rfl) (by decide)) (zs_seq (zs_blk (Γ2 := [(0, 10), (1, 3), (2, 0), (3, 0), (4, 47), (5, 0), (6, 0)]) (Γ3 := [(0, 10), (1, 3), (2, 0), (3, 0), (4, 47), (5, 0), (6, 0), (7, 0)]) (ks := [7]) (zs_seq (zs_istore (Γ2 := [(0, 10), (1, 3), (2, 0), (3, 0), (4, 47), (5, 0), (6, 0), (7, 0)]) (zx_iconst dL_come_24 rfl ⟨by decide, by decide⟩) dL_come_25 (Nat.le_of_ble_eq_true rfl) (by decide)) (zs_loop (Γ := [(0, 10), (1, 3), (2, 0), (3, 0), (4, 47), (5, 0), (6, 0), (7, 0)]) (zc_icmpN_lt (zx_iload dL_come_27 (by decide)) (zx_iload dL_come_29 (by decide)) dL_come_31 (by decide)) (zs_blk (Γ2 := [(0, 10), (1, 3), (2, 0), (3, 0), (4, 47), (5, 0), (6, 0), (7, 0)]) (Γ3 := [(0, 10), (1, 3), (2, 0), (3, 0), (4, 47), (5, 0), (6, 0), (7, 0), (8, 0)]) (ks := [8]) (zs_seq (zs_istore (Γ2 := [(0, 10), (1, 3), (2, 0), (3, 0), (4, 47), (5, 0), (6, 0), (7, 0), (8, 0)]) (zx_ishr (zx_callS (za_cons (zx_sarg dL_come_34 rfl (by decide)) rfl (za_cons (zx_iadd (zx_iadd (zx_iload_n dL_come_35 rfl (by decide)) (zx_iconst dL_come_36 rfl ⟨by decide, by decide⟩) dL_come_37) (zx_irem (zx_iload dL_come_38 (by decide)) (zx_iconst dL_come_40 rfl ⟨by decide, by decide⟩) dL_come_41) dL_come_42) rfl (za_nil))) (k_L_cell hL2) ⟨znd_0, znd_0, Or.inr rfl⟩ (by decide) rfl (zGS zw_445 zw_446 zw_7 zw_447) rfl hyS_L_cell ⟨Nat.le_of_ble_eq_true rfl, Nat.le_of_ble_eq_true rfl⟩ (by decide) dL_come_43) (zx_imul (zx_idiv (zx_iload dL_come_46 (by decide)) (zx_iconst dL_come_48 rfl ⟨by decide, by decide⟩) dL_come_49) (zx_bipush dL_come_50 rfl ⟨by decide, by decide⟩) dL_come_52) dL_come_53) dL_come_54 (Nat.le_of_ble_eq_true rfl) (by decide)) (zs_seq (zs_iastS (o := 37) (zx_thisW (o := 37) dL_come_56 rfl (by decide) (by decide)) (zx_iadd (zx_bipush dL_come_58 rfl ⟨by decide, by decide⟩) (zx_iload dL_come_60 (by decide)) dL_come_62) (zx_callS (za_cons (zx_iload dL_come_63 (by decide)) rfl (za_cons (zx_iconst dL_come_65 rfl ⟨by decide, by decide⟩) rfl (za_nil))) k_L_some zf_0 (by decide) rfl (zGS zw_449 zw_450 zw_7 zw_451) rfl hyS_L_some ⟨Nat.le_of_ble_eq_true rfl, Nat.le_of_ble_eq_true rfl⟩ (by decide) dL_come_66) (zp_b (by decide) h37) rfl rfl dL_come_69) (zs_seq (zs_iastS (o := 37) (zx_thisW (o := 37) dL_come_70 rfl (by decide) (by decide)) (zx_iadd (zx_bipush dL_come_72 rfl ⟨by decide, by decide⟩) (zx_iload dL_come_74 (by decide)) dL_come_76) (zx_callS (za_cons (zx_ishr (zx_iload dL_come_77 (by decide)) (zx_iconst dL_come_79 rfl ⟨by decide, by decide⟩) dL_come_80) rfl (za_cons (zx_iload dL_come_81 (by decide)) rfl (za_nil))) k_L_some zf_0 (by decide) rfl (zGS zw_449 zw_450 zw_7 zw_451) rfl hyS_L_some ⟨Nat.le_of_ble_eq_true rfl, Nat.le_of_ble_eq_true rfl⟩ (by decide) dL_come_83) (zp_b (by decide) h37) rfl rfl dL_come_86) (zs_seq (zs_iastS (o := 37) (zx_thisW (o := 37) dL_come_87 rfl (by decide) (by decide)) (zx_iadd (zx_bipush dL_come_89 rfl ⟨by decide, by decide⟩) (zx_iload dL_come_91 (by decide)) dL_come_93) (zx_iadd (zx_iconst dL_come_94 rfl ⟨by decide, by decide⟩) (zx_callS (za_cons (zx_ishr (zx_iload dL_come_95 (by decide)) (zx_bipush dL_come_97 rfl ⟨by decide, by decide⟩) dL_come_99) rfl (za_cons (zx_ite (zc_ifN_eq (zx_callS (za_cons (zx_ishr (zx_iload dL_come_100 (by decide)) (zx_bipush dL_come_102 rfl ⟨by decide, by decide⟩) dL_come_104) rfl (za_cons (zx_iconst dL_come_105 rfl ⟨by decide, by decide⟩) rfl (za_nil))) k_L_some zf_0 (by decide) rfl (zGS zw_449 zw_450 zw_7 zw_451) rfl hyS_L_some ⟨Nat.le_of_ble_eq_true rfl, Nat.le_of_ble_eq_true rfl⟩ (by decide) dL_come_106) dL_come_109 (by decide)) (zx_bipush dL_come_112 rfl ⟨by decide, by decide⟩) dL_come_114 (by decide) (zx_bipush dL_come_117 rfl ⟨by decide, by decide⟩)) rfl (za_nil))) k_L_some zf_0 (by decide) rfl (zGS zw_449 zw_450 zw_7 zw_451) rfl hyS_L_some ⟨Nat.le_of_ble_eq_true rfl, Nat.le_of_ble_eq_true rfl⟩ (by decide) dL_come_119) dL_come_122) (zp_b (by decide) h37) rfl rfl dL_come_123) (zs_seq (zs_if (zc_icmpN_ne (zx_callV (za_cons (zx_this (o := 0) dL_come_124 rfl rfl (by decide) (by decide)) rfl (za_cons (zx_ialdS (o := 37) (zx_thisW (o := 37) dL_come_125 rfl (by decide) (by decide)) (zx_iadd (zx_bipush dL_come_127 rfl ⟨by decide, by decide⟩) (zx_iload dL_come_129 (by decide)) dL_come_131) (zp_b (by decide) h37) rfl rfl dL_come_132) rfl (za_cons (zx_ialdS (o := 37) (zx_thisW (o := 37) dL_come_133 rfl (by decide) (by decide)) (zx_iadd (zx_bipush dL_come_135 rfl ⟨by decide, by decide⟩) (zx_iload dL_come_137 (by decide)) dL_come_139) (zp_b (by decide) h37) rfl rfl dL_come_140) rfl (za_cons (zx_ialdS (o := 37) (zx_thisW (o := 37) dL_come_141 rfl (by decide) (by decide)) (zx_iadd (zx_bipush dL_come_143 rfl ⟨by decide, by decide⟩) (zx_iload dL_come_145 (by decide)) dL_come_147) (zp_b (by decide) h37) rfl rfl dL_come_148) rfl (za_nil))))) k_X8_bell zf_0 (by decide) (by decide) (by decide) rfl rfl (zGV zw_459 zw_460 zw_461 zw_8 zw_462) rfl hyV_X8_bell ⟨Nat.le_of_ble_eq_true rfl, Nat.le_of_ble_eq_true rfl⟩ (by decide) dL_come_149) (zx_iload dL_come_152 (by decide)) dL_come_154 (by decide)) (zs_ret (zx_bconst dL_come_157 rfl (Or.inl rfl)) rfl (by decide) dL_come_158) zs_skip) (zs_iastO (o := 37) (zx_thisW (o := 37) dL_come_159 rfl (by decide) (by decide)) (zx_bipush dL_come_161 rfl ⟨by decide, by decide⟩) dL_come_163 dL_come_164 (zx_iconst dL_come_165 rfl ⟨by decide, by decide⟩) (zo_iadd dL_come_166) (zp_b (by decide) h37) rfl rfl dL_come_167)))))) (by decide) (by decide) (zY_ok (by decide))) (zs_goto (zs_iinc (Γ2 := [(0, 10), (1, 3), (2, 0), (3, 0), (4, 47), (5, 0), (6, 0), (7, 0)]) dL_come_168 (by decide) (Nat.le_of_ble_eq_true rfl) (by decide)) dL_come_171 (by decide)))) (by decide) (by decide) zX0_ok) (zs_seq (zs_blk (Γ2 := [(0, 10), (1, 3), (2, 0), (3, 0), (4, 47), (5, 0), (6, 0)]) (Γ3 := [(0, 10), (1, 3), (2, 0), (3, 0), (4, 47), (5, 0), (6, 0), (7, 0)]) (ks := [7]) (zs_seq (zs_istore (Γ2 := [(0, 10), (1, 3), (2, 0), (3, 0), (4, 47), (5, 0), (6, 0), (7, 0)]) (zx_iconst dL_come_174 rfl ⟨by decide, by decide⟩) dL_come_175 (Nat.le_of_ble_eq_true rfl) (by decide)) (zs_loop (Γ := [(0, 10), (1, 3), (2, 0), (3, 0), (4, 47), (5, 0), (6, 0), (7, 0)]) (zc_icmpN_lt (zx_iload dL_come_177 (by decide)) (zx_callS (za_cons (zx_ishr (zx_callS (za_cons (zx_sarg dL_come_179 rfl (by decide)) rfl (za_cons (zx_iload_n dL_come_180 rfl (by decide)) rfl (za_nil))) (k_L_cell hL2) ⟨znd_0, znd_0, Or.inr rfl⟩ (by decide) rfl (zGS zw_445 zw_446 zw_7 zw_447) rfl hyS_L_cell ⟨Nat.le_of_ble_eq_true rfl, Nat.le_of_ble_eq_true rfl⟩ (by decide) dL_come_181) (zx_iconst dL_come_184 rfl ⟨by decide, by decide⟩) dL_come_185) rfl (za_cons (zx_bipush dL_come_186 rfl ⟨by decide, by decide⟩) rfl (za_nil))) k_L_some zf_0 (by decide) rfl (zGS zw_449 zw_450 zw_7 zw_451) rfl hyS_L_some ⟨Nat.le_of_ble_eq_true rfl, Nat.le_of_ble_eq_true rfl⟩ (by decide) dL_come_188) dL_come_191 (by decide)) (zs_blk (Γ2 := [(0, 10), (1, 3), (2, 0), (3, 0), (4, 47), (5, 0), (6, 0), (7, 0)]) (Γ3 := [(0, 10), (1, 3), (2, 0), (3, 0), (4, 47), (5, 0), (6, 0), (7, 0), (8, 0), (9, 4)]) (ks := [8, 9]) (zs_seq (zs_istore (Γ2 := [(0, 10), (1, 3), (2, 0), (3, 0), (4, 47), (5, 0), (6, 0), (7, 0), (8, 0)]) (zx_callS (za_cons (zx_ishr (zx_callS (za_cons (zx_sarg dL_come_194 rfl (by decide)) rfl (za_cons (zx_iload_n dL_come_195 rfl (by decide)) rfl (za_nil))) (k_L_cell hL2) ⟨znd_0, znd_0, Or.inr rfl⟩ (by decide) rfl (zGS zw_445 zw_446 zw_7 zw_447) rfl hyS_L_cell ⟨Nat.le_of_ble_eq_true rfl, Nat.le_of_ble_eq_true rfl⟩ (by decide) dL_come_196) (zx_iadd (zx_bipush dL_come_199 rfl ⟨by decide, by decide⟩) (zx_imul (zx_iconst dL_come_201 rfl ⟨by decide, by decide⟩) (zx_iload dL_come_202 (by decide)) dL_come_204) dL_come_205) dL_come_206) rfl (za_cons (zx_iload dL_come_207 (by decide)) rfl (za_nil))) k_L_some zf_0 (by decide) rfl (zGS zw_449 zw_450 zw_7 zw_451) rfl hyS_L_some ⟨Nat.le_of_ble_eq_true rfl, Nat.le_of_ble_eq_true rfl⟩ (by decide) dL_come_209) dL_come_212 (Nat.le_of_ble_eq_true rfl) (by decide)) (zs_seq (zs_zstore (Γ2 := [(0, 10), (1, 3), (2, 0), (3, 0), (4, 47), (5, 0), (6, 0), (7, 0), (8, 0), (9, 4)]) (zx_z (zc_icmpN_eq (zx_iand (zx_ishr (zx_ialdS (o := 37) (zx_thisW (o := 37) dL_come_214 rfl (by decide) (by decide)) (zx_bipush dL_come_216 rfl ⟨by decide, by decide⟩) (zp_b (by decide) h37) rfl rfl dL_come_218) (zx_iload dL_come_219 (by decide)) dL_come_221) (zx_iconst dL_come_222 rfl ⟨by decide, by decide⟩) dL_come_223) (zx_iconst dL_come_224 rfl ⟨by decide, by decide⟩) dL_come_225 (by decide)) dL_come_228 dL_come_229 (by decide) dL_come_232 rfl) dL_come_233 (Nat.le_of_ble_eq_true rfl) (by decide)) (zs_seq (zs_if (zc_icmpN_ne (zx_callV (za_cons (zx_this (o := 0) dL_come_235 rfl rfl (by decide) (by decide)) rfl (za_cons (zx_iload dL_come_236 (by decide)) rfl (za_cons (zx_bconst dL_come_238 rfl (Or.inr rfl)) rfl (za_nil)))) k_X8_plant zf_0 (by decide) (by decide) (by decide) rfl rfl (zGV zw_503 zw_504 zw_505 zw_8 zw_506) rfl hyV_X8_plant ⟨Nat.le_of_ble_eq_true rfl, Nat.le_of_ble_eq_true rfl⟩ (by decide) dL_come_239) (zx_ite (zc_bN (zx_sub (zx_zload dL_come_242 (by decide))) dL_come_244 (by decide)) (zx_iconst dL_come_247 rfl ⟨by decide, by decide⟩) dL_come_248 (by decide) (zx_iconst dL_come_251 rfl ⟨by decide, by decide⟩)) dL_come_252 (by decide)) (zs_ret (zx_bconst dL_come_255 rfl (Or.inl rfl)) rfl (by decide) dL_come_256) zs_skip) (zs_iastO (o := 37) (zx_thisW (o := 37) dL_come_257 rfl (by decide) (by decide)) (zx_bipush dL_come_259 rfl ⟨by decide, by decide⟩) dL_come_261 dL_come_262 (zx_ishl (zx_iconst dL_come_263 rfl ⟨by decide, by decide⟩) (zx_iload dL_come_264 (by decide)) dL_come_266) (zo_ior dL_come_267) (zp_b (by decide) h37) rfl rfl dL_come_268)))) (by decide) (by decide) (zY_ok (by decide))) (zs_goto (zs_iinc (Γ2 := [(0, 10), (1, 3), (2, 0), (3, 0), (4, 47), (5, 0), (6, 0), (7, 0)]) dL_come_269 (by decide) (Nat.le_of_ble_eq_true rfl) (by decide)) dL_come_272 (by decide)))) (by decide) (by decide) zX0_ok) (zs_seq (zs_istore (Γ2 := [(0, 10), (1, 3), (2, 0), (3, 0), (4, 47), (5, 0), (6, 0), (7, 0)]) (zx_callS (za_cons (zx_callS (za_cons (zx_sarg dL_come_275 rfl (by decide)) rfl (za_cons (zx_iadd (zx_iload_n dL_come_276 rfl (by decide)) (zx_iconst dL_come_277 rfl ⟨by decide, by decide⟩) dL_come_278) rfl (za_nil))) (k_L_cell hL2) ⟨znd_0, znd_0, Or.inr rfl⟩ (by decide) rfl (zGS zw_445 zw_446 zw_7 zw_447) rfl hyS_L_cell ⟨Nat.le_of_ble_eq_true rfl, Nat.le_of_ble_eq_true rfl⟩ (by decide) dL_come_279) rfl (za_cons (zx_ite (zc_ifN_eq (zx_callS (za_cons (zx_ishr (zx_callS (za_cons (zx_sarg dL_come_282 rfl (by decide)) rfl (za_cons (zx_iadd (zx_iload_n dL_come_283 rfl (by decide)) (zx_iconst dL_come_284 rfl ⟨by decide, by decide⟩) dL_come_285) rfl (za_nil))) (k_L_cell hL2) ⟨znd_0, znd_0, Or.inr rfl⟩ (by decide) rfl (zGS zw_445 zw_446 zw_7 zw_447) rfl hyS_L_cell ⟨Nat.le_of_ble_eq_true rfl, Nat.le_of_ble_eq_true rfl⟩ (by decide) dL_come_286) (zx_bipush dL_come_289 rfl ⟨by decide, by decide⟩) dL_come_291) rfl (za_cons (zx_iconst dL_come_292 rfl ⟨by decide, by decide⟩) rfl (za_nil))) k_L_some zf_0 (by decide) rfl (zGS zw_449 zw_450 zw_7 zw_451) rfl hyS_L_some ⟨Nat.le_of_ble_eq_true rfl, Nat.le_of_ble_eq_true rfl⟩ (by decide) dL_come_293) dL_come_296 (by decide)) (zx_bipush dL_come_299 rfl ⟨by decide, by decide⟩) dL_come_301 (by decide) (zx_bipush dL_come_304 rfl ⟨by decide, by decide⟩)) rfl (za_nil))) k_L_some zf_0 (by decide) rfl (zGS zw_449 zw_450 zw_7 zw_451) rfl hyS_L_some ⟨Nat.le_of_ble_eq_true rfl, Nat.le_of_ble_eq_true rfl⟩ (by decide) dL_come_306) dL_come_309 (Nat.le_of_ble_eq_true rfl) (by decide)) (zs_seq (zs_if (zc_icmpN_ne (zx_callV (za_cons (zx_this (o := 0) dL_come_311 rfl rfl (by decide) (by decide)) rfl (za_cons (zx_iload dL_come_312 (by decide)) rfl (za_nil))) k_X8_ear zf_0 (by decide) (by decide) (by decide) rfl rfl (zGV zw_516 zw_517 zw_518 zw_8 zw_519) rfl hyV_X8_ear ⟨Nat.le_of_ble_eq_true rfl, Nat.le_of_ble_eq_true rfl⟩ (by decide) dL_come_314) (zx_ialdS (o := 37) (zx_thisW (o := 37) dL_come_317 rfl (by decide) (by decide)) (zx_iconst dL_come_319 rfl ⟨by decide, by decide⟩) (zp_b (by decide) h37) rfl rfl dL_come_320) dL_come_321 (by decide)) (zs_ret (zx_bconst dL_come_324 rfl (Or.inl rfl)) rfl (by decide) dL_come_325) zs_skip) (zs_seq (zs_iastS (o := 37) (zx_thisW (o := 37) dL_come_326 rfl (by decide) (by decide)) (zx_iconst dL_come_328 rfl ⟨by decide, by decide⟩) (zx_iload dL_come_329 (by decide)) (zp_b (by decide) h37) rfl rfl dL_come_331) (zs_ret (zx_bconst dL_come_332 rfl (Or.inr rfl)) rfl (by decide) dL_come_333)))))))
theorem k_L_come {L : Nat} {xs : Nat → Int32} (hL2 : L < 2147483648) : zCon yL_come wz_L_come [37] [] (some (L, xs)) 7 170 [10, 3, 0, 0, 47] 4 (m_L_come L xs) := zMk (own := RL) (cc := cL_come) (b := 0) (Γ2 := []) (X := zX0) (by decide +kernel) rfl rfl (by decide) (Or.inr (Or.inr (Or.inl ⟨rfl, rfl⟩))) ⟨List.range 37 ++ [37], ⟨by decide +kernel, fun o h => List.mem_append_left _ (List.mem_range.mpr h)⟩, by decide +kernel, by decide +kernel⟩ (fun P cp ns hh => s_L_come hL2 ns (hh.2.1 37 (by decide)) cp P)
theorem e_L_come (L : Nat) (xs : Nat → Int32) (x0 x1 x2 x3 x4 : Int) (σ : zHp) : m_L_come L xs [x0, x1, x2, x3, x4] σ = (d_L_come L xs [x0, x1, x2, x3, x4, 0, 0, 0, 0, 0] σ).bind fun q => if q.1 = 1 then some (zg q.2.1 0, q.2.2) else none := rfl
abbrev wz_L_loud : List Cond := Cond.code yL_loud cL_loud 15 none :: zG
def lc_L_loud_1 : zC := cV (fun x => r_gt x 0) (xL 11)
def lf_L_loud_1 : zS := sD [12, 13, 14] (sQ (sS 12 (xI (cV (fun x => r_lt x 0) (xL 7)) (xU zneg (xD zdiv (xB o_iadd (xB o_imul (xB o_imul (xC 2) (xL 11)) (xU zneg (xL 7))) (xL 10)) (xB o_imul (xC 2) (xL 10)))) (xD zdiv (xB o_iadd (xB o_imul (xB o_imul (xC 2) (xL 11)) (xL 7)) (xL 10)) (xB o_imul (xC 2) (xL 10))))) (sQ (sS 13 (xI (cV (fun x => r_lt x 0) (xL 8)) (xU zneg (xD zdiv (xB o_iadd (xB o_imul (xB o_imul (xC 2) (xL 11)) (xU zneg (xL 8))) (xL 10)) (xB o_imul (xC 2) (xL 10)))) (xD zdiv (xB o_iadd (xB o_imul (xB o_imul (xC 2) (xL 11)) (xL 8)) (xL 10)) (xB o_imul (xC 2) (xL 10))))) (sQ (sS 14 (xB o_iadd (xB o_iadd (xL 2) (xB o_imul (xE 37 60 (xC 1)) (xL 12))) (xL 13))) (sQ (sI (cA (cA (cR r_lt (xL 1) (xC 2)) (cR r_gt (xE 37 60 (xB o_iadd (xC 3) (xL 14))) (xE 37 60 (xB o_iadd (xC 3) (xL 2))))) (cR r_gt (xE 37 60 (xB o_iadd (xC 3) (xL 14))) (xE 37 60 (xB o_iadd (xC 3) (xL 4))))) (sEo o_lmul 42 2 (xC 1) (xC 2)) sK) (sI (cR r_eq (xB zAnd (xB zShr (xE 37 60 (xC 40)) (xL 14)) (xC 1)) (xC 1)) (sEo o_lmul 42 2 (xC 1) (xC 2)) sK)))))
def ls_L_loud_1 : zS := sS 11 (xB o_iadd (xL 11) (xC (-1)))
def d_L_loud : zS := sQ (sQ (sS 7 (xB o_isub (xD zdiv (xL 4) (xE 37 60 (xC 1))) (xD zdiv (xL 2) (xE 37 60 (xC 1))))) (sQ (sS 8 (xB o_isub (xD zmod (xL 4) (xE 37 60 (xC 1))) (xD zmod (xL 2) (xE 37 60 (xC 1))))) (sQ (sS 9 (xB o_iadd (xB o_imul (xL 7) (xL 7)) (xB o_imul (xL 8) (xL 8)))) (sQ (sE 42 2 (xC 0) (xI (cV (fun x => r_gt x 0) (xL 1)) (xB o_lmul (xC 2) (xL 3)) (xL 3))) (sQ (sE 42 2 (xC 1) (xI (cV (fun x => r_gt x 0) (xL 1)) (xB o_iadd (xC 2) (xL 9)) (xB o_iadd (xC 1) (xL 9)))) (sQ (sS 10 (xI (cV (fun x => r_lt x 0) (xL 7)) (xU zneg (xL 7)) (xL 7))) (sQ (sI (cO (cR r_gt (xL 8) (xL 10)) (cR r_gt (xU zneg (xL 8)) (xL 10))) (sS 10 (xI (cV (fun x => r_lt x 0) (xL 8)) (xU zneg (xL 8)) (xL 8))) sK) (sQ (sD [11] (sQ (sS 11 (xB o_isub (xL 10) (xC 1))) (sW lc_L_loud_1 lf_L_loud_1 ls_L_loud_1))) (sQ (sS 11 (xD zdiv (xL 5) (xC 10))) (sQ (sS 12 (xI (cV (fun x => r_eq x 0) (xL 11)) (xU zneg (xL 7)) (xI (cR r_eq (xL 11) (xC 1)) (xL 8) (xI (cR r_eq (xL 11) (xC 2)) (xL 7) (xU zneg (xL 8)))))) (sQ (sI (cV (fun x => r_eq x 0) (xL 12)) (sV) sK) (sQ (sS 13 (xB o_iadd (xC 10) (xD zmod (xL 5) (xC 10)))) (sQ (sEo o_lmul 42 2 (xC 0) (xI (cV (fun x => r_gt x 0) (xL 12)) (xL 13) (xC 10))) (sEo o_lmul 42 2 (xC 1) (xI (cV (fun x => r_gt x 0) (xL 12)) (xC 10) (xL 13)))))))))))))))) sV
def m_L_loud : List Int → zHp → Option (Int × zHp) := zRun 15 [47, 0, 0, 0, 0, 0, 52] d_L_loud
set_option maxRecDepth 100000 in
set_option maxHeartbeats 4000000 in
theorem s_L_loud (ns : List Nat) (h37 : 37 ∈ ns) (h42 : 42 ∈ ns) (cp : Int) (P : Int → zHp → Prop) : zSt (RL, cL_loud, 15, wz_L_loud, 1, 25, none, 9, ns, ns, cp, P) [(0, 47), (1, 0), (2, 0), (3, 0), (4, 0), (5, 0), (6, 52)] 0 0 [] zX0 (d_L_loud) := zs_seq (zs_seq (zs_istore (Γ2 := [(0, 47), (1, 0), (2, 0), (3, 0), (4, 0), (5, 0), (6, 52), (7, 0)]) (zx_isub (zx_idiv (zx_iload dL_loud_0 (by decide)) (zx_ialdS (o := 37) (zx_this (o := 37) dL_loud_2 rfl rfl (by decide) (by decide)) (zx_iconst dL_loud_3 rfl ⟨by decide, by decide⟩) (zp_b (by decide) h37) rfl rfl dL_loud_4) dL_loud_5) (zx_idiv (zx_iload_n dL_loud_6 rfl (by decide)) (zx_ialdS (o := 37) (zx_this (o := 37) dL_loud_7 rfl rfl (by decide) (by decide)) (zx_iconst dL_loud_8 rfl ⟨by decide, by decide⟩) (zp_b (by decide) h37) rfl rfl dL_loud_9) dL_loud_10) dL_loud_11) dL_loud_12 (Nat.le_of_ble_eq_true rfl) (by decide)) (zs_seq (zs_istore (Γ2 := [(0, 47), (1, 0), (2, 0), (3, 0), (4, 0), (5, 0), (6, 52), (7, 0), (8, 0)]) (zx_isub (zx_irem (zx_iload dL_loud_14 (by decide)) (zx_ialdS (o := 37) (zx_this (o := 37) dL_loud_16 rfl rfl (by decide) (by decide)) (zx_iconst dL_loud_17 rfl ⟨by decide, by decide⟩) (zp_b (by decide) h37) rfl rfl dL_loud_18) dL_loud_19) (zx_irem (zx_iload_n dL_loud_20 rfl (by decide)) (zx_ialdS (o := 37) (zx_this (o := 37) dL_loud_21 rfl rfl (by decide) (by decide)) (zx_iconst dL_loud_22 rfl ⟨by decide, by decide⟩) (zp_b (by decide) h37) rfl rfl dL_loud_23) dL_loud_24) dL_loud_25) dL_loud_26 (Nat.le_of_ble_eq_true rfl) (by decide)) (zs_seq (zs_istore (Γ2 := [(0, 47), (1, 0), (2, 0), (3, 0), (4, 0), (5, 0), (6, 52), (7, 0), (8, 0), (9, 0)]) (zx_iadd (zx_imul (zx_iload dL_loud_28 (by decide)) (zx_iload dL_loud_30 (by decide)) dL_loud_32) (zx_imul (zx_iload dL_loud_33 (by decide)) (zx_iload dL_loud_35 (by decide)) dL_loud_37) dL_loud_38) dL_loud_39 (Nat.le_of_ble_eq_true rfl) (by decide)) (zs_seq (zs_lastS (o := 42) (zx_thisW (o := 42) dL_loud_41 rfl (by decide) (by decide)) (zx_iconst dL_loud_43 rfl ⟨by decide, by decide⟩) (zx_ite (zc_ifN_gt (zx_iload_n dL_loud_44 rfl (by decide)) dL_loud_45 (by decide)) (zx_lmul (zx_ldc2 dL_loud_48 (List.mem_cons_of_mem _ zw_526) rfl ⟨by decide, by decide⟩) (zx_i2l (zx_iload_n dL_loud_51 rfl (by decide)) dL_loud_52) dL_loud_53) dL_loud_54 (by decide) (zx_i2l (zx_iload_n dL_loud_57 rfl (by decide)) dL_loud_58)) (zp_b (by decide) h42) rfl rfl dL_loud_59) (zs_seq (zs_lastS (o := 42) (zx_thisW (o := 42) dL_loud_60 rfl (by decide) (by decide)) (zx_iconst dL_loud_62 rfl ⟨by decide, by decide⟩) (zx_ite (zc_ifN_gt (zx_iload_n dL_loud_63 rfl (by decide)) dL_loud_64 (by decide)) (zx_i2l (zx_iadd (zx_iconst dL_loud_67 rfl ⟨by decide, by decide⟩) (zx_iload dL_loud_68 (by decide)) dL_loud_70) dL_loud_71) dL_loud_72 (by decide) (zx_i2l (zx_iadd (zx_iconst dL_loud_75 rfl ⟨by decide, by decide⟩) (zx_iload dL_loud_76 (by decide)) dL_loud_78) dL_loud_79)) (zp_b (by decide) h42) rfl rfl dL_loud_80) (zs_seq (zs_istore (Γ2 := [(0, 47), (1, 0), (2, 0), (3, 0), (4, 0), (5, 0), (6, 52), (7, 0), (8, 0), (9, 0), (10, 0)]) (zx_ite (zc_ifN_lt (zx_iload dL_loud_81 (by decide)) dL_loud_83 (by decide)) (zx_ineg (zx_iload dL_loud_86 (by decide)) dL_loud_88) dL_loud_89 (by decide) (zx_iload dL_loud_92 (by decide))) dL_loud_94 (Nat.le_of_ble_eq_true rfl) (by decide)) (zs_seq (zs_if (zc_or (zc_icmp_gt (zx_iload dL_loud_96 (by decide)) (zx_iload dL_loud_98 (by decide)) dL_loud_100 (by decide)) (zc_icmpN_gt (zx_ineg (zx_iload dL_loud_103 (by decide)) dL_loud_105) (zx_iload dL_loud_106 (by decide)) dL_loud_108 (by decide))) (zs_istore (Γ2 := [(0, 47), (1, 0), (2, 0), (3, 0), (4, 0), (5, 0), (6, 52), (7, 0), (8, 0), (9, 0), (10, 0)]) (zx_ite (zc_ifN_lt (zx_iload dL_loud_111 (by decide)) dL_loud_113 (by decide)) (zx_ineg (zx_iload dL_loud_116 (by decide)) dL_loud_118) dL_loud_119 (by decide) (zx_iload dL_loud_122 (by decide))) dL_loud_124 (Nat.le_of_ble_eq_true rfl) (by decide)) zs_skip) (zs_seq (zs_blk (Γ2 := [(0, 47), (1, 0), (2, 0), (3, 0), (4, 0), (5, 0), (6, 52), (7, 0), (8, 0), (9, 0), (10, 0)]) (Γ3 := [(0, 47), (1, 0), (2, 0), (3, 0), (4, 0), (5, 0), (6, 52), (7, 0), (8, 0), (9, 0), (10, 0), (11, 0)]) (ks := [11]) (zs_seq (zs_istore (Γ2 := [(0, 47), (1, 0), (2, 0), (3, 0), (4, 0), (5, 0), (6, 52), (7, 0), (8, 0), (9, 0), (10, 0), (11, 0)]) (zx_isub (zx_iload dL_loud_126 (by decide)) (zx_iconst dL_loud_128 rfl ⟨by decide, by decide⟩) dL_loud_129) dL_loud_130 (Nat.le_of_ble_eq_true rfl) (by decide)) (zs_loop (Γ := [(0, 47), (1, 0), (2, 0), (3, 0), (4, 0), (5, 0), (6, 52), (7, 0), (8, 0), (9, 0), (10, 0), (11, 0)]) (zc_ifN_gt (zx_iload dL_loud_132 (by decide)) dL_loud_134 (by decide)) (zs_blk (Γ2 := [(0, 47), (1, 0), (2, 0), (3, 0), (4, 0), (5, 0), (6, 52), (7, 0), (8, 0), (9, 0), (10, 0), (11, 0)]) (Γ3 := [(0, 47), (1, 0), (2, 0), (3, 0), (4, 0), (5, 0), (6, 52), (7, 0), (8, 0), (9, 0), (10, 0), (11, 0), (12, 0), (13, 0), (14, 0)]) (ks := [12, 13, 14]) (zs_seq (zs_istore (Γ2 := [(0, 47), (1, 0), (2, 0), (3, 0), (4, 0), (5, 0), (6, 52), (7, 0), (8, 0), (9, 0), (10, 0), (11, 0), (12, 0)]) (zx_ite (zc_ifN_lt (zx_iload dL_loud_137 (by decide)) dL_loud_139 (by decide)) (zx_ineg (zx_idiv (zx_iadd (zx_imul (zx_imul (zx_iconst dL_loud_142 rfl ⟨by decide, by decide⟩) (zx_iload dL_loud_143 (by decide)) dL_loud_145) (zx_ineg (zx_iload dL_loud_146 (by decide)) dL_loud_148) dL_loud_149) (zx_iload dL_loud_150 (by decide)) dL_loud_152) (zx_imul (zx_iconst dL_loud_153 rfl ⟨by decide, by decide⟩) (zx_iload dL_loud_154 (by decide)) dL_loud_156) dL_loud_157) dL_loud_158) dL_loud_159 (by decide) (zx_idiv (zx_iadd (zx_imul (zx_imul (zx_iconst dL_loud_162 rfl ⟨by decide, by decide⟩) (zx_iload dL_loud_163 (by decide)) dL_loud_165) (zx_iload dL_loud_166 (by decide)) dL_loud_168) (zx_iload dL_loud_169 (by decide)) dL_loud_171) (zx_imul (zx_iconst dL_loud_172 rfl ⟨by decide, by decide⟩) (zx_iload dL_loud_173 (by decide)) dL_loud_175) dL_loud_176)) dL_loud_177 (Nat.le_of_ble_eq_true rfl) (by decide)) (zs_seq (zs_istore (Γ2 := [(0, 47), (1, 0), (2, 0), (3, 0), (4, 0), (5, 0), (6, 52), (7, 0), (8, 0), (9, 0), (10, 0), (11, 0), (12, 0), (13, 0)]) (zx_ite (zc_ifN_lt (zx_iload dL_loud_179 (by decide)) dL_loud_181 (by decide)) (zx_ineg (zx_idiv (zx_iadd (zx_imul (zx_imul (zx_iconst dL_loud_184 rfl ⟨by decide, by decide⟩) (zx_iload dL_loud_185 (by decide)) dL_loud_187) (zx_ineg (zx_iload dL_loud_188 (by decide)) dL_loud_190) dL_loud_191) (zx_iload dL_loud_192 (by decide)) dL_loud_194) (zx_imul (zx_iconst dL_loud_195 rfl ⟨by decide, by decide⟩) (zx_iload dL_loud_196 (by decide)) dL_loud_198) dL_loud_199) dL_loud_200) dL_loud_201 (by decide) (zx_idiv (zx_iadd (zx_imul (zx_imul (zx_iconst dL_loud_204 rfl ⟨by decide, by decide⟩) (zx_iload dL_loud_205 (by decide)) dL_loud_207) (zx_iload dL_loud_208 (by decide)) dL_loud_210) (zx_iload dL_loud_211 (by decide)) dL_loud_213) (zx_imul (zx_iconst dL_loud_214 rfl ⟨by decide, by decide⟩) (zx_iload dL_loud_215 (by decide)) dL_loud_217) dL_loud_218)) dL_loud_219 (Nat.le_of_ble_eq_true rfl) (by decide)) (zs_seq (zs_istore (Γ2 := [(0, 47), (1, 0), (2, 0), (3, 0), (4, 0), (5, 0), (6, 52), (7, 0), (8, 0), (9, 0), (10, 0), (11, 0), (12, 0), (13, 0), (14, 0)]) (zx_iadd (zx_iadd (zx_iload_n dL_loud_221 rfl (by decide)) (zx_imul (zx_ialdS (o := 37) (zx_this (o := 37) dL_loud_222 rfl rfl (by decide) (by decide)) (zx_iconst dL_loud_223 rfl ⟨by decide, by decide⟩) (zp_b (by decide) h37) rfl rfl dL_loud_224) (zx_iload dL_loud_225 (by decide)) dL_loud_227) dL_loud_228) (zx_iload dL_loud_229 (by decide)) dL_loud_231) dL_loud_232 (Nat.le_of_ble_eq_true rfl) (by decide)) (zs_seq (zs_if (zc_and (zc_and (zc_icmpN_lt (zx_iload_n dL_loud_234 rfl (by decide)) (zx_iconst dL_loud_235 rfl ⟨by decide, by decide⟩) dL_loud_236 (by decide)) (zc_icmpN_gt (zx_ialdS (o := 37) (zx_this (o := 37) dL_loud_239 rfl rfl (by decide) (by decide)) (zx_iadd (zx_iconst dL_loud_240 rfl ⟨by decide, by decide⟩) (zx_iload dL_loud_241 (by decide)) dL_loud_243) (zp_b (by decide) h37) rfl rfl dL_loud_244) (zx_ialdS (o := 37) (zx_this (o := 37) dL_loud_245 rfl rfl (by decide) (by decide)) (zx_iadd (zx_iconst dL_loud_246 rfl ⟨by decide, by decide⟩) (zx_iload_n dL_loud_247 rfl (by decide)) dL_loud_248) (zp_b (by decide) h37) rfl rfl dL_loud_249) dL_loud_250 (by decide))) (zc_icmpN_gt (zx_ialdS (o := 37) (zx_this (o := 37) dL_loud_253 rfl rfl (by decide) (by decide)) (zx_iadd (zx_iconst dL_loud_254 rfl ⟨by decide, by decide⟩) (zx_iload dL_loud_255 (by decide)) dL_loud_257) (zp_b (by decide) h37) rfl rfl dL_loud_258) (zx_ialdS (o := 37) (zx_this (o := 37) dL_loud_259 rfl rfl (by decide) (by decide)) (zx_iadd (zx_iconst dL_loud_260 rfl ⟨by decide, by decide⟩) (zx_iload dL_loud_261 (by decide)) dL_loud_263) (zp_b (by decide) h37) rfl rfl dL_loud_264) dL_loud_265 (by decide))) (zs_lastO (o := 42) (zx_thisW (o := 42) dL_loud_268 rfl (by decide) (by decide)) (zx_iconst dL_loud_270 rfl ⟨by decide, by decide⟩) dL_loud_271 dL_loud_272 (zx_ldc2 dL_loud_273 (List.mem_cons_of_mem _ zw_526) rfl ⟨by decide, by decide⟩) (zo_lmul dL_loud_276) (zp_b (by decide) h42) rfl rfl dL_loud_277) zs_skip) (zs_if (zc_icmpN_eq (zx_iand (zx_ishr (zx_ialdS (o := 37) (zx_this (o := 37) dL_loud_278 rfl rfl (by decide) (by decide)) (zx_bipush dL_loud_279 rfl ⟨by decide, by decide⟩) (zp_b (by decide) h37) rfl rfl dL_loud_281) (zx_iload dL_loud_282 (by decide)) dL_loud_284) (zx_iconst dL_loud_285 rfl ⟨by decide, by decide⟩) dL_loud_286) (zx_iconst dL_loud_287 rfl ⟨by decide, by decide⟩) dL_loud_288 (by decide)) (zs_lastO (o := 42) (zx_thisW (o := 42) dL_loud_291 rfl (by decide) (by decide)) (zx_iconst dL_loud_293 rfl ⟨by decide, by decide⟩) dL_loud_294 dL_loud_295 (zx_ldc2 dL_loud_296 (List.mem_cons_of_mem _ zw_526) rfl ⟨by decide, by decide⟩) (zo_lmul dL_loud_299) (zp_b (by decide) h42) rfl rfl dL_loud_300) zs_skip))))) (by decide) (by decide) (zY_ok (by decide))) (zs_goto (zs_iinc (Γ2 := [(0, 47), (1, 0), (2, 0), (3, 0), (4, 0), (5, 0), (6, 52), (7, 0), (8, 0), (9, 0), (10, 0), (11, 0)]) dL_loud_301 (by decide) (Nat.le_of_ble_eq_true rfl) (by decide)) dL_loud_304 (by decide)))) (by decide) (by decide) zX0_ok) (zs_seq (zs_istore (Γ2 := [(0, 47), (1, 0), (2, 0), (3, 0), (4, 0), (5, 0), (6, 52), (7, 0), (8, 0), (9, 0), (10, 0), (11, 0)]) (zx_idiv (zx_iload dL_loud_307 (by decide)) (zx_bipush dL_loud_309 rfl ⟨by decide, by decide⟩) dL_loud_311) dL_loud_312 (Nat.le_of_ble_eq_true rfl) (by decide)) (zs_seq (zs_istore (Γ2 := [(0, 47), (1, 0), (2, 0), (3, 0), (4, 0), (5, 0), (6, 52), (7, 0), (8, 0), (9, 0), (10, 0), (11, 0), (12, 0)]) (zx_ite (zc_ifN_eq (zx_iload dL_loud_314 (by decide)) dL_loud_316 (by decide)) (zx_ineg (zx_iload dL_loud_319 (by decide)) dL_loud_321) dL_loud_322 (by decide) (zx_ite (zc_icmpN_eq (zx_iload dL_loud_325 (by decide)) (zx_iconst dL_loud_327 rfl ⟨by decide, by decide⟩) dL_loud_328 (by decide)) (zx_iload dL_loud_331 (by decide)) dL_loud_333 (by decide) (zx_ite (zc_icmpN_eq (zx_iload dL_loud_336 (by decide)) (zx_iconst dL_loud_338 rfl ⟨by decide, by decide⟩) dL_loud_339 (by decide)) (zx_iload dL_loud_342 (by decide)) dL_loud_344 (by decide) (zx_ineg (zx_iload dL_loud_347 (by decide)) dL_loud_349)))) dL_loud_350 (Nat.le_of_ble_eq_true rfl) (by decide)) (zs_seq (zs_if (zc_ifN_eq (zx_iload dL_loud_352 (by decide)) dL_loud_354 (by decide)) (zs_retv rfl dL_loud_357) zs_skip) (zs_seq (zs_istore (Γ2 := [(0, 47), (1, 0), (2, 0), (3, 0), (4, 0), (5, 0), (6, 52), (7, 0), (8, 0), (9, 0), (10, 0), (11, 0), (12, 0), (13, 0)]) (zx_iadd (zx_bipush dL_loud_358 rfl ⟨by decide, by decide⟩) (zx_irem (zx_iload dL_loud_360 (by decide)) (zx_bipush dL_loud_362 rfl ⟨by decide, by decide⟩) dL_loud_364) dL_loud_365) dL_loud_366 (Nat.le_of_ble_eq_true rfl) (by decide)) (zs_seq (zs_lastO (o := 42) (zx_thisW (o := 42) dL_loud_368 rfl (by decide) (by decide)) (zx_iconst dL_loud_370 rfl ⟨by decide, by decide⟩) dL_loud_371 dL_loud_372 (zx_ite (zc_ifN_gt (zx_iload dL_loud_373 (by decide)) dL_loud_375 (by decide)) (zx_i2l (zx_iload dL_loud_378 (by decide)) dL_loud_380) dL_loud_381 (by decide) (zx_ldc2 dL_loud_384 (List.mem_cons_of_mem _ zw_527) rfl ⟨by decide, by decide⟩)) (zo_lmul dL_loud_387) (zp_b (by decide) h42) rfl rfl dL_loud_388) (zs_lastO (o := 42) (zx_thisW (o := 42) dL_loud_389 rfl (by decide) (by decide)) (zx_iconst dL_loud_391 rfl ⟨by decide, by decide⟩) dL_loud_392 dL_loud_393 (zx_ite (zc_ifN_gt (zx_iload dL_loud_394 (by decide)) dL_loud_396 (by decide)) (zx_ldc2 dL_loud_399 (List.mem_cons_of_mem _ zw_527) rfl ⟨by decide, by decide⟩) dL_loud_402 (by decide) (zx_i2l (zx_iload dL_loud_405 (by decide)) dL_loud_407)) (zo_lmul dL_loud_408) (zp_b (by decide) h42) rfl rfl dL_loud_409)))))))))))))) (zs_retv rfl dL_loud_410)
theorem k_L_loud : zCon yL_loud wz_L_loud [37, 42] [] (none) 1 25 [47, 0, 0, 0, 0, 0, 52] 9 (m_L_loud) := zMk (own := RL) (cc := cL_loud) (b := 0) (Γ2 := []) (X := zX0) (by decide +kernel) rfl rfl (by decide) (Or.inr (Or.inr (Or.inr ⟨rfl, rfl⟩))) ⟨List.range 37 ++ [37, 42], ⟨by decide +kernel, fun o h => List.mem_append_left _ (List.mem_range.mpr h)⟩, by decide +kernel, by decide +kernel⟩ (fun P cp ns hh => s_L_loud ns (hh.2.1 37 (by decide)) (hh.2.1 42 (by decide)) cp P)
theorem e_L_loud (x0 x1 x2 x3 x4 x5 x6 : Int) (σ : zHp) : m_L_loud [x0, x1, x2, x3, x4, x5, x6] σ = (d_L_loud [x0, x1, x2, x3, x4, x5, x6, 0, 0, 0, 0, 0, 0, 0, 0] σ).bind fun q => if q.1 = 1 then some (zg q.2.1 0, q.2.2) else none := rfl
abbrev wz_L_hear : List Cond := Cond.code yL_hear cL_hear 6 none :: zG
def lc_L_hear_a_1 : zC := cR r_lt (xL 5) (xE 37 60 (xC 41))
def lf_L_hear_a_1 : zS := sQ (sX (xK m_L_loud (aC (xC 37) (aC (xE 37 60 (xB o_iadd (xC 42) (xL 5))) (aC (xE 37 60 (xB o_iadd (xC 48) (xL 5))) (aC (xE 37 60 (xB o_iadd (xC 54) (xL 5))) (aC (xL 1) (aC (xL 2) (aC (xC 42) (aN)))))))))) (sQ (sE 38 16 (xL 5) (xE 42 2 (xC 0))) (sE 38 16 (xB o_iadd (xC 8) (xL 5)) (xE 42 2 (xC 1))))
def ls_L_hear_a_1 : zS := sS 5 (xB o_iadd (xL 5) (xC 1))
def d_L_hear_a : zS := sQ (sNw 42 4 (sD [5] (sQ (sS 5 (xC 0)) (sW lc_L_hear_a_1 lf_L_hear_a_1 ls_L_hear_a_1)))) sV
def m_L_hear_a : List Int → zHp → Option (Int × zHp) := zRun 6 [47, 0, 0, 48] d_L_hear_a
set_option maxRecDepth 100000 in
set_option maxHeartbeats 4000000 in
theorem s_L_hear_a (ns : List Nat) (h37 : 37 ∈ ns) (h38 : 38 ∈ ns) (a42 : 42 ∉ ns) (cp : Int) (P : Int → zHp → Prop) : zSt (RL, cL_hear, 6, wz_L_hear, 2, 59, none, 9, ns, ns, cp, P) [(0, 47), (1, 0), (2, 0), (3, 48)] 0 0 [] zX0 (d_L_hear_a) := zs_seq (zs_new (M := (RL, cL_hear, 6, wz_L_hear, 2, 59, none, 9, ns, ns, cp, P)) (Γ := [(0, 47), (1, 0), (2, 0), (3, 48)]) (a := 0) (a1 := 1) (a3 := 5) (k := 42) (N := 2) (slot := 4) (Γ1 := [(0, 47), (1, 0), (2, 0), (3, 48), (4, 52)]) (Γ2 := [(0, 47), (1, 0), (2, 0), (3, 48)]) (Γ3 := [(0, 47), (1, 0), (2, 0), (3, 48), (4, 52)]) (zx_iconst dL_hear_0 rfl ⟨by decide, by decide⟩) rfl (by decide) (by decide) rfl (by decide) (Or.inr ⟨rfl, rfl⟩) (List.mem_cons_of_mem _ zw_120) a42 a42 (by decide) dL_hear_1 (Nat.le_of_ble_eq_true rfl) (Or.inr ⟨dL_hear_3, rfl⟩) (by decide) (zs_blk (Γ2 := [(0, 47), (1, 0), (2, 0), (3, 48), (4, 52)]) (Γ3 := [(0, 47), (1, 0), (2, 0), (3, 48), (4, 52), (5, 0)]) (ks := [5]) (zs_seq (zs_istore (Γ2 := [(0, 47), (1, 0), (2, 0), (3, 48), (4, 52), (5, 0)]) (zx_iconst dL_hear_5 rfl ⟨by decide, by decide⟩) dL_hear_6 (Nat.le_of_ble_eq_true rfl) (by decide)) (zs_loop (Γ := [(0, 47), (1, 0), (2, 0), (3, 48), (4, 52), (5, 0)]) (zc_icmpN_lt (zx_iload dL_hear_8 (by decide)) (zx_ialdS (o := 37) (zx_this (o := 37) dL_hear_10 rfl rfl (by decide) (by decide)) (zx_bipush dL_hear_11 rfl ⟨by decide, by decide⟩) (zp_b (by decide) (List.mem_cons_of_mem _ h37)) rfl rfl dL_hear_13) dL_hear_14 (by decide)) (zs_seq (zs_callS (za_cons (zx_this (o := 37) dL_hear_17 rfl rfl (by decide) (by decide)) rfl (za_cons (zx_ialdS (o := 37) (zx_this (o := 37) dL_hear_18 rfl rfl (by decide) (by decide)) (zx_iadd (zx_bipush dL_hear_19 rfl ⟨by decide, by decide⟩) (zx_iload dL_hear_21 (by decide)) dL_hear_23) (zp_b (by decide) (List.mem_cons_of_mem _ h37)) rfl rfl dL_hear_24) rfl (za_cons (zx_ialdS (o := 37) (zx_this (o := 37) dL_hear_25 rfl rfl (by decide) (by decide)) (zx_iadd (zx_bipush dL_hear_26 rfl ⟨by decide, by decide⟩) (zx_iload dL_hear_28 (by decide)) dL_hear_30) (zp_b (by decide) (List.mem_cons_of_mem _ h37)) rfl rfl dL_hear_31) rfl (za_cons (zx_ialdS (o := 37) (zx_this (o := 37) dL_hear_32 rfl rfl (by decide) (by decide)) (zx_iadd (zx_bipush dL_hear_33 rfl ⟨by decide, by decide⟩) (zx_iload dL_hear_35 (by decide)) dL_hear_37) (zp_b (by decide) (List.mem_cons_of_mem _ h37)) rfl rfl dL_hear_38) rfl (za_cons (zx_iload_n dL_hear_39 rfl (by decide)) rfl (za_cons (zx_iload_n dL_hear_40 rfl (by decide)) rfl (za_cons (zx_thisW (o := 42) dL_hear_41 rfl (by decide) (by decide)) rfl (za_nil)))))))) k_L_loud ⟨(znd_c (List.mem_cons_of_mem _ h37) (znd_c List.mem_cons_self znd_0)), znd_0, Or.inl rfl⟩ rfl (zGS zw_523 zw_524 zw_7 zw_525) rfl hyS_L_loud ⟨Nat.le_of_ble_eq_true rfl, Nat.le_of_ble_eq_true rfl⟩ dL_hear_43) (zs_seq (zs_lastS (o := 38) (zx_this (o := 38) dL_hear_46 rfl rfl (by decide) (by decide)) (zx_iload dL_hear_47 (by decide)) (zx_laldS (o := 42) (zx_thisW (o := 42) dL_hear_49 rfl (by decide) (by decide)) (zx_iconst dL_hear_51 rfl ⟨by decide, by decide⟩) (zp_b (by decide) List.mem_cons_self) rfl rfl dL_hear_52) (zp_b (by decide) (List.mem_cons_of_mem _ h38)) rfl rfl dL_hear_53) (zs_lastS (o := 38) (zx_this (o := 38) dL_hear_54 rfl rfl (by decide) (by decide)) (zx_iadd (zx_bipush dL_hear_55 rfl ⟨by decide, by decide⟩) (zx_iload dL_hear_57 (by decide)) dL_hear_59) (zx_laldS (o := 42) (zx_thisW (o := 42) dL_hear_60 rfl (by decide) (by decide)) (zx_iconst dL_hear_62 rfl ⟨by decide, by decide⟩) (zp_b (by decide) List.mem_cons_self) rfl rfl dL_hear_63) (zp_b (by decide) (List.mem_cons_of_mem _ h38)) rfl rfl dL_hear_64))) (zs_goto (zs_iinc (Γ2 := [(0, 47), (1, 0), (2, 0), (3, 48), (4, 52), (5, 0)]) dL_hear_65 (by decide) (Nat.le_of_ble_eq_true rfl) (by decide)) dL_hear_68 (by decide)))) (by decide) (by decide) zX0_ok) (by decide)) (zs_retv rfl dL_hear_71)
theorem k_L_hear_a : zCon yL_hear wz_L_hear [37, 38] [42] (none) 2 59 [47, 0, 0, 48] 9 (m_L_hear_a) := zMk (own := RL) (cc := cL_hear) (b := 0) (Γ2 := []) (X := zX0) (by decide +kernel) rfl rfl (by decide) (Or.inr (Or.inr (Or.inr ⟨rfl, rfl⟩))) ⟨List.range 37 ++ [37, 38], ⟨by decide +kernel, fun o h => List.mem_append_left _ (List.mem_range.mpr h)⟩, by decide +kernel, by decide +kernel⟩ (fun P cp ns hh => s_L_hear_a ns (hh.2.1 37 (by decide)) (hh.2.1 38 (by decide)) (hh.2.2 42 (by decide)) cp P)
theorem e_L_hear_a (x0 x1 x2 x3 : Int) (σ : zHp) : m_L_hear_a [x0, x1, x2, x3] σ = (d_L_hear_a [x0, x1, x2, x3, 0, 0] σ).bind fun q => if q.1 = 1 then some (zg q.2.1 0, q.2.2) else none := rfl
def lc_L_hear_b_1 : zC := cR r_lt (xL 5) (xE 37 60 (xC 41))
def lf_L_hear_b_1 : zS := sQ (sX (xK m_L_loud (aC (xC 37) (aC (xE 37 60 (xB o_iadd (xC 42) (xL 5))) (aC (xE 37 60 (xB o_iadd (xC 48) (xL 5))) (aC (xE 37 60 (xB o_iadd (xC 54) (xL 5))) (aC (xL 1) (aC (xL 2) (aC (xC 42) (aN)))))))))) (sQ (sE 41 16 (xL 5) (xE 42 2 (xC 0))) (sE 41 16 (xB o_iadd (xC 8) (xL 5)) (xE 42 2 (xC 1))))
def ls_L_hear_b_1 : zS := sS 5 (xB o_iadd (xL 5) (xC 1))
def d_L_hear_b : zS := sQ (sNw 42 4 (sD [5] (sQ (sS 5 (xC 0)) (sW lc_L_hear_b_1 lf_L_hear_b_1 ls_L_hear_b_1)))) sV
def m_L_hear_b : List Int → zHp → Option (Int × zHp) := zRun 6 [47, 0, 0, 51] d_L_hear_b
set_option maxRecDepth 100000 in
set_option maxHeartbeats 4000000 in
theorem s_L_hear_b (ns : List Nat) (h37 : 37 ∈ ns) (h41 : 41 ∈ ns) (a42 : 42 ∉ ns) (cp : Int) (P : Int → zHp → Prop) : zSt (RL, cL_hear, 6, wz_L_hear, 2, 59, none, 9, ns, ns, cp, P) [(0, 47), (1, 0), (2, 0), (3, 51)] 0 0 [] zX0 (d_L_hear_b) := zs_seq (zs_new (M := (RL, cL_hear, 6, wz_L_hear, 2, 59, none, 9, ns, ns, cp, P)) (Γ := [(0, 47), (1, 0), (2, 0), (3, 51)]) (a := 0) (a1 := 1) (a3 := 5) (k := 42) (N := 2) (slot := 4) (Γ1 := [(0, 47), (1, 0), (2, 0), (3, 51), (4, 52)]) (Γ2 := [(0, 47), (1, 0), (2, 0), (3, 51)]) (Γ3 := [(0, 47), (1, 0), (2, 0), (3, 51), (4, 52)]) (zx_iconst dL_hear_0 rfl ⟨by decide, by decide⟩) rfl (by decide) (by decide) rfl (by decide) (Or.inr ⟨rfl, rfl⟩) (List.mem_cons_of_mem _ zw_120) a42 a42 (by decide) dL_hear_1 (Nat.le_of_ble_eq_true rfl) (Or.inr ⟨dL_hear_3, rfl⟩) (by decide) (zs_blk (Γ2 := [(0, 47), (1, 0), (2, 0), (3, 51), (4, 52)]) (Γ3 := [(0, 47), (1, 0), (2, 0), (3, 51), (4, 52), (5, 0)]) (ks := [5]) (zs_seq (zs_istore (Γ2 := [(0, 47), (1, 0), (2, 0), (3, 51), (4, 52), (5, 0)]) (zx_iconst dL_hear_5 rfl ⟨by decide, by decide⟩) dL_hear_6 (Nat.le_of_ble_eq_true rfl) (by decide)) (zs_loop (Γ := [(0, 47), (1, 0), (2, 0), (3, 51), (4, 52), (5, 0)]) (zc_icmpN_lt (zx_iload dL_hear_8 (by decide)) (zx_ialdS (o := 37) (zx_this (o := 37) dL_hear_10 rfl rfl (by decide) (by decide)) (zx_bipush dL_hear_11 rfl ⟨by decide, by decide⟩) (zp_b (by decide) (List.mem_cons_of_mem _ h37)) rfl rfl dL_hear_13) dL_hear_14 (by decide)) (zs_seq (zs_callS (za_cons (zx_this (o := 37) dL_hear_17 rfl rfl (by decide) (by decide)) rfl (za_cons (zx_ialdS (o := 37) (zx_this (o := 37) dL_hear_18 rfl rfl (by decide) (by decide)) (zx_iadd (zx_bipush dL_hear_19 rfl ⟨by decide, by decide⟩) (zx_iload dL_hear_21 (by decide)) dL_hear_23) (zp_b (by decide) (List.mem_cons_of_mem _ h37)) rfl rfl dL_hear_24) rfl (za_cons (zx_ialdS (o := 37) (zx_this (o := 37) dL_hear_25 rfl rfl (by decide) (by decide)) (zx_iadd (zx_bipush dL_hear_26 rfl ⟨by decide, by decide⟩) (zx_iload dL_hear_28 (by decide)) dL_hear_30) (zp_b (by decide) (List.mem_cons_of_mem _ h37)) rfl rfl dL_hear_31) rfl (za_cons (zx_ialdS (o := 37) (zx_this (o := 37) dL_hear_32 rfl rfl (by decide) (by decide)) (zx_iadd (zx_bipush dL_hear_33 rfl ⟨by decide, by decide⟩) (zx_iload dL_hear_35 (by decide)) dL_hear_37) (zp_b (by decide) (List.mem_cons_of_mem _ h37)) rfl rfl dL_hear_38) rfl (za_cons (zx_iload_n dL_hear_39 rfl (by decide)) rfl (za_cons (zx_iload_n dL_hear_40 rfl (by decide)) rfl (za_cons (zx_thisW (o := 42) dL_hear_41 rfl (by decide) (by decide)) rfl (za_nil)))))))) k_L_loud ⟨(znd_c (List.mem_cons_of_mem _ h37) (znd_c List.mem_cons_self znd_0)), znd_0, Or.inl rfl⟩ rfl (zGS zw_523 zw_524 zw_7 zw_525) rfl hyS_L_loud ⟨Nat.le_of_ble_eq_true rfl, Nat.le_of_ble_eq_true rfl⟩ dL_hear_43) (zs_seq (zs_lastS (o := 41) (zx_this (o := 41) dL_hear_46 rfl rfl (by decide) (by decide)) (zx_iload dL_hear_47 (by decide)) (zx_laldS (o := 42) (zx_thisW (o := 42) dL_hear_49 rfl (by decide) (by decide)) (zx_iconst dL_hear_51 rfl ⟨by decide, by decide⟩) (zp_b (by decide) List.mem_cons_self) rfl rfl dL_hear_52) (zp_b (by decide) (List.mem_cons_of_mem _ h41)) rfl rfl dL_hear_53) (zs_lastS (o := 41) (zx_this (o := 41) dL_hear_54 rfl rfl (by decide) (by decide)) (zx_iadd (zx_bipush dL_hear_55 rfl ⟨by decide, by decide⟩) (zx_iload dL_hear_57 (by decide)) dL_hear_59) (zx_laldS (o := 42) (zx_thisW (o := 42) dL_hear_60 rfl (by decide) (by decide)) (zx_iconst dL_hear_62 rfl ⟨by decide, by decide⟩) (zp_b (by decide) List.mem_cons_self) rfl rfl dL_hear_63) (zp_b (by decide) (List.mem_cons_of_mem _ h41)) rfl rfl dL_hear_64))) (zs_goto (zs_iinc (Γ2 := [(0, 47), (1, 0), (2, 0), (3, 51), (4, 52), (5, 0)]) dL_hear_65 (by decide) (Nat.le_of_ble_eq_true rfl) (by decide)) dL_hear_68 (by decide)))) (by decide) (by decide) zX0_ok) (by decide)) (zs_retv rfl dL_hear_71)
theorem k_L_hear_b : zCon yL_hear wz_L_hear [37, 41] [42] (none) 2 59 [47, 0, 0, 51] 9 (m_L_hear_b) := zMk (own := RL) (cc := cL_hear) (b := 0) (Γ2 := []) (X := zX0) (by decide +kernel) rfl rfl (by decide) (Or.inr (Or.inr (Or.inr ⟨rfl, rfl⟩))) ⟨List.range 37 ++ [37, 41], ⟨by decide +kernel, fun o h => List.mem_append_left _ (List.mem_range.mpr h)⟩, by decide +kernel, by decide +kernel⟩ (fun P cp ns hh => s_L_hear_b ns (hh.2.1 37 (by decide)) (hh.2.1 41 (by decide)) (hh.2.2 42 (by decide)) cp P)
theorem e_L_hear_b (x0 x1 x2 x3 : Int) (σ : zHp) : m_L_hear_b [x0, x1, x2, x3] σ = (d_L_hear_b [x0, x1, x2, x3, 0, 0] σ).bind fun q => if q.1 = 1 then some (zg q.2.1 0, q.2.2) else none := rfl
abbrev wz_L_best : List Cond := Cond.code yL_best cL_best 6 (some .int) :: zG
def lc_L_best_a_1 : zC := cR r_lt (xL 5) (xE 37 60 (xC 41))
def lf_L_best_a_1 : zS := sS 4 (xZ (cA (cV rb (xL 4)) (cR r_le (xB o_lmul (xE 38 16 (xL 5)) (xE 38 16 (xB o_iadd (xC 8) (xL 3)))) (xB o_lmul (xE 38 16 (xL 3)) (xE 38 16 (xB o_iadd (xC 8) (xL 5)))))))
def ls_L_best_a_1 : zS := sS 5 (xB o_iadd (xL 5) (xC 1))
def lc_L_best_a_2 : zC := cR r_lt (xL 3) (xE 37 60 (xC 41))
def lf_L_best_a_2 : zS := sD [4] (sQ (sS 4 (xZ (cR r_ge (xB o_lmul (xC 10) (xE 38 16 (xL 3))) (xB o_lmul (xE 37 60 (xC 2)) (xE 38 16 (xB o_iadd (xC 8) (xL 3))))))) (sQ (sD [5] (sQ (sS 5 (xC 0)) (sW lc_L_best_a_1 lf_L_best_a_1 ls_L_best_a_1))) (sS 2 (xB zOr (xL 2) (xI (cV rb (xL 4)) (xB zShl (xC 1) (xL 3)) (xC 0))))))
def ls_L_best_a_2 : zS := sS 3 (xB o_iadd (xL 3) (xC 1))
def d_L_best_a : zS := sQ (sS 2 (xC 0)) (sQ (sD [3] (sQ (sS 3 (xC 0)) (sW lc_L_best_a_2 lf_L_best_a_2 ls_L_best_a_2))) (sR (xL 2)))
def m_L_best_a : List Int → zHp → Option (Int × zHp) := zRun 6 [47, 48] d_L_best_a
set_option maxRecDepth 100000 in
set_option maxHeartbeats 4000000 in
theorem s_L_best_a (ns : List Nat) (h37 : 37 ∈ ns) (h38 : 38 ∈ ns) (cp : Int) (P : Int → zHp → Prop) : zSt (RL, cL_best, 6, wz_L_best, 1, 25, none, 0, ns, ns, cp, P) [(0, 47), (1, 48)] 0 0 [] zX0 (d_L_best_a) := zs_seq (zs_istore_n (Γ2 := [(0, 47), (1, 48), (2, 0)]) (zx_iconst dL_best_0 rfl ⟨by decide, by decide⟩) dL_best_1 rfl (Nat.le_of_ble_eq_true rfl) (by decide)) (zs_seq (zs_blk (Γ2 := [(0, 47), (1, 48), (2, 0)]) (Γ3 := [(0, 47), (1, 48), (2, 0), (3, 0)]) (ks := [3]) (zs_seq (zs_istore_n (Γ2 := [(0, 47), (1, 48), (2, 0), (3, 0)]) (zx_iconst dL_best_2 rfl ⟨by decide, by decide⟩) dL_best_3 rfl (Nat.le_of_ble_eq_true rfl) (by decide)) (zs_loop (Γ := [(0, 47), (1, 48), (2, 0), (3, 0)]) (zc_icmpN_lt (zx_iload_n dL_best_4 rfl (by decide)) (zx_ialdS (o := 37) (zx_this (o := 37) dL_best_5 rfl rfl (by decide) (by decide)) (zx_bipush dL_best_6 rfl ⟨by decide, by decide⟩) (zp_b (by decide) h37) rfl rfl dL_best_8) dL_best_9 (by decide)) (zs_blk (Γ2 := [(0, 47), (1, 48), (2, 0), (3, 0)]) (Γ3 := [(0, 47), (1, 48), (2, 0), (3, 0), (4, 4)]) (ks := [4]) (zs_seq (zs_zstore (Γ2 := [(0, 47), (1, 48), (2, 0), (3, 0), (4, 4)]) (zx_z (zc_lcmpN_ge (zx_lmul (zx_ldc2 dL_best_12 (List.mem_cons_of_mem _ zw_527) rfl ⟨by decide, by decide⟩) (zx_laldS (o := 38) (zx_this (o := 38) dL_best_15 rfl rfl (by decide) (by decide)) (zx_iload_n dL_best_16 rfl (by decide)) (zp_b (by decide) h38) rfl rfl dL_best_17) dL_best_18) (zx_lmul (zx_i2l (zx_ialdS (o := 37) (zx_this (o := 37) dL_best_19 rfl rfl (by decide) (by decide)) (zx_iconst dL_best_20 rfl ⟨by decide, by decide⟩) (zp_b (by decide) h37) rfl rfl dL_best_21) dL_best_22) (zx_laldS (o := 38) (zx_this (o := 38) dL_best_23 rfl rfl (by decide) (by decide)) (zx_iadd (zx_bipush dL_best_24 rfl ⟨by decide, by decide⟩) (zx_iload_n dL_best_26 rfl (by decide)) dL_best_27) (zp_b (by decide) h38) rfl rfl dL_best_28) dL_best_29) dL_best_30 dL_best_31 (by decide)) dL_best_34 dL_best_35 (by decide) dL_best_38 rfl) dL_best_39 (Nat.le_of_ble_eq_true rfl) (by decide)) (zs_seq (zs_blk (Γ2 := [(0, 47), (1, 48), (2, 0), (3, 0), (4, 4)]) (Γ3 := [(0, 47), (1, 48), (2, 0), (3, 0), (4, 4), (5, 0)]) (ks := [5]) (zs_seq (zs_istore (Γ2 := [(0, 47), (1, 48), (2, 0), (3, 0), (4, 4), (5, 0)]) (zx_iconst dL_best_41 rfl ⟨by decide, by decide⟩) dL_best_42 (Nat.le_of_ble_eq_true rfl) (by decide)) (zs_loop (Γ := [(0, 47), (1, 48), (2, 0), (3, 0), (4, 4), (5, 0)]) (zc_icmpN_lt (zx_iload dL_best_44 (by decide)) (zx_ialdS (o := 37) (zx_this (o := 37) dL_best_46 rfl rfl (by decide) (by decide)) (zx_bipush dL_best_47 rfl ⟨by decide, by decide⟩) (zp_b (by decide) h37) rfl rfl dL_best_49) dL_best_50 (by decide)) (zs_zstore (Γ2 := [(0, 47), (1, 48), (2, 0), (3, 0), (4, 4), (5, 0)]) (zx_z (zc_and (zc_bN (zx_sub (zx_zload dL_best_53 (by decide))) dL_best_55 (by decide)) (zc_lcmpN_le (zx_lmul (zx_laldS (o := 38) (zx_this (o := 38) dL_best_58 rfl rfl (by decide) (by decide)) (zx_iload dL_best_59 (by decide)) (zp_b (by decide) h38) rfl rfl dL_best_61) (zx_laldS (o := 38) (zx_this (o := 38) dL_best_62 rfl rfl (by decide) (by decide)) (zx_iadd (zx_bipush dL_best_63 rfl ⟨by decide, by decide⟩) (zx_iload_n dL_best_65 rfl (by decide)) dL_best_66) (zp_b (by decide) h38) rfl rfl dL_best_67) dL_best_68) (zx_lmul (zx_laldS (o := 38) (zx_this (o := 38) dL_best_69 rfl rfl (by decide) (by decide)) (zx_iload_n dL_best_70 rfl (by decide)) (zp_b (by decide) h38) rfl rfl dL_best_71) (zx_laldS (o := 38) (zx_this (o := 38) dL_best_72 rfl rfl (by decide) (by decide)) (zx_iadd (zx_bipush dL_best_73 rfl ⟨by decide, by decide⟩) (zx_iload dL_best_75 (by decide)) dL_best_77) (zp_b (by decide) h38) rfl rfl dL_best_78) dL_best_79) dL_best_80 dL_best_81 (by decide))) dL_best_84 dL_best_85 (by decide) dL_best_88 rfl) dL_best_89 (Nat.le_of_ble_eq_true rfl) (by decide)) (zs_goto (zs_iinc (Γ2 := [(0, 47), (1, 48), (2, 0), (3, 0), (4, 4), (5, 0)]) dL_best_91 (by decide) (Nat.le_of_ble_eq_true rfl) (by decide)) dL_best_94 (by decide)))) (by decide) (by decide) (zY_ok (by decide))) (zs_istore_n (Γ2 := [(0, 47), (1, 48), (2, 0), (3, 0), (4, 4)]) (zx_ior (zx_iload_n dL_best_97 rfl (by decide)) (zx_ite (zc_bN (zx_sub (zx_zload dL_best_98 (by decide))) dL_best_100 (by decide)) (zx_ishl (zx_iconst dL_best_103 rfl ⟨by decide, by decide⟩) (zx_iload_n dL_best_104 rfl (by decide)) dL_best_105) dL_best_106 (by decide) (zx_iconst dL_best_109 rfl ⟨by decide, by decide⟩)) dL_best_110) dL_best_111 rfl (Nat.le_of_ble_eq_true rfl) (by decide)))) (by decide) (by decide) (zY_ok (by decide))) (zs_goto (zs_iinc (Γ2 := [(0, 47), (1, 48), (2, 0), (3, 0)]) dL_best_112 (by decide) (Nat.le_of_ble_eq_true rfl) (by decide)) dL_best_115 (by decide)))) (by decide) (by decide) zX0_ok) (zs_ret (zx_iload_n dL_best_118 rfl (by decide)) rfl (by decide) dL_best_119))
theorem k_L_best_a : zCon yL_best wz_L_best [37, 38] [] (none) 1 25 [47, 48] 0 (m_L_best_a) := zMk (own := RL) (cc := cL_best) (b := 0) (Γ2 := []) (X := zX0) (by decide +kernel) rfl rfl (by decide) (Or.inl ⟨rfl, rfl⟩) ⟨List.range 37 ++ [37, 38], ⟨by decide +kernel, fun o h => List.mem_append_left _ (List.mem_range.mpr h)⟩, by decide +kernel, by decide +kernel⟩ (fun P cp ns hh => s_L_best_a ns (hh.2.1 37 (by decide)) (hh.2.1 38 (by decide)) cp P)
theorem e_L_best_a (x0 x1 : Int) (σ : zHp) : m_L_best_a [x0, x1] σ = (d_L_best_a [x0, x1, 0, 0, 0, 0] σ).bind fun q => if q.1 = 1 then some (zg q.2.1 0, q.2.2) else none := rfl
def lc_L_best_b_1 : zC := cR r_lt (xL 5) (xE 37 60 (xC 41))
def lf_L_best_b_1 : zS := sS 4 (xZ (cA (cV rb (xL 4)) (cR r_le (xB o_lmul (xE 41 16 (xL 5)) (xE 41 16 (xB o_iadd (xC 8) (xL 3)))) (xB o_lmul (xE 41 16 (xL 3)) (xE 41 16 (xB o_iadd (xC 8) (xL 5)))))))
def ls_L_best_b_1 : zS := sS 5 (xB o_iadd (xL 5) (xC 1))
def lc_L_best_b_2 : zC := cR r_lt (xL 3) (xE 37 60 (xC 41))
def lf_L_best_b_2 : zS := sD [4] (sQ (sS 4 (xZ (cR r_ge (xB o_lmul (xC 10) (xE 41 16 (xL 3))) (xB o_lmul (xE 37 60 (xC 2)) (xE 41 16 (xB o_iadd (xC 8) (xL 3))))))) (sQ (sD [5] (sQ (sS 5 (xC 0)) (sW lc_L_best_b_1 lf_L_best_b_1 ls_L_best_b_1))) (sS 2 (xB zOr (xL 2) (xI (cV rb (xL 4)) (xB zShl (xC 1) (xL 3)) (xC 0))))))
def ls_L_best_b_2 : zS := sS 3 (xB o_iadd (xL 3) (xC 1))
def d_L_best_b : zS := sQ (sS 2 (xC 0)) (sQ (sD [3] (sQ (sS 3 (xC 0)) (sW lc_L_best_b_2 lf_L_best_b_2 ls_L_best_b_2))) (sR (xL 2)))
def m_L_best_b : List Int → zHp → Option (Int × zHp) := zRun 6 [47, 51] d_L_best_b
set_option maxRecDepth 100000 in
set_option maxHeartbeats 4000000 in
theorem s_L_best_b (ns : List Nat) (h37 : 37 ∈ ns) (h41 : 41 ∈ ns) (cp : Int) (P : Int → zHp → Prop) : zSt (RL, cL_best, 6, wz_L_best, 1, 25, none, 0, ns, ns, cp, P) [(0, 47), (1, 51)] 0 0 [] zX0 (d_L_best_b) := zs_seq (zs_istore_n (Γ2 := [(0, 47), (1, 51), (2, 0)]) (zx_iconst dL_best_0 rfl ⟨by decide, by decide⟩) dL_best_1 rfl (Nat.le_of_ble_eq_true rfl) (by decide)) (zs_seq (zs_blk (Γ2 := [(0, 47), (1, 51), (2, 0)]) (Γ3 := [(0, 47), (1, 51), (2, 0), (3, 0)]) (ks := [3]) (zs_seq (zs_istore_n (Γ2 := [(0, 47), (1, 51), (2, 0), (3, 0)]) (zx_iconst dL_best_2 rfl ⟨by decide, by decide⟩) dL_best_3 rfl (Nat.le_of_ble_eq_true rfl) (by decide)) (zs_loop (Γ := [(0, 47), (1, 51), (2, 0), (3, 0)]) (zc_icmpN_lt (zx_iload_n dL_best_4 rfl (by decide)) (zx_ialdS (o := 37) (zx_this (o := 37) dL_best_5 rfl rfl (by decide) (by decide)) (zx_bipush dL_best_6 rfl ⟨by decide, by decide⟩) (zp_b (by decide) h37) rfl rfl dL_best_8) dL_best_9 (by decide)) (zs_blk (Γ2 := [(0, 47), (1, 51), (2, 0), (3, 0)]) (Γ3 := [(0, 47), (1, 51), (2, 0), (3, 0), (4, 4)]) (ks := [4]) (zs_seq (zs_zstore (Γ2 := [(0, 47), (1, 51), (2, 0), (3, 0), (4, 4)]) (zx_z (zc_lcmpN_ge (zx_lmul (zx_ldc2 dL_best_12 (List.mem_cons_of_mem _ zw_527) rfl ⟨by decide, by decide⟩) (zx_laldS (o := 41) (zx_this (o := 41) dL_best_15 rfl rfl (by decide) (by decide)) (zx_iload_n dL_best_16 rfl (by decide)) (zp_b (by decide) h41) rfl rfl dL_best_17) dL_best_18) (zx_lmul (zx_i2l (zx_ialdS (o := 37) (zx_this (o := 37) dL_best_19 rfl rfl (by decide) (by decide)) (zx_iconst dL_best_20 rfl ⟨by decide, by decide⟩) (zp_b (by decide) h37) rfl rfl dL_best_21) dL_best_22) (zx_laldS (o := 41) (zx_this (o := 41) dL_best_23 rfl rfl (by decide) (by decide)) (zx_iadd (zx_bipush dL_best_24 rfl ⟨by decide, by decide⟩) (zx_iload_n dL_best_26 rfl (by decide)) dL_best_27) (zp_b (by decide) h41) rfl rfl dL_best_28) dL_best_29) dL_best_30 dL_best_31 (by decide)) dL_best_34 dL_best_35 (by decide) dL_best_38 rfl) dL_best_39 (Nat.le_of_ble_eq_true rfl) (by decide)) (zs_seq (zs_blk (Γ2 := [(0, 47), (1, 51), (2, 0), (3, 0), (4, 4)]) (Γ3 := [(0, 47), (1, 51), (2, 0), (3, 0), (4, 4), (5, 0)]) (ks := [5]) (zs_seq (zs_istore (Γ2 := [(0, 47), (1, 51), (2, 0), (3, 0), (4, 4), (5, 0)]) (zx_iconst dL_best_41 rfl ⟨by decide, by decide⟩) dL_best_42 (Nat.le_of_ble_eq_true rfl) (by decide)) (zs_loop (Γ := [(0, 47), (1, 51), (2, 0), (3, 0), (4, 4), (5, 0)]) (zc_icmpN_lt (zx_iload dL_best_44 (by decide)) (zx_ialdS (o := 37) (zx_this (o := 37) dL_best_46 rfl rfl (by decide) (by decide)) (zx_bipush dL_best_47 rfl ⟨by decide, by decide⟩) (zp_b (by decide) h37) rfl rfl dL_best_49) dL_best_50 (by decide)) (zs_zstore (Γ2 := [(0, 47), (1, 51), (2, 0), (3, 0), (4, 4), (5, 0)]) (zx_z (zc_and (zc_bN (zx_sub (zx_zload dL_best_53 (by decide))) dL_best_55 (by decide)) (zc_lcmpN_le (zx_lmul (zx_laldS (o := 41) (zx_this (o := 41) dL_best_58 rfl rfl (by decide) (by decide)) (zx_iload dL_best_59 (by decide)) (zp_b (by decide) h41) rfl rfl dL_best_61) (zx_laldS (o := 41) (zx_this (o := 41) dL_best_62 rfl rfl (by decide) (by decide)) (zx_iadd (zx_bipush dL_best_63 rfl ⟨by decide, by decide⟩) (zx_iload_n dL_best_65 rfl (by decide)) dL_best_66) (zp_b (by decide) h41) rfl rfl dL_best_67) dL_best_68) (zx_lmul (zx_laldS (o := 41) (zx_this (o := 41) dL_best_69 rfl rfl (by decide) (by decide)) (zx_iload_n dL_best_70 rfl (by decide)) (zp_b (by decide) h41) rfl rfl dL_best_71) (zx_laldS (o := 41) (zx_this (o := 41) dL_best_72 rfl rfl (by decide) (by decide)) (zx_iadd (zx_bipush dL_best_73 rfl ⟨by decide, by decide⟩) (zx_iload dL_best_75 (by decide)) dL_best_77) (zp_b (by decide) h41) rfl rfl dL_best_78) dL_best_79) dL_best_80 dL_best_81 (by decide))) dL_best_84 dL_best_85 (by decide) dL_best_88 rfl) dL_best_89 (Nat.le_of_ble_eq_true rfl) (by decide)) (zs_goto (zs_iinc (Γ2 := [(0, 47), (1, 51), (2, 0), (3, 0), (4, 4), (5, 0)]) dL_best_91 (by decide) (Nat.le_of_ble_eq_true rfl) (by decide)) dL_best_94 (by decide)))) (by decide) (by decide) (zY_ok (by decide))) (zs_istore_n (Γ2 := [(0, 47), (1, 51), (2, 0), (3, 0), (4, 4)]) (zx_ior (zx_iload_n dL_best_97 rfl (by decide)) (zx_ite (zc_bN (zx_sub (zx_zload dL_best_98 (by decide))) dL_best_100 (by decide)) (zx_ishl (zx_iconst dL_best_103 rfl ⟨by decide, by decide⟩) (zx_iload_n dL_best_104 rfl (by decide)) dL_best_105) dL_best_106 (by decide) (zx_iconst dL_best_109 rfl ⟨by decide, by decide⟩)) dL_best_110) dL_best_111 rfl (Nat.le_of_ble_eq_true rfl) (by decide)))) (by decide) (by decide) (zY_ok (by decide))) (zs_goto (zs_iinc (Γ2 := [(0, 47), (1, 51), (2, 0), (3, 0)]) dL_best_112 (by decide) (Nat.le_of_ble_eq_true rfl) (by decide)) dL_best_115 (by decide)))) (by decide) (by decide) zX0_ok) (zs_ret (zx_iload_n dL_best_118 rfl (by decide)) rfl (by decide) dL_best_119))
theorem k_L_best_b : zCon yL_best wz_L_best [37, 41] [] (none) 1 25 [47, 51] 0 (m_L_best_b) := zMk (own := RL) (cc := cL_best) (b := 0) (Γ2 := []) (X := zX0) (by decide +kernel) rfl rfl (by decide) (Or.inl ⟨rfl, rfl⟩) ⟨List.range 37 ++ [37, 41], ⟨by decide +kernel, fun o h => List.mem_append_left _ (List.mem_range.mpr h)⟩, by decide +kernel, by decide +kernel⟩ (fun P cp ns hh => s_L_best_b ns (hh.2.1 37 (by decide)) (hh.2.1 41 (by decide)) cp P)
theorem e_L_best_b (x0 x1 : Int) (σ : zHp) : m_L_best_b [x0, x1] σ = (d_L_best_b [x0, x1, 0, 0, 0, 0] σ).bind fun q => if q.1 = 1 then some (zg q.2.1 0, q.2.2) else none := rfl
abbrev wz_L_whose : List Cond := Cond.code yL_whose cL_whose 6 (some .int) :: zG
def lc_L_whose_1 : zC := cR r_lt (xL 5) (xE 37 60 (xC 41))
def lf_L_whose_1 : zS := sI (cR r_eq (xL 4) (xB zShl (xC 1) (xL 5))) (sR (xL 5)) sK
def ls_L_whose_1 : zS := sS 5 (xB o_iadd (xL 5) (xC 1))
def d_L_whose : zS := sNw 41 3 (sQ (sX (xK m_L_hear_b (aC (xC 37) (aC (xL 1) (aC (xL 2) (aC (xC 41) (aN))))))) (sQ (sS 4 (xK m_L_best_b (aC (xC 37) (aC (xC 41) (aN))))) (sQ (sI (cV (fun x => r_eq x 0) (xL 4)) (sR (xC (-6))) sK) (sQ (sD [5] (sQ (sS 5 (xC 0)) (sW lc_L_whose_1 lf_L_whose_1 ls_L_whose_1))) (sR (xC (-5)))))))
def m_L_whose : List Int → zHp → Option (Int × zHp) := zRun 6 [47, 0, 0] d_L_whose
set_option maxRecDepth 100000 in
set_option maxHeartbeats 4000000 in
theorem s_L_whose (ns : List Nat) (h37 : 37 ∈ ns) (a41 : 41 ∉ ns) (a42 : 42 ∉ ns) (cp : Int) (P : Int → zHp → Prop) : zSt (RL, cL_whose, 6, wz_L_whose, 3, 84, none, 0, ns, ns, cp, P) [(0, 47), (1, 0), (2, 0)] 0 0 [] zX0 (d_L_whose) := zs_new (M := (RL, cL_whose, 6, wz_L_whose, 3, 84, none, 0, ns, ns, cp, P)) (Γ := [(0, 47), (1, 0), (2, 0)]) (a := 0) (a1 := 2) (a3 := 5) (k := 41) (N := 16) (slot := 3) (Γ1 := [(0, 47), (1, 0), (2, 0), (3, 51)]) (Γ2 := []) (Γ3 := []) (zx_bipush dL_whose_0 rfl ⟨by decide, by decide⟩) rfl (by decide) (by decide) rfl (by decide) (Or.inr ⟨rfl, rfl⟩) (List.mem_cons_of_mem _ zw_120) a41 a41 (by decide) dL_whose_2 (Nat.le_of_ble_eq_true rfl) (Or.inl ⟨_, dL_whose_4, rfl, rfl⟩) (by decide) (zs_seq (zs_callS (za_cons (zx_this (o := 37) dL_whose_5 rfl rfl (by decide) (by decide)) rfl (za_cons (zx_iload_n dL_whose_6 rfl (by decide)) rfl (za_cons (zx_iload_n dL_whose_7 rfl (by decide)) rfl (za_cons (zx_this (o := 41) dL_whose_8 rfl rfl (by decide) (by decide)) rfl (za_nil))))) k_L_hear_b ⟨(znd_c (List.mem_cons_of_mem _ h37) (znd_c List.mem_cons_self znd_0)), (znd_c (znm_c (by decide) a42) znd_0), Or.inl rfl⟩ rfl (zGS zw_520 zw_521 zw_7 zw_522) rfl hyS_L_hear ⟨Nat.le_of_ble_eq_true rfl, Nat.le_of_ble_eq_true rfl⟩ dL_whose_9) (zs_seq (zs_istore (Γ2 := [(0, 47), (1, 0), (2, 0), (3, 51), (4, 0)]) (zx_callS (za_cons (zx_this (o := 37) dL_whose_12 rfl rfl (by decide) (by decide)) rfl (za_cons (zx_this (o := 41) dL_whose_13 rfl rfl (by decide) (by decide)) rfl (za_nil))) k_L_best_b ⟨(znd_c (List.mem_cons_of_mem _ h37) (znd_c List.mem_cons_self znd_0)), znd_0, Or.inl rfl⟩ (by decide) rfl (zGS zw_528 zw_529 zw_7 zw_530) rfl hyS_L_best ⟨Nat.le_of_ble_eq_true rfl, Nat.le_of_ble_eq_true rfl⟩ (by decide) dL_whose_14) dL_whose_17 (Nat.le_of_ble_eq_true rfl) (by decide)) (zs_seq (zs_if (zc_ifN_eq (zx_iload dL_whose_19 (by decide)) dL_whose_21 (by decide)) (zs_ret (zx_bipush dL_whose_24 rfl ⟨by decide, by decide⟩) rfl (by decide) dL_whose_26) zs_skip) (zs_seq (zs_blk (Γ2 := [(0, 47), (1, 0), (2, 0), (3, 51), (4, 0)]) (Γ3 := [(0, 47), (1, 0), (2, 0), (3, 51), (4, 0), (5, 0)]) (ks := [5]) (zs_seq (zs_istore (Γ2 := [(0, 47), (1, 0), (2, 0), (3, 51), (4, 0), (5, 0)]) (zx_iconst dL_whose_27 rfl ⟨by decide, by decide⟩) dL_whose_28 (Nat.le_of_ble_eq_true rfl) (by decide)) (zs_loop (Γ := [(0, 47), (1, 0), (2, 0), (3, 51), (4, 0), (5, 0)]) (zc_icmpN_lt (zx_iload dL_whose_30 (by decide)) (zx_ialdS (o := 37) (zx_this (o := 37) dL_whose_32 rfl rfl (by decide) (by decide)) (zx_bipush dL_whose_33 rfl ⟨by decide, by decide⟩) (zp_b (by decide) (List.mem_cons_of_mem _ h37)) rfl rfl dL_whose_35) dL_whose_36 (by decide)) (zs_if (zc_icmpN_eq (zx_iload dL_whose_39 (by decide)) (zx_ishl (zx_iconst dL_whose_41 rfl ⟨by decide, by decide⟩) (zx_iload dL_whose_42 (by decide)) dL_whose_44) dL_whose_45 (by decide)) (zs_ret (zx_iload dL_whose_48 (by decide)) rfl (by decide) dL_whose_50) zs_skip) (zs_goto (zs_iinc (Γ2 := [(0, 47), (1, 0), (2, 0), (3, 51), (4, 0), (5, 0)]) dL_whose_51 (by decide) (Nat.le_of_ble_eq_true rfl) (by decide)) dL_whose_54 (by decide)))) (by decide) (by decide) zX0_ok) (zs_ret (zx_bipush dL_whose_57 rfl ⟨by decide, by decide⟩) rfl (by decide) dL_whose_59))))) (by decide)
theorem k_L_whose : zCon yL_whose wz_L_whose [37] [41, 42] (none) 3 84 [47, 0, 0] 0 (m_L_whose) := zMk (own := RL) (cc := cL_whose) (b := 0) (Γ2 := []) (X := zX0) (by decide +kernel) rfl rfl (by decide) (Or.inl ⟨rfl, rfl⟩) ⟨List.range 37 ++ [37], ⟨by decide +kernel, fun o h => List.mem_append_left _ (List.mem_range.mpr h)⟩, by decide +kernel, by decide +kernel⟩ (fun P cp ns hh => s_L_whose ns (hh.2.1 37 (by decide)) (hh.2.2 41 (by decide)) (hh.2.2 42 (by decide)) cp P)
theorem e_L_whose (x0 x1 x2 : Int) (σ : zHp) : m_L_whose [x0, x1, x2] σ = (d_L_whose [x0, x1, x2, 0, 0, 0] σ).bind fun q => if q.1 = 1 then some (zg q.2.1 0, q.2.2) else none := rfl
abbrev wz_L_isAlike : List Cond := Cond.code yL_isAlike cL_isAlike 14 (some .boolean) :: zG
def lc_L_isAlike_1 : zC := cR r_ne (xL 10) (xC 0)
def lf_L_isAlike_1 : zS := sD [12] (sQ (sS 12 (xD zmod (xL 8) (xL 10))) (sQ (sS 8 (xL 10)) (sS 10 (xL 12))))
def ls_L_isAlike_1 : zS := sK
def d_L_isAlike : zS := sQ (sS 8 (xL 0)) (sQ (sS 10 (xL 2)) (sQ (sW lc_L_isAlike_1 lf_L_isAlike_1 ls_L_isAlike_1) (sR (xZ (cA (cA (cR r_gt (xL 8) (xC 0)) (cR r_eq (xL 4) (xD zldiv (xL 0) (xL 8)))) (cR r_eq (xL 6) (xD zldiv (xL 2) (xL 8))))))))
def m_L_isAlike : List Int → zHp → Option (Int × zHp) := zRun 14 [1, 1, 1, 1] d_L_isAlike
set_option maxRecDepth 100000 in
set_option maxHeartbeats 4000000 in
theorem s_L_isAlike (ns : List Nat) (cp : Int) (P : Int → zHp → Prop) : zSt (RL, cL_isAlike, 14, wz_L_isAlike, 1, 25, none, 4, ns, ns, cp, P) [(0, 1), (2, 1), (4, 1), (6, 1)] 0 0 [] zX0 (d_L_isAlike) := zs_seq (zs_lstore (Γ2 := [(0, 1), (2, 1), (4, 1), (6, 1), (8, 1)]) (zx_lload_n dL_isAlike_0 rfl (by decide)) dL_isAlike_1 (Nat.le_of_ble_eq_true rfl) (by decide)) (zs_seq (zs_lstore (Γ2 := [(0, 1), (2, 1), (4, 1), (6, 1), (8, 1), (10, 1)]) (zx_lload_n dL_isAlike_3 rfl (by decide)) dL_isAlike_4 (Nat.le_of_ble_eq_true rfl) (by decide)) (zs_seq (zs_loop (Γ := [(0, 1), (2, 1), (4, 1), (6, 1), (8, 1), (10, 1)]) (zc_lcmpN_ne (zx_lload dL_isAlike_6 (by decide)) (zx_lconst dL_isAlike_8 rfl ⟨by decide, by decide⟩) dL_isAlike_9 dL_isAlike_10 (by decide)) (zs_blk (Γ2 := [(0, 1), (2, 1), (4, 1), (6, 1), (8, 1), (10, 1)]) (Γ3 := [(0, 1), (2, 1), (4, 1), (6, 1), (8, 1), (10, 1), (12, 1)]) (ks := [12]) (zs_seq (zs_lstore (Γ2 := [(0, 1), (2, 1), (4, 1), (6, 1), (8, 1), (10, 1), (12, 1)]) (zx_lrem (zx_lload dL_isAlike_13 (by decide)) (zx_lload dL_isAlike_15 (by decide)) dL_isAlike_17) dL_isAlike_18 (Nat.le_of_ble_eq_true rfl) (by decide)) (zs_seq (zs_lstore (Γ2 := [(0, 1), (2, 1), (4, 1), (6, 1), (8, 1), (10, 1), (12, 1)]) (zx_lload dL_isAlike_20 (by decide)) dL_isAlike_22 (Nat.le_of_ble_eq_true rfl) (by decide)) (zs_lstore (Γ2 := [(0, 1), (2, 1), (4, 1), (6, 1), (8, 1), (10, 1), (12, 1)]) (zx_lload dL_isAlike_24 (by decide)) dL_isAlike_26 (Nat.le_of_ble_eq_true rfl) (by decide)))) (by decide) (by decide) (zY_ok (by decide))) (zs_goto zs_skip dL_isAlike_28 (by decide))) (zs_ret (zx_z (zc_and (zc_and (zc_lcmpN_gt (zx_lload dL_isAlike_31 (by decide)) (zx_lconst dL_isAlike_33 rfl ⟨by decide, by decide⟩) dL_isAlike_34 dL_isAlike_35 (by decide)) (zc_lcmpN_eq (zx_lload dL_isAlike_38 (by decide)) (zx_ldiv (zx_lload_n dL_isAlike_40 rfl (by decide)) (zx_lload dL_isAlike_41 (by decide)) dL_isAlike_43) dL_isAlike_44 dL_isAlike_45 (by decide))) (zc_lcmpN_eq (zx_lload dL_isAlike_48 (by decide)) (zx_ldiv (zx_lload_n dL_isAlike_50 rfl (by decide)) (zx_lload dL_isAlike_51 (by decide)) dL_isAlike_53) dL_isAlike_54 dL_isAlike_55 (by decide))) dL_isAlike_58 dL_isAlike_59 (by decide) dL_isAlike_62 rfl) rfl (by decide) dL_isAlike_63)))
theorem k_L_isAlike : zCon yL_isAlike wz_L_isAlike [] [] (none) 1 25 [1, 1, 1, 1] 4 (m_L_isAlike) := zMk (own := RL) (cc := cL_isAlike) (b := 0) (Γ2 := []) (X := zX0) (by decide +kernel) rfl rfl (by decide) (Or.inr (Or.inr (Or.inl ⟨rfl, rfl⟩))) zex_0 (fun P cp ns hh => s_L_isAlike ns cp P)
theorem e_L_isAlike (x0 x1 x2 x3 : Int) (σ : zHp) : m_L_isAlike [x0, x1, x2, x3] σ = (d_L_isAlike [x0, 0, x1, 0, x2, 0, x3, 0, 0, 0, 0, 0, 0, 0] σ).bind fun q => if q.1 = 1 then some (zg q.2.1 0, q.2.2) else none := rfl
end
section
theorem hyS_L_come : yL_come.cls ≠ "java/lang/invoke/MethodHandle" ∧ yL_come.cls ≠ "java/lang/invoke/VarHandle" ∧ (parseMethodDescriptor yL_come.desc).map (fun d => d.parameters.length) = some 5 := by decide +kernel
theorem hyS_L_isAlike : yL_isAlike.cls ≠ "java/lang/invoke/MethodHandle" ∧ yL_isAlike.cls ≠ "java/lang/invoke/VarHandle" ∧ (parseMethodDescriptor yL_isAlike.desc).map (fun d => d.parameters.length) = some 4 := by decide +kernel
theorem hyS_L_put : yL_put.cls ≠ "java/lang/invoke/MethodHandle" ∧ yL_put.cls ≠ "java/lang/invoke/VarHandle" ∧ (parseMethodDescriptor yL_put.desc).map (fun d => d.parameters.length) = some 4 := by decide +kernel
theorem hyS_L_whose : yL_whose.cls ≠ "java/lang/invoke/MethodHandle" ∧ yL_whose.cls ≠ "java/lang/invoke/VarHandle" ∧ (parseMethodDescriptor yL_whose.desc).map (fun d => d.parameters.length) = some 3 := by decide +kernel
theorem hyV_X8_cheapest : yX8_cheapest.cls = RX8 ∧ yX8_cheapest.cls ≠ "java/lang/invoke/MethodHandle" ∧ yX8_cheapest.cls ≠ "java/lang/invoke/VarHandle" ∧ (parseMethodDescriptor yX8_cheapest.desc).map (fun d => d.parameters.length) = some 3 := by decide +kernel
theorem hyV_X8_fault : yX8_fault.cls = RX8 ∧ yX8_fault.cls ≠ "java/lang/invoke/MethodHandle" ∧ yX8_fault.cls ≠ "java/lang/invoke/VarHandle" ∧ (parseMethodDescriptor yX8_fault.desc).map (fun d => d.parameters.length) = some 0 := by decide +kernel
theorem hyV_X8_land : yX8_land.cls = RX8 ∧ yX8_land.cls ≠ "java/lang/invoke/MethodHandle" ∧ yX8_land.cls ≠ "java/lang/invoke/VarHandle" ∧ (parseMethodDescriptor yX8_land.desc).map (fun d => d.parameters.length) = some 4 := by decide +kernel
theorem hyV_X8_loud : yX8_loud.cls = RX8 ∧ yX8_loud.cls ≠ "java/lang/invoke/MethodHandle" ∧ yX8_loud.cls ≠ "java/lang/invoke/VarHandle" ∧ (parseMethodDescriptor yX8_loud.desc).map (fun d => d.parameters.length) = some 4 := by decide +kernel
theorem hyV_X8_ofBell : yX8_ofBell.cls = RX8 ∧ yX8_ofBell.cls ≠ "java/lang/invoke/MethodHandle" ∧ yX8_ofBell.cls ≠ "java/lang/invoke/VarHandle" ∧ (parseMethodDescriptor yX8_ofBell.desc).map (fun d => d.parameters.length) = some 2 := by decide +kernel
theorem hyV_X8_reach : yX8_reach.cls = RX8 ∧ yX8_reach.cls ≠ "java/lang/invoke/MethodHandle" ∧ yX8_reach.cls ≠ "java/lang/invoke/VarHandle" ∧ (parseMethodDescriptor yX8_reach.desc).map (fun d => d.parameters.length) = some 2 := by decide +kernel
theorem hyV_X8_tithes : yX8_tithes.cls = RX8 ∧ yX8_tithes.cls ≠ "java/lang/invoke/MethodHandle" ∧ yX8_tithes.cls ≠ "java/lang/invoke/VarHandle" ∧ (parseMethodDescriptor yX8_tithes.desc).map (fun d => d.parameters.length) = some 6 := by decide +kernel
theorem hyV_X8_whose : yX8_whose.cls = RX8 ∧ yX8_whose.cls ≠ "java/lang/invoke/MethodHandle" ∧ yX8_whose.cls ≠ "java/lang/invoke/VarHandle" ∧ (parseMethodDescriptor yX8_whose.desc).map (fun d => d.parameters.length) = some 2 := by decide +kernel
theorem hyV_X8_wins : yX8_wins.cls = RX8 ∧ yX8_wins.cls ≠ "java/lang/invoke/MethodHandle" ∧ yX8_wins.cls ≠ "java/lang/invoke/VarHandle" ∧ (parseMethodDescriptor yX8_wins.desc).map (fun d => d.parameters.length) = some 3 := by decide +kernel
abbrev wz_L : List Cond := Cond.initialized RX8 :: zG
def lc_L_law_1 (L : Nat) (xs : Nat → Int32) : zC := cR r_lt (xL 12) (xL 5)
def lf_L_law_1 (L : Nat) (xs : Nat → Int32) : zS := sQ (sI (cN (cV rb (xK m_L_isAlike (aC (xE 38 16 (xL 12)) (aC (xE 38 16 (xB o_iadd (xC 8) (xL 12))) (aC (xK m_X8_loud (aC (xC 0) (aC (xL 12) (aC (xL 10) (aC (xL 8) (aC (xC 0) (aN))))))) (aC (xK m_X8_loud (aC (xC 0) (aC (xL 12) (aC (xL 10) (aC (xL 8) (aC (xC 1) (aN))))))) (aN)))))))) (sR (xC 0)) sK) (sEo zOr 39 6 (xL 12) (xI (cR r_eq (xB zAnd (xB zShr (xL 11) (xL 12)) (xC 1)) (xC 1)) (xB zShl (xC 1) (xL 10)) (xC 0)))
def ls_L_law_1 (L : Nat) (xs : Nat → Int32) : zS := sS 12 (xB o_iadd (xL 12) (xC 1))
def lc_L_law_2 (L : Nat) (xs : Nat → Int32) : zC := cR r_lt (xL 10) (xL 4)
def lf_L_law_2 (L : Nat) (xs : Nat → Int32) : zS := sD [11] (sQ (sX (xK m_L_hear_a (aC (xC 37) (aC (xL 10) (aC (xL 8) (aC (xC 38) (aN))))))) (sQ (sS 11 (xK m_L_best_a (aC (xC 37) (aC (xC 38) (aN))))) (sQ (sD [12] (sQ (sS 12 (xC 0)) (sW (lc_L_law_1 L xs) (lf_L_law_1 L xs) (ls_L_law_1 L xs)))) (sI (cR r_ne (xK m_X8_whose (aC (xC 0) (aC (xL 10) (aC (xL 8) (aN))))) (xK m_L_whose (aC (xC 37) (aC (xL 10) (aC (xL 8) (aN)))))) (sR (xC 0)) sK))))
def ls_L_law_2 (L : Nat) (xs : Nat → Int32) : zS := sS 10 (xB o_iadd (xL 10) (xC 1))
def lc_L_law_3 (L : Nat) (xs : Nat → Int32) : zC := cR r_lt (xL 10) (xL 5)
def lf_L_law_3 (L : Nat) (xs : Nat → Int32) : zS := sI (cR r_ne (xK m_X8_reach (aC (xC 0) (aC (xL 10) (aC (xL 8) (aN))))) (xE 39 6 (xL 10))) (sR (xC 0)) sK
def ls_L_law_3 (L : Nat) (xs : Nat → Int32) : zS := sS 10 (xB o_iadd (xL 10) (xC 1))
def lc_L_law_4 (L : Nat) (xs : Nat → Int32) : zC := cV (fun x => r_gt x 0) (xL 16)
def lf_L_law_4 (L : Nat) (xs : Nat → Int32) : zS := sQ (sE 37 60 (xB o_iadd (xC 54) (xL 13)) (xL 16)) (sS 15 (xI (cR r_eq (xK m_L_whose (aC (xC 37) (aC (xL 10) (aC (xL 8) (aN))))) (xL 13)) (xL 16) (xL 15)))
def ls_L_law_4 (L : Nat) (xs : Nat → Int32) : zS := sS 16 (xB o_iadd (xL 16) (xC (-1)))
def lc_L_law_5 (L : Nat) (xs : Nat → Int32) : zC := cR r_lt (xL 13) (xL 5)
def lf_L_law_5 (L : Nat) (xs : Nat → Int32) : zS := sD [14, 15, 16] (sQ (sS 14 (xE 37 60 (xB o_iadd (xC 54) (xL 13)))) (sQ (sS 15 (xC (-9))) (sQ (sD [16] (sQ (sS 16 (xC 99)) (sW (lc_L_law_4 L xs) (lf_L_law_4 L xs) (ls_L_law_4 L xs)))) (sQ (sE 37 60 (xB o_iadd (xC 54) (xL 13)) (xL 14)) (sQ (sI (cO (cR r_ne (xK m_X8_wins (aC (xC 0) (aC (xL 13) (aC (xL 10) (aC (xL 8) (aN)))))) (xL 15)) (cR r_ne (xK m_X8_ofBell (aC (xC 0) (aC (xL 13) (aC (xC 2) (aN))))) (xL 14))) (sR (xC 0)) sK) (sQ (sS 16 (xI (cR r_gt (xL 15) (xL 14)) (xB o_isub (xL 15) (xL 14)) (xC 0))) (sQ (sI (cO (cV (fun x => r_lt x 0) (xL 15)) (cA (cV (fun x => r_ge x 0) (xL 11)) (cR r_ge (xL 16) (xL 12)))) sC sK) (sQ (sS 11 (xL 13)) (sS 12 (xL 16))))))))))
def ls_L_law_5 (L : Nat) (xs : Nat → Int32) : zS := sS 13 (xB o_iadd (xL 13) (xC 1))
def lc_L_law_6 (L : Nat) (xs : Nat → Int32) : zC := cR r_lt (xL 7) (xC 3)
def lf_L_law_6 (L : Nat) (xs : Nat → Int32) : zS := sD [8, 9, 10, 11, 12] (sQ (sS 8 (xK m_L_some (aC (xK (m_L_cell L xs) (aC (xC 0) (aC (xB o_iadd (xC 9) (xL 7)) (aN)))) (aC (xC 40) (aN))))) (sNw 39 9 (sQ (sD [10] (sQ (sS 10 (xC 0)) (sW (lc_L_law_2 L xs) (lf_L_law_2 L xs) (ls_L_law_2 L xs)))) (sQ (sD [10] (sQ (sS 10 (xC 0)) (sW (lc_L_law_3 L xs) (lf_L_law_3 L xs) (ls_L_law_3 L xs)))) (sQ (sS 10 (xK m_L_some (aC (xB zShr (xK (m_L_cell L xs) (aC (xC 0) (aC (xB o_iadd (xC 9) (xL 7)) (aN)))) (xC 6)) (aC (xL 4) (aN))))) (sQ (sS 11 (xC (-9))) (sQ (sS 12 (xC (-9))) (sQ (sD [13] (sQ (sS 13 (xC 0)) (sW (lc_L_law_5 L xs) (lf_L_law_5 L xs) (ls_L_law_5 L xs)))) (sI (cO (cR r_ne (xK m_X8_cheapest (aC (xC 0) (aC (xL 10) (aC (xL 8) (aC (xC 0) (aN)))))) (xL 11)) (cR r_ne (xK m_X8_cheapest (aC (xC 0) (aC (xL 10) (aC (xL 8) (aC (xC 1) (aN)))))) (xL 12))) (sR (xC 0)) sK)))))))))
def ls_L_law_6 (L : Nat) (xs : Nat → Int32) : zS := sS 7 (xB o_iadd (xL 7) (xC 1))
def lc_L_law_7 (L : Nat) (xs : Nat → Int32) : zC := cR r_lt (xL 14) (xL 5)
def lf_L_law_7 (L : Nat) (xs : Nat → Int32) : zS := sS 13 (xB o_iadd (xL 13) (xB zAnd (xB zShr (xL 12) (xL 14)) (xC 1)))
def ls_L_law_7 (L : Nat) (xs : Nat → Int32) : zS := sS 14 (xB o_iadd (xL 14) (xC 1))
def lc_L_law_8 (L : Nat) (xs : Nat → Int32) : zC := cR r_lt (xL 14) (xL 5)
def lf_L_law_8 (L : Nat) (xs : Nat → Int32) : zS := sEo o_ladd 40 6 (xL 14) (xI (cR r_eq (xB zAnd (xB zShr (xL 12) (xL 14)) (xC 1)) (xC 1)) (xD zdiv (xB o_imul (xB o_isub (xC 10) (xE 37 60 (xB o_iadd (xC 3) (xL 11)))) (xC 60)) (xL 13)) (xC 0))
def ls_L_law_8 (L : Nat) (xs : Nat → Int32) : zS := sS 14 (xB o_iadd (xL 14) (xC 1))
def lc_L_law_9 (L : Nat) (xs : Nat → Int32) : zC := cR r_lt (xL 11) (xL 4)
def lf_L_law_9 (L : Nat) (xs : Nat → Int32) : zS := sD [12, 13] (sQ (sX (xK m_L_hear_a (aC (xC 37) (aC (xL 11) (aC (xL 10) (aC (xC 38) (aN))))))) (sQ (sS 12 (xK m_L_best_a (aC (xC 37) (aC (xC 38) (aN))))) (sQ (sS 13 (xC 0)) (sQ (sD [14] (sQ (sS 14 (xC 0)) (sW (lc_L_law_7 L xs) (lf_L_law_7 L xs) (ls_L_law_7 L xs)))) (sD [14] (sQ (sS 14 (xC 0)) (sW (lc_L_law_8 L xs) (lf_L_law_8 L xs) (ls_L_law_8 L xs))))))))
def ls_L_law_9 (L : Nat) (xs : Nat → Int32) : zS := sS 11 (xB o_iadd (xL 11) (xC 1))
def lc_L_law_10 (L : Nat) (xs : Nat → Int32) : zC := cR r_lt (xL 9) (xL 7)
def lf_L_law_10 (L : Nat) (xs : Nat → Int32) : zS := sD [10] (sQ (sS 10 (xK m_L_some (aC (xB zShr (xK (m_L_cell L xs) (aC (xC 0) (aC (xC 13) (aN)))) (xB o_imul (xC 6) (xL 9))) (aC (xC 40) (aN))))) (sQ (sI (cR r_ne (xK m_X8_put (aC (xC 0) (aC (xC 1) (aC (xB o_iadd (xC 1) (xL 9)) (aC (xL 10) (aN)))))) (xC 1)) (sR (xC 0)) sK) (sD [11] (sQ (sS 11 (xC 0)) (sW (lc_L_law_9 L xs) (lf_L_law_9 L xs) (ls_L_law_9 L xs))))))
def ls_L_law_10 (L : Nat) (xs : Nat → Int32) : zS := sS 9 (xB o_iadd (xL 9) (xC 1))
def lc_L_law_11 (L : Nat) (xs : Nat → Int32) : zC := cR r_lt (xL 9) (xL 5)
def lf_L_law_11 (L : Nat) (xs : Nat → Int32) : zS := sI (cN (cV rb (xK m_L_isAlike (aC (xE 40 6 (xL 9)) (aC (xC 60) (aC (xK m_X8_tithes (aC (xC 0) (aC (xL 9) (aC (xC 1) (aC (xC 1) (aC (xC 1) (aC (xL 7) (aC (xC 0) (aN))))))))) (aC (xK m_X8_tithes (aC (xC 0) (aC (xL 9) (aC (xC 1) (aC (xC 1) (aC (xC 1) (aC (xL 7) (aC (xC 1) (aN))))))))) (aN)))))))) (sR (xC 0)) sK
def ls_L_law_11 (L : Nat) (xs : Nat → Int32) : zS := sS 9 (xB o_iadd (xL 9) (xC 1))
def d_L_law (L : Nat) (xs : Nat → Int32) : zS := sQ (sS 3 (xK (m_L_put L xs) (aC (xC 0) (aC (xC 0) (aC (xC 0) (aC (xC 37) (aN))))))) (sQ (sS 4 (xB o_imul (xE 37 60 (xC 0)) (xE 37 60 (xC 1)))) (sQ (sI (cO (cO (cR r_lt (xL 3) (xC 6)) (cR r_ne (xK m_X8_land (aC (xC 0) (aC (xC 0) (aC (xC 0) (aC (xC 0) (aC (xL 3) (aN))))))) (xL 4))) (cN (cV rb (xK (m_L_come L xs) (aC (xC 0) (aC (xC 0) (aC (xC 4) (aC (xC 6) (aC (xC 37) (aN)))))))))) (sR (xC 0)) sK) (sQ (sS 5 (xE 37 60 (xC 41))) (sNw 38 6 (sQ (sD [7] (sQ (sS 7 (xC 0)) (sW (lc_L_law_6 L xs) (lf_L_law_6 L xs) (ls_L_law_6 L xs)))) (sQ (sS 7 (xK m_L_some (aC (xK (m_L_cell L xs) (aC (xC 0) (aC (xC 12) (aN)))) (aC (xC 5) (aN))))) (sQ (sI (cR r_ne (xK m_X8_sheet (aC (xC 0) (aC (xC 1) (aC (xC 1) (aC (xC 6) (aN)))))) (xC 1)) (sR (xC 0)) sK) (sNw 40 8 (sQ (sD [9] (sQ (sS 9 (xC 0)) (sW (lc_L_law_10 L xs) (lf_L_law_10 L xs) (ls_L_law_10 L xs)))) (sQ (sD [9] (sQ (sS 9 (xC 0)) (sW (lc_L_law_11 L xs) (lf_L_law_11 L xs) (ls_L_law_11 L xs)))) (sR (xZ (cA (cA (cA (cA (cA (cA (cA (cA (cA (cA (cA (cA (cA (cA (cA (cA (cA (cA (cA (cA (cA (cA (cA (cA (cR r_eq (xK m_X8_loud (aC (xC 0) (aC (xL 5) (aC (xC 0) (aC (xC 0) (aC (xC 0) (aN))))))) (xC (-9223372036854775808))) (cR r_eq (xK m_X8_loud (aC (xC 0) (aC (xC 0) (aC (xL 4) (aC (xC 0) (aC (xC 0) (aN))))))) (xC (-9223372036854775808)))) (cR r_eq (xK m_X8_loud (aC (xC 0) (aC (xC 0) (aC (xC 0) (aC (xC 40) (aC (xC 0) (aN))))))) (xC (-9223372036854775808)))) (cR r_eq (xK m_X8_loud (aC (xC 0) (aC (xC 0) (aC (xC 0) (aC (xC 0) (aC (xC 2) (aN))))))) (xC (-9223372036854775808)))) (cR r_eq (xK m_X8_whose (aC (xC 0) (aC (xL 4) (aC (xC 0) (aN))))) (xC (-1)))) (cR r_eq (xK m_X8_whose (aC (xC 0) (aC (xC 0) (aC (xC 40) (aN))))) (xC (-2)))) (cR r_eq (xK m_X8_reach (aC (xC 0) (aC (xL 5) (aC (xC 0) (aN))))) (xC (-1)))) (cR r_eq (xK m_X8_reach (aC (xC 0) (aC (xC 0) (aC (xC (-1)) (aN))))) (xC (-2)))) (cR r_eq (xK m_X8_wins (aC (xC 0) (aC (xL 5) (aC (xC 0) (aC (xC 0) (aN)))))) (xC (-1)))) (cR r_eq (xK m_X8_wins (aC (xC 0) (aC (xC 0) (aC (xL 4) (aC (xC 0) (aN)))))) (xC (-1)))) (cR r_eq (xK m_X8_wins (aC (xC 0) (aC (xC 0) (aC (xC 0) (aC (xC 40) (aN)))))) (xC (-2)))) (cR r_eq (xK m_X8_cheapest (aC (xC 0) (aC (xL 4) (aC (xC 0) (aC (xC 0) (aN)))))) (xC (-1)))) (cR r_eq (xK m_X8_cheapest (aC (xC 0) (aC (xC 0) (aC (xC 40) (aC (xC 0) (aN)))))) (xC (-2)))) (cR r_eq (xK m_X8_cheapest (aC (xC 0) (aC (xC 0) (aC (xC 0) (aC (xC 2) (aN)))))) (xC (-2)))) (cR r_eq (xK m_X8_put (aC (xC 0) (aC (xC 1) (aC (xC 0) (aC (xC 40) (aN)))))) (xC 1))) (cR r_eq (xK m_X8_tithes (aC (xC 0) (aC (xC 0) (aC (xC 1) (aC (xC 1) (aC (xC 0) (aC (xC 1) (aC (xC 0) (aN))))))))) (xC (-9223372036854775808)))) (cV (fun x => r_eq x 0) (xK m_X8_fault (aC (xC 0) (aN))))) (cR r_eq (xK m_X8_tithes (aC (xC 0) (aC (xC 0) (aC (xC 1) (aC (xC 1) (aC (xC 0) (aC (xC 7) (aC (xC 0) (aN))))))))) (xC (-9223372036854775808)))) (cR r_eq (xK m_X8_fault (aC (xC 0) (aN))) (xC 3))) (cR r_eq (xK m_X8_tithes (aC (xC 0) (aC (xC 0) (aC (xC 1) (aC (xC 2) (aC (xC 0) (aC (xC 1) (aC (xC 0) (aN))))))))) (xC (-9223372036854775808)))) (cR r_eq (xK m_X8_fault (aC (xC 0) (aN))) (xC 2))) (cR r_eq (xK m_X8_tithes (aC (xC 0) (aC (xC 0) (aC (xC 1) (aC (xC 1) (aC (xC 0) (aC (xC (-1)) (aC (xC 0) (aN))))))))) (xC (-9223372036854775808)))) (cR r_eq (xK m_X8_fault (aC (xC 0) (aN))) (xC 4))) (cR r_eq (xK m_X8_tithes (aC (xC 0) (aC (xL 5) (aC (xC 1) (aC (xC 1) (aC (xC 1) (aC (xC 0) (aC (xC 0) (aN))))))))) (xC (-9223372036854775808)))) (cV (fun x => r_eq x 0) (xK m_X8_fault (aC (xC 0) (aN)))))))))))))))))
set_option maxRecDepth 100000 in
set_option maxHeartbeats 40000000 in
theorem s_L_law {L : Nat} {xs : Nat → Int32} (hL2 : L < 2147483648) (ns : List Nat) (h37 : 37 ∈ ns) (a38 : 38 ∉ ns) (a39 : 39 ∉ ns) (a40 : 40 ∉ ns) (a41 : 41 ∉ ns) (a42 : 42 ∉ ns) (cp : Int) (P : Int → zHp → Prop) : zSt (RL, cL_law, 17, wz_L, 9, 358, some (L, xs), 4, [], ns, cp, P) [(0, 3), (1, 10), (2, 47)] 13 0 [] zX0 (d_L_law L xs) := zs_seq (zs_istore_n (Γ2 := [(0, 3), (1, 10), (2, 47), (3, 0)]) (zx_callS (za_cons (zx_this (o := 0) dL_law_13 rfl rfl (by decide) (by decide)) rfl (za_cons (zx_sarg dL_law_14 rfl (by decide)) rfl (za_cons (zx_iconst dL_law_15 rfl ⟨by decide, by decide⟩) rfl (za_cons (zx_this (o := 37) dL_law_16 rfl rfl (by decide) (by decide)) rfl (za_nil))))) (k_L_put hL2) ⟨(znd_c h37 znd_0), znd_0, Or.inr rfl⟩ (by decide) rfl (zGS zw_453 zw_454 zw_7 zw_455) rfl hyS_L_put ⟨Nat.le_of_ble_eq_true rfl, Nat.le_of_ble_eq_true rfl⟩ (by decide) dL_law_17) dL_law_20 rfl (Nat.le_of_ble_eq_true rfl) (by decide)) (zs_seq (zs_istore (Γ2 := [(0, 3), (1, 10), (2, 47), (3, 0), (4, 0)]) (zx_imul (zx_ialdS (o := 37) (zx_this (o := 37) dL_law_21 rfl rfl (by decide) (by decide)) (zx_iconst dL_law_22 rfl ⟨by decide, by decide⟩) (zp_b (by decide) h37) rfl rfl dL_law_23) (zx_ialdS (o := 37) (zx_this (o := 37) dL_law_24 rfl rfl (by decide) (by decide)) (zx_iconst dL_law_25 rfl ⟨by decide, by decide⟩) (zp_b (by decide) h37) rfl rfl dL_law_26) dL_law_27) dL_law_28 (Nat.le_of_ble_eq_true rfl) (by decide)) (zs_seq (zs_if (zc_or (zc_or (zc_icmp_lt (zx_iload_n dL_law_30 rfl (by decide)) (zx_bipush dL_law_31 rfl ⟨by decide, by decide⟩) dL_law_33 (by decide)) (zc_icmp_ne (zx_callV (za_cons (zx_this (o := 0) dL_law_36 rfl rfl (by decide) (by decide)) rfl (za_cons (zx_iconst dL_law_37 rfl ⟨by decide, by decide⟩) rfl (za_cons (zx_iconst dL_law_38 rfl ⟨by decide, by decide⟩) rfl (za_cons (zx_iconst dL_law_39 rfl ⟨by decide, by decide⟩) rfl (za_cons (zx_iload_n dL_law_40 rfl (by decide)) rfl (za_nil)))))) k_X8_land zf_0 (by decide) (by decide) (by decide) rfl rfl (zGV zw_269 zw_270 zw_271 zw_8 zw_272) rfl hyV_X8_land ⟨Nat.le_of_ble_eq_true rfl, Nat.le_of_ble_eq_true rfl⟩ (by decide) dL_law_41) (zx_iload dL_law_44 (by decide)) dL_law_46 (by decide))) (zc_not (zc_b (zx_sub (zx_callS (za_cons (zx_this (o := 0) dL_law_49 rfl rfl (by decide) (by decide)) rfl (za_cons (zx_sarg dL_law_50 rfl (by decide)) rfl (za_cons (zx_iconst dL_law_51 rfl ⟨by decide, by decide⟩) rfl (za_cons (zx_bipush dL_law_52 rfl ⟨by decide, by decide⟩) rfl (za_cons (zx_this (o := 37) dL_law_54 rfl rfl (by decide) (by decide)) rfl (za_nil)))))) (k_L_come hL2) ⟨(znd_c h37 znd_0), znd_0, Or.inr rfl⟩ (by decide) rfl (zGS zw_456 zw_457 zw_7 zw_458) rfl hyS_L_come ⟨Nat.le_of_ble_eq_true rfl, Nat.le_of_ble_eq_true rfl⟩ (by decide) dL_law_55)) dL_law_58 (by decide)))) (zs_ret (zx_bconst dL_law_61 rfl (Or.inl rfl)) rfl (by decide) dL_law_62) zs_skip) (zs_seq (zs_istore (Γ2 := [(0, 3), (1, 10), (2, 47), (3, 0), (4, 0), (5, 0)]) (zx_ialdS (o := 37) (zx_this (o := 37) dL_law_63 rfl rfl (by decide) (by decide)) (zx_bipush dL_law_64 rfl ⟨by decide, by decide⟩) (zp_b (by decide) h37) rfl rfl dL_law_66) dL_law_67 (Nat.le_of_ble_eq_true rfl) (by decide)) (zs_new (M := (RL, cL_law, 17, wz_L, 9, 358, some (L, xs), 4, [], ns, cp, P)) (Γ := [(0, 3), (1, 10), (2, 47), (3, 0), (4, 0), (5, 0)]) (a := 69) (a1 := 71) (a3 := 75) (k := 38) (N := 16) (slot := 6) (Γ1 := [(0, 3), (1, 10), (2, 47), (3, 0), (4, 0), (5, 0), (6, 48)]) (Γ2 := []) (Γ3 := []) (zx_bipush dL_law_69 rfl ⟨by decide, by decide⟩) rfl (by decide) (by decide) rfl (by decide) (Or.inr ⟨rfl, rfl⟩) (List.mem_cons_of_mem _ zw_120) a38 List.not_mem_nil (by decide) dL_law_71 (Nat.le_of_ble_eq_true rfl) (Or.inr ⟨dL_law_73, rfl⟩) (by decide) (zs_seq (zs_blk (Γ2 := [(0, 3), (1, 10), (2, 47), (3, 0), (4, 0), (5, 0), (6, 48)]) (Γ3 := [(0, 3), (1, 10), (2, 47), (3, 0), (4, 0), (5, 0), (6, 48), (7, 0)]) (ks := [7]) (zs_seq (zs_istore (Γ2 := [(0, 3), (1, 10), (2, 47), (3, 0), (4, 0), (5, 0), (6, 48), (7, 0)]) (zx_iconst dL_law_75 rfl ⟨by decide, by decide⟩) dL_law_76 (Nat.le_of_ble_eq_true rfl) (by decide)) (zs_loop (Γ := [(0, 3), (1, 10), (2, 47), (3, 0), (4, 0), (5, 0), (6, 48), (7, 0)]) (zc_icmpN_lt (zx_iload dL_law_78 (by decide)) (zx_iconst dL_law_80 rfl ⟨by decide, by decide⟩) dL_law_81 (by decide)) (zs_blk (Γ2 := [(0, 3), (1, 10), (2, 47), (3, 0), (4, 0), (5, 0), (6, 48), (7, 0)]) (Γ3 := [(0, 3), (1, 10), (2, 47), (3, 0), (4, 0), (5, 0), (6, 48), (7, 0), (8, 0), (10, 0), (11, 0), (12, 0)]) (ks := [8, 9, 10, 11, 12]) (zs_seq (zs_istore (Γ2 := [(0, 3), (1, 10), (2, 47), (3, 0), (4, 0), (5, 0), (6, 48), (7, 0), (8, 0)]) (zx_callS (za_cons (zx_callS (za_cons (zx_sarg dL_law_84 rfl (by decide)) rfl (za_cons (zx_iadd (zx_bipush dL_law_85 rfl ⟨by decide, by decide⟩) (zx_iload dL_law_87 (by decide)) dL_law_89) rfl (za_nil))) (k_L_cell hL2) ⟨znd_0, znd_0, Or.inr rfl⟩ (by decide) rfl (zGS zw_445 zw_446 zw_7 zw_447) rfl hyS_L_cell ⟨Nat.le_of_ble_eq_true rfl, Nat.le_of_ble_eq_true rfl⟩ (by decide) dL_law_90) rfl (za_cons (zx_bipush dL_law_93 rfl ⟨by decide, by decide⟩) rfl (za_nil))) k_L_some zf_0 (by decide) rfl (zGS zw_449 zw_450 zw_7 zw_451) rfl hyS_L_some ⟨Nat.le_of_ble_eq_true rfl, Nat.le_of_ble_eq_true rfl⟩ (by decide) dL_law_95) dL_law_98 (Nat.le_of_ble_eq_true rfl) (by decide)) (zs_new (M := (zMn (RL, cL_law, 17, wz_L, 9, 358, some (L, xs), 4, [], ns, cp, P) 38)) (Γ := [(0, 3), (1, 10), (2, 47), (3, 0), (4, 0), (5, 0), (6, 48), (7, 0), (8, 0)]) (a := 100) (a1 := 102) (a3 := 106) (k := 39) (N := 6) (slot := 9) (Γ1 := [(0, 3), (1, 10), (2, 47), (3, 0), (4, 0), (5, 0), (6, 48), (7, 0), (8, 0), (9, 49)]) (Γ2 := [(0, 3), (1, 10), (2, 47), (3, 0), (4, 0), (5, 0), (6, 48), (7, 0), (8, 0), (10, 0), (11, 0), (12, 0)]) (Γ3 := [(0, 3), (1, 10), (2, 47), (3, 0), (4, 0), (5, 0), (6, 48), (7, 0), (8, 0), (9, 49), (10, 0), (11, 0), (12, 0)]) (zx_bipush dL_law_100 rfl ⟨by decide, by decide⟩) rfl (by decide) (by decide) rfl (by decide) (Or.inl ⟨rfl, rfl⟩) (List.mem_cons_of_mem _ zw_63) (znm_c (by decide) a39) List.not_mem_nil (by decide) dL_law_102 (Nat.le_of_ble_eq_true rfl) (Or.inr ⟨dL_law_104, rfl⟩) (by decide) (zs_seq (zs_blk (Γ2 := [(0, 3), (1, 10), (2, 47), (3, 0), (4, 0), (5, 0), (6, 48), (7, 0), (8, 0), (9, 49)]) (Γ3 := [(0, 3), (1, 10), (2, 47), (3, 0), (4, 0), (5, 0), (6, 48), (7, 0), (8, 0), (9, 49), (10, 0)]) (ks := [10]) (zs_seq (zs_istore (Γ2 := [(0, 3), (1, 10), (2, 47), (3, 0), (4, 0), (5, 0), (6, 48), (7, 0), (8, 0), (9, 49), (10, 0)]) (zx_iconst dL_law_106 rfl ⟨by decide, by decide⟩) dL_law_107 (Nat.le_of_ble_eq_true rfl) (by decide)) (zs_loop (Γ := [(0, 3), (1, 10), (2, 47), (3, 0), (4, 0), (5, 0), (6, 48), (7, 0), (8, 0), (9, 49), (10, 0)]) (zc_icmpN_lt (zx_iload dL_law_109 (by decide)) (zx_iload dL_law_111 (by decide)) dL_law_113 (by decide)) (zs_blk (Γ2 := [(0, 3), (1, 10), (2, 47), (3, 0), (4, 0), (5, 0), (6, 48), (7, 0), (8, 0), (9, 49), (10, 0)]) (Γ3 := [(0, 3), (1, 10), (2, 47), (3, 0), (4, 0), (5, 0), (6, 48), (7, 0), (8, 0), (9, 49), (10, 0), (11, 0)]) (ks := [11]) (zs_seq (zs_callS (za_cons (zx_this (o := 37) dL_law_116 rfl rfl (by decide) (by decide)) rfl (za_cons (zx_iload dL_law_117 (by decide)) rfl (za_cons (zx_iload dL_law_119 (by decide)) rfl (za_cons (zx_thisW (o := 38) dL_law_121 rfl (by decide) (by decide)) rfl (za_nil))))) k_L_hear_a ⟨(znd_c (List.mem_cons_of_mem _ (List.mem_cons_of_mem _ h37)) (znd_c (List.mem_cons_of_mem _ (List.mem_cons_self)) znd_0)), (znd_c (znm_c (by decide) (znm_c (by decide) a42)) znd_0), Or.inl rfl⟩ rfl (zGS zw_520 zw_521 zw_7 zw_522) rfl hyS_L_hear ⟨Nat.le_of_ble_eq_true rfl, Nat.le_of_ble_eq_true rfl⟩ dL_law_123) (zs_seq (zs_istore (Γ2 := [(0, 3), (1, 10), (2, 47), (3, 0), (4, 0), (5, 0), (6, 48), (7, 0), (8, 0), (9, 49), (10, 0), (11, 0)]) (zx_callS (za_cons (zx_this (o := 37) dL_law_126 rfl rfl (by decide) (by decide)) rfl (za_cons (zx_thisW (o := 38) dL_law_127 rfl (by decide) (by decide)) rfl (za_nil))) k_L_best_a ⟨(znd_c (List.mem_cons_of_mem _ (List.mem_cons_of_mem _ h37)) (znd_c (List.mem_cons_of_mem _ (List.mem_cons_self)) znd_0)), znd_0, Or.inl rfl⟩ (by decide) rfl (zGS zw_528 zw_529 zw_7 zw_530) rfl hyS_L_best ⟨Nat.le_of_ble_eq_true rfl, Nat.le_of_ble_eq_true rfl⟩ (by decide) dL_law_129) dL_law_132 (Nat.le_of_ble_eq_true rfl) (by decide)) (zs_seq (zs_blk (Γ2 := [(0, 3), (1, 10), (2, 47), (3, 0), (4, 0), (5, 0), (6, 48), (7, 0), (8, 0), (9, 49), (10, 0), (11, 0)]) (Γ3 := [(0, 3), (1, 10), (2, 47), (3, 0), (4, 0), (5, 0), (6, 48), (7, 0), (8, 0), (9, 49), (10, 0), (11, 0), (12, 0)]) (ks := [12]) (zs_seq (zs_istore (Γ2 := [(0, 3), (1, 10), (2, 47), (3, 0), (4, 0), (5, 0), (6, 48), (7, 0), (8, 0), (9, 49), (10, 0), (11, 0), (12, 0)]) (zx_iconst dL_law_134 rfl ⟨by decide, by decide⟩) dL_law_135 (Nat.le_of_ble_eq_true rfl) (by decide)) (zs_loop (Γ := [(0, 3), (1, 10), (2, 47), (3, 0), (4, 0), (5, 0), (6, 48), (7, 0), (8, 0), (9, 49), (10, 0), (11, 0), (12, 0)]) (zc_icmpN_lt (zx_iload dL_law_137 (by decide)) (zx_iload dL_law_139 (by decide)) dL_law_141 (by decide)) (zs_seq (zs_if (zc_not (zc_b (zx_sub (zx_callS (za_cons (zx_laldS (o := 38) (zx_thisW (o := 38) dL_law_144 rfl (by decide) (by decide)) (zx_iload dL_law_146 (by decide)) (zp_b (by decide) (List.mem_cons_of_mem _ (List.mem_cons_self))) rfl rfl dL_law_148) rfl (za_cons (zx_laldS (o := 38) (zx_thisW (o := 38) dL_law_149 rfl (by decide) (by decide)) (zx_iadd (zx_bipush dL_law_151 rfl ⟨by decide, by decide⟩) (zx_iload dL_law_153 (by decide)) dL_law_155) (zp_b (by decide) (List.mem_cons_of_mem _ (List.mem_cons_self))) rfl rfl dL_law_156) rfl (za_cons (zx_callV (za_cons (zx_this (o := 0) dL_law_157 rfl rfl (by decide) (by decide)) rfl (za_cons (zx_iload dL_law_158 (by decide)) rfl (za_cons (zx_iload dL_law_160 (by decide)) rfl (za_cons (zx_iload dL_law_162 (by decide)) rfl (za_cons (zx_iconst dL_law_164 rfl ⟨by decide, by decide⟩) rfl (za_nil)))))) k_X8_loud zf_0 (by decide) (by decide) (by decide) rfl rfl (zGV zw_310 zw_311 zw_312 zw_8 zw_313) rfl hyV_X8_loud ⟨Nat.le_of_ble_eq_true rfl, Nat.le_of_ble_eq_true rfl⟩ (by decide) dL_law_165) rfl (za_cons (zx_callV (za_cons (zx_this (o := 0) dL_law_168 rfl rfl (by decide) (by decide)) rfl (za_cons (zx_iload dL_law_169 (by decide)) rfl (za_cons (zx_iload dL_law_171 (by decide)) rfl (za_cons (zx_iload dL_law_173 (by decide)) rfl (za_cons (zx_iconst dL_law_175 rfl ⟨by decide, by decide⟩) rfl (za_nil)))))) k_X8_loud zf_0 (by decide) (by decide) (by decide) rfl rfl (zGV zw_310 zw_311 zw_312 zw_8 zw_313) rfl hyV_X8_loud ⟨Nat.le_of_ble_eq_true rfl, Nat.le_of_ble_eq_true rfl⟩ (by decide) dL_law_176) rfl (za_nil))))) k_L_isAlike zf_0 (by decide) rfl (zGS zw_534 zw_535 zw_7 zw_536) rfl hyS_L_isAlike ⟨Nat.le_of_ble_eq_true rfl, Nat.le_of_ble_eq_true rfl⟩ (by decide) dL_law_179)) dL_law_182 (by decide))) (zs_ret (zx_bconst dL_law_185 rfl (Or.inl rfl)) rfl (by decide) dL_law_186) zs_skip) (zs_iastO (o := 39) (zx_thisW (o := 39) dL_law_187 rfl (by decide) (by decide)) (zx_iload dL_law_189 (by decide)) dL_law_191 dL_law_192 (zx_ite (zc_icmpN_eq (zx_iand (zx_ishr (zx_iload dL_law_193 (by decide)) (zx_iload dL_law_195 (by decide)) dL_law_197) (zx_iconst dL_law_198 rfl ⟨by decide, by decide⟩) dL_law_199) (zx_iconst dL_law_200 rfl ⟨by decide, by decide⟩) dL_law_201 (by decide)) (zx_ishl (zx_iconst dL_law_204 rfl ⟨by decide, by decide⟩) (zx_iload dL_law_205 (by decide)) dL_law_207) dL_law_208 (by decide) (zx_iconst dL_law_211 rfl ⟨by decide, by decide⟩)) (zo_ior dL_law_212) (zp_b (by decide) List.mem_cons_self) rfl rfl dL_law_213)) (zs_goto (zs_iinc (Γ2 := [(0, 3), (1, 10), (2, 47), (3, 0), (4, 0), (5, 0), (6, 48), (7, 0), (8, 0), (9, 49), (10, 0), (11, 0), (12, 0)]) dL_law_214 (by decide) (Nat.le_of_ble_eq_true rfl) (by decide)) dL_law_217 (by decide)))) (by decide) (by decide) (zY_ok (by decide))) (zs_if (zc_icmpN_ne (zx_callV (za_cons (zx_this (o := 0) dL_law_220 rfl rfl (by decide) (by decide)) rfl (za_cons (zx_iload dL_law_221 (by decide)) rfl (za_cons (zx_iload dL_law_223 (by decide)) rfl (za_nil)))) k_X8_whose zf_0 (by decide) (by decide) (by decide) rfl rfl (zGV zw_355 zw_356 zw_357 zw_8 zw_358) rfl hyV_X8_whose ⟨Nat.le_of_ble_eq_true rfl, Nat.le_of_ble_eq_true rfl⟩ (by decide) dL_law_225) (zx_callS (za_cons (zx_this (o := 37) dL_law_228 rfl rfl (by decide) (by decide)) rfl (za_cons (zx_iload dL_law_229 (by decide)) rfl (za_cons (zx_iload dL_law_231 (by decide)) rfl (za_nil)))) k_L_whose ⟨(znd_c (List.mem_cons_of_mem _ (List.mem_cons_of_mem _ h37)) znd_0), (znd_c (znm_c (by decide) (znm_c (by decide) a41)) (znd_c (znm_c (by decide) (znm_c (by decide) a42)) znd_0)), Or.inl rfl⟩ (by decide) rfl (zGS zw_531 zw_532 zw_7 zw_533) rfl hyS_L_whose ⟨Nat.le_of_ble_eq_true rfl, Nat.le_of_ble_eq_true rfl⟩ (by decide) dL_law_233) dL_law_236 (by decide)) (zs_ret (zx_bconst dL_law_239 rfl (Or.inl rfl)) rfl (by decide) dL_law_240) zs_skip)))) (by decide) (by decide) (zY_ok (by decide))) (zs_goto (zs_iinc (Γ2 := [(0, 3), (1, 10), (2, 47), (3, 0), (4, 0), (5, 0), (6, 48), (7, 0), (8, 0), (9, 49), (10, 0)]) dL_law_241 (by decide) (Nat.le_of_ble_eq_true rfl) (by decide)) dL_law_244 (by decide)))) (by decide) (by decide) (zY_ok (by decide))) (zs_seq (zs_blk (Γ2 := [(0, 3), (1, 10), (2, 47), (3, 0), (4, 0), (5, 0), (6, 48), (7, 0), (8, 0), (9, 49)]) (Γ3 := [(0, 3), (1, 10), (2, 47), (3, 0), (4, 0), (5, 0), (6, 48), (7, 0), (8, 0), (9, 49), (10, 0)]) (ks := [10]) (zs_seq (zs_istore (Γ2 := [(0, 3), (1, 10), (2, 47), (3, 0), (4, 0), (5, 0), (6, 48), (7, 0), (8, 0), (9, 49), (10, 0)]) (zx_iconst dL_law_247 rfl ⟨by decide, by decide⟩) dL_law_248 (Nat.le_of_ble_eq_true rfl) (by decide)) (zs_loop (Γ := [(0, 3), (1, 10), (2, 47), (3, 0), (4, 0), (5, 0), (6, 48), (7, 0), (8, 0), (9, 49), (10, 0)]) (zc_icmpN_lt (zx_iload dL_law_250 (by decide)) (zx_iload dL_law_252 (by decide)) dL_law_254 (by decide)) (zs_if (zc_icmpN_ne (zx_callV (za_cons (zx_this (o := 0) dL_law_257 rfl rfl (by decide) (by decide)) rfl (za_cons (zx_iload dL_law_258 (by decide)) rfl (za_cons (zx_iload dL_law_260 (by decide)) rfl (za_nil)))) k_X8_reach zf_0 (by decide) (by decide) (by decide) rfl rfl (zGV zw_373 zw_374 zw_375 zw_8 zw_376) rfl hyV_X8_reach ⟨Nat.le_of_ble_eq_true rfl, Nat.le_of_ble_eq_true rfl⟩ (by decide) dL_law_262) (zx_ialdS (o := 39) (zx_thisW (o := 39) dL_law_265 rfl (by decide) (by decide)) (zx_iload dL_law_267 (by decide)) (zp_b (by decide) List.mem_cons_self) rfl rfl dL_law_269) dL_law_270 (by decide)) (zs_ret (zx_bconst dL_law_273 rfl (Or.inl rfl)) rfl (by decide) dL_law_274) zs_skip) (zs_goto (zs_iinc (Γ2 := [(0, 3), (1, 10), (2, 47), (3, 0), (4, 0), (5, 0), (6, 48), (7, 0), (8, 0), (9, 49), (10, 0)]) dL_law_275 (by decide) (Nat.le_of_ble_eq_true rfl) (by decide)) dL_law_278 (by decide)))) (by decide) (by decide) (zY_ok (by decide))) (zs_seq (zs_istore (Γ2 := [(0, 3), (1, 10), (2, 47), (3, 0), (4, 0), (5, 0), (6, 48), (7, 0), (8, 0), (9, 49), (10, 0)]) (zx_callS (za_cons (zx_ishr (zx_callS (za_cons (zx_sarg dL_law_281 rfl (by decide)) rfl (za_cons (zx_iadd (zx_bipush dL_law_282 rfl ⟨by decide, by decide⟩) (zx_iload dL_law_284 (by decide)) dL_law_286) rfl (za_nil))) (k_L_cell hL2) ⟨znd_0, znd_0, Or.inr rfl⟩ (by decide) rfl (zGS zw_445 zw_446 zw_7 zw_447) rfl hyS_L_cell ⟨Nat.le_of_ble_eq_true rfl, Nat.le_of_ble_eq_true rfl⟩ (by decide) dL_law_287) (zx_bipush dL_law_290 rfl ⟨by decide, by decide⟩) dL_law_292) rfl (za_cons (zx_iload dL_law_293 (by decide)) rfl (za_nil))) k_L_some zf_0 (by decide) rfl (zGS zw_449 zw_450 zw_7 zw_451) rfl hyS_L_some ⟨Nat.le_of_ble_eq_true rfl, Nat.le_of_ble_eq_true rfl⟩ (by decide) dL_law_295) dL_law_298 (Nat.le_of_ble_eq_true rfl) (by decide)) (zs_seq (zs_istore (Γ2 := [(0, 3), (1, 10), (2, 47), (3, 0), (4, 0), (5, 0), (6, 48), (7, 0), (8, 0), (9, 49), (10, 0), (11, 0)]) (zx_bipush dL_law_300 rfl ⟨by decide, by decide⟩) dL_law_302 (Nat.le_of_ble_eq_true rfl) (by decide)) (zs_seq (zs_istore (Γ2 := [(0, 3), (1, 10), (2, 47), (3, 0), (4, 0), (5, 0), (6, 48), (7, 0), (8, 0), (9, 49), (10, 0), (11, 0), (12, 0)]) (zx_bipush dL_law_304 rfl ⟨by decide, by decide⟩) dL_law_306 (Nat.le_of_ble_eq_true rfl) (by decide)) (zs_seq (zs_blk (Γ2 := [(0, 3), (1, 10), (2, 47), (3, 0), (4, 0), (5, 0), (6, 48), (7, 0), (8, 0), (9, 49), (10, 0), (11, 0), (12, 0)]) (Γ3 := [(0, 3), (1, 10), (2, 47), (3, 0), (4, 0), (5, 0), (6, 48), (7, 0), (8, 0), (9, 49), (10, 0), (11, 0), (12, 0), (13, 0)]) (ks := [13]) (zs_seq (zs_istore (Γ2 := [(0, 3), (1, 10), (2, 47), (3, 0), (4, 0), (5, 0), (6, 48), (7, 0), (8, 0), (9, 49), (10, 0), (11, 0), (12, 0), (13, 0)]) (zx_iconst dL_law_308 rfl ⟨by decide, by decide⟩) dL_law_309 (Nat.le_of_ble_eq_true rfl) (by decide)) (zs_loop (Γ := [(0, 3), (1, 10), (2, 47), (3, 0), (4, 0), (5, 0), (6, 48), (7, 0), (8, 0), (9, 49), (10, 0), (11, 0), (12, 0), (13, 0)]) (zc_icmpN_lt (zx_iload dL_law_311 (by decide)) (zx_iload dL_law_313 (by decide)) dL_law_315 (by decide)) (zs_blk (Γ2 := [(0, 3), (1, 10), (2, 47), (3, 0), (4, 0), (5, 0), (6, 48), (7, 0), (8, 0), (9, 49), (10, 0), (11, 0), (12, 0), (13, 0)]) (Γ3 := [(0, 3), (1, 10), (2, 47), (3, 0), (4, 0), (5, 0), (6, 48), (7, 0), (8, 0), (9, 49), (10, 0), (11, 0), (12, 0), (13, 0), (14, 0), (15, 0), (16, 0)]) (ks := [14, 15, 16]) (zs_seq (zs_istore (Γ2 := [(0, 3), (1, 10), (2, 47), (3, 0), (4, 0), (5, 0), (6, 48), (7, 0), (8, 0), (9, 49), (10, 0), (11, 0), (12, 0), (13, 0), (14, 0)]) (zx_ialdS (o := 37) (zx_this (o := 37) dL_law_318 rfl rfl (by decide) (by decide)) (zx_iadd (zx_bipush dL_law_319 rfl ⟨by decide, by decide⟩) (zx_iload dL_law_321 (by decide)) dL_law_323) (zp_b (by decide) (List.mem_cons_of_mem _ (List.mem_cons_of_mem _ h37))) rfl rfl dL_law_324) dL_law_325 (Nat.le_of_ble_eq_true rfl) (by decide)) (zs_seq (zs_istore (Γ2 := [(0, 3), (1, 10), (2, 47), (3, 0), (4, 0), (5, 0), (6, 48), (7, 0), (8, 0), (9, 49), (10, 0), (11, 0), (12, 0), (13, 0), (14, 0), (15, 0)]) (zx_bipush dL_law_327 rfl ⟨by decide, by decide⟩) dL_law_329 (Nat.le_of_ble_eq_true rfl) (by decide)) (zs_seq (zs_blk (Γ2 := [(0, 3), (1, 10), (2, 47), (3, 0), (4, 0), (5, 0), (6, 48), (7, 0), (8, 0), (9, 49), (10, 0), (11, 0), (12, 0), (13, 0), (14, 0), (15, 0)]) (Γ3 := [(0, 3), (1, 10), (2, 47), (3, 0), (4, 0), (5, 0), (6, 48), (7, 0), (8, 0), (9, 49), (10, 0), (11, 0), (12, 0), (13, 0), (14, 0), (15, 0), (16, 0)]) (ks := [16]) (zs_seq (zs_istore (Γ2 := [(0, 3), (1, 10), (2, 47), (3, 0), (4, 0), (5, 0), (6, 48), (7, 0), (8, 0), (9, 49), (10, 0), (11, 0), (12, 0), (13, 0), (14, 0), (15, 0), (16, 0)]) (zx_bipush dL_law_331 rfl ⟨by decide, by decide⟩) dL_law_333 (Nat.le_of_ble_eq_true rfl) (by decide)) (zs_loop (Γ := [(0, 3), (1, 10), (2, 47), (3, 0), (4, 0), (5, 0), (6, 48), (7, 0), (8, 0), (9, 49), (10, 0), (11, 0), (12, 0), (13, 0), (14, 0), (15, 0), (16, 0)]) (zc_ifN_gt (zx_iload dL_law_335 (by decide)) dL_law_337 (by decide)) (zs_seq (zs_iastS (o := 37) (zx_this (o := 37) dL_law_340 rfl rfl (by decide) (by decide)) (zx_iadd (zx_bipush dL_law_341 rfl ⟨by decide, by decide⟩) (zx_iload dL_law_343 (by decide)) dL_law_345) (zx_iload dL_law_346 (by decide)) (zp_b (by decide) (List.mem_cons_of_mem _ (List.mem_cons_of_mem _ h37))) rfl rfl dL_law_348) (zs_istore (Γ2 := [(0, 3), (1, 10), (2, 47), (3, 0), (4, 0), (5, 0), (6, 48), (7, 0), (8, 0), (9, 49), (10, 0), (11, 0), (12, 0), (13, 0), (14, 0), (15, 0), (16, 0)]) (zx_ite (zc_icmpN_eq (zx_callS (za_cons (zx_this (o := 37) dL_law_349 rfl rfl (by decide) (by decide)) rfl (za_cons (zx_iload dL_law_350 (by decide)) rfl (za_cons (zx_iload dL_law_352 (by decide)) rfl (za_nil)))) k_L_whose ⟨(znd_c (List.mem_cons_of_mem _ (List.mem_cons_of_mem _ h37)) znd_0), (znd_c (znm_c (by decide) (znm_c (by decide) a41)) (znd_c (znm_c (by decide) (znm_c (by decide) a42)) znd_0)), Or.inl rfl⟩ (by decide) rfl (zGS zw_531 zw_532 zw_7 zw_533) rfl hyS_L_whose ⟨Nat.le_of_ble_eq_true rfl, Nat.le_of_ble_eq_true rfl⟩ (by decide) dL_law_354) (zx_iload dL_law_357 (by decide)) dL_law_359 (by decide)) (zx_iload dL_law_362 (by decide)) dL_law_364 (by decide) (zx_iload dL_law_367 (by decide))) dL_law_369 (Nat.le_of_ble_eq_true rfl) (by decide))) (zs_goto (zs_iinc (Γ2 := [(0, 3), (1, 10), (2, 47), (3, 0), (4, 0), (5, 0), (6, 48), (7, 0), (8, 0), (9, 49), (10, 0), (11, 0), (12, 0), (13, 0), (14, 0), (15, 0), (16, 0)]) dL_law_371 (by decide) (Nat.le_of_ble_eq_true rfl) (by decide)) dL_law_374 (by decide)))) (by decide) (by decide) (zY_ok (by decide))) (zs_seq (zs_iastS (o := 37) (zx_this (o := 37) dL_law_377 rfl rfl (by decide) (by decide)) (zx_iadd (zx_bipush dL_law_378 rfl ⟨by decide, by decide⟩) (zx_iload dL_law_380 (by decide)) dL_law_382) (zx_iload dL_law_383 (by decide)) (zp_b (by decide) (List.mem_cons_of_mem _ (List.mem_cons_of_mem _ h37))) rfl rfl dL_law_385) (zs_seq (zs_if (zc_or (zc_icmp_ne (zx_callV (za_cons (zx_this (o := 0) dL_law_386 rfl rfl (by decide) (by decide)) rfl (za_cons (zx_iload dL_law_387 (by decide)) rfl (za_cons (zx_iload dL_law_389 (by decide)) rfl (za_cons (zx_iload dL_law_391 (by decide)) rfl (za_nil))))) k_X8_wins zf_0 (by decide) (by decide) (by decide) rfl rfl (zGV zw_396 zw_397 zw_398 zw_8 zw_399) rfl hyV_X8_wins ⟨Nat.le_of_ble_eq_true rfl, Nat.le_of_ble_eq_true rfl⟩ (by decide) dL_law_393) (zx_iload dL_law_396 (by decide)) dL_law_398 (by decide)) (zc_icmpN_ne (zx_callV (za_cons (zx_this (o := 0) dL_law_401 rfl rfl (by decide) (by decide)) rfl (za_cons (zx_iload dL_law_402 (by decide)) rfl (za_cons (zx_iconst dL_law_404 rfl ⟨by decide, by decide⟩) rfl (za_nil)))) k_X8_ofBell zf_0 (by decide) (by decide) (by decide) rfl rfl (zGV zw_302 zw_303 zw_304 zw_8 zw_305) rfl hyV_X8_ofBell ⟨Nat.le_of_ble_eq_true rfl, Nat.le_of_ble_eq_true rfl⟩ (by decide) dL_law_405) (zx_iload dL_law_408 (by decide)) dL_law_410 (by decide))) (zs_ret (zx_bconst dL_law_413 rfl (Or.inl rfl)) rfl (by decide) dL_law_414) zs_skip) (zs_seq (zs_istore (Γ2 := [(0, 3), (1, 10), (2, 47), (3, 0), (4, 0), (5, 0), (6, 48), (7, 0), (8, 0), (9, 49), (10, 0), (11, 0), (12, 0), (13, 0), (14, 0), (15, 0), (16, 0)]) (zx_ite (zc_icmpN_gt (zx_iload dL_law_415 (by decide)) (zx_iload dL_law_417 (by decide)) dL_law_419 (by decide)) (zx_isub (zx_iload dL_law_422 (by decide)) (zx_iload dL_law_424 (by decide)) dL_law_426) dL_law_427 (by decide) (zx_iconst dL_law_430 rfl ⟨by decide, by decide⟩)) dL_law_431 (Nat.le_of_ble_eq_true rfl) (by decide)) (zs_seq (zs_if (zc_or (zc_if_lt (zx_iload dL_law_433 (by decide)) dL_law_435 (by decide)) (zc_gotoT (zc_and (zc_ifN_ge (zx_iload dL_law_438 (by decide)) dL_law_440 (by decide)) (zc_icmpN_ge (zx_iload dL_law_443 (by decide)) (zx_iload dL_law_445 (by decide)) dL_law_447 (by decide))) dL_law_450 (by decide))) (zs_cnt rfl (by decide)) zs_skip) (zs_seq (zs_istore (Γ2 := [(0, 3), (1, 10), (2, 47), (3, 0), (4, 0), (5, 0), (6, 48), (7, 0), (8, 0), (9, 49), (10, 0), (11, 0), (12, 0), (13, 0), (14, 0), (15, 0), (16, 0)]) (zx_iload dL_law_453 (by decide)) dL_law_455 (Nat.le_of_ble_eq_true rfl) (by decide)) (zs_istore (Γ2 := [(0, 3), (1, 10), (2, 47), (3, 0), (4, 0), (5, 0), (6, 48), (7, 0), (8, 0), (9, 49), (10, 0), (11, 0), (12, 0), (13, 0), (14, 0), (15, 0), (16, 0)]) (zx_iload dL_law_457 (by decide)) dL_law_459 (Nat.le_of_ble_eq_true rfl) (by decide)))))))))) (by decide) (by decide) (zY_ok (by decide))) (zs_goto (zs_iinc (Γ2 := [(0, 3), (1, 10), (2, 47), (3, 0), (4, 0), (5, 0), (6, 48), (7, 0), (8, 0), (9, 49), (10, 0), (11, 0), (12, 0), (13, 0)]) dL_law_461 (by decide) (Nat.le_of_ble_eq_true rfl) (by decide)) dL_law_464 (by decide)))) (by decide) (by decide) (zY_ok (by decide))) (zs_if (zc_or (zc_icmp_ne (zx_callV (za_cons (zx_this (o := 0) dL_law_467 rfl rfl (by decide) (by decide)) rfl (za_cons (zx_iload dL_law_468 (by decide)) rfl (za_cons (zx_iload dL_law_470 (by decide)) rfl (za_cons (zx_iconst dL_law_472 rfl ⟨by decide, by decide⟩) rfl (za_nil))))) k_X8_cheapest zf_0 (by decide) (by decide) (by decide) rfl rfl (zGV zw_409 zw_410 zw_411 zw_8 zw_412) rfl hyV_X8_cheapest ⟨Nat.le_of_ble_eq_true rfl, Nat.le_of_ble_eq_true rfl⟩ (by decide) dL_law_473) (zx_iload dL_law_476 (by decide)) dL_law_478 (by decide)) (zc_icmpN_ne (zx_callV (za_cons (zx_this (o := 0) dL_law_481 rfl rfl (by decide) (by decide)) rfl (za_cons (zx_iload dL_law_482 (by decide)) rfl (za_cons (zx_iload dL_law_484 (by decide)) rfl (za_cons (zx_iconst dL_law_486 rfl ⟨by decide, by decide⟩) rfl (za_nil))))) k_X8_cheapest zf_0 (by decide) (by decide) (by decide) rfl rfl (zGV zw_409 zw_410 zw_411 zw_8 zw_412) rfl hyV_X8_cheapest ⟨Nat.le_of_ble_eq_true rfl, Nat.le_of_ble_eq_true rfl⟩ (by decide) dL_law_487) (zx_iload dL_law_490 (by decide)) dL_law_492 (by decide))) (zs_ret (zx_bconst dL_law_495 rfl (Or.inl rfl)) rfl (by decide) dL_law_496) zs_skip))))))) (by decide))) (by decide) (by decide) (zY_ok (by decide))) (zs_goto (zs_iinc (Γ2 := [(0, 3), (1, 10), (2, 47), (3, 0), (4, 0), (5, 0), (6, 48), (7, 0)]) dL_law_497 (by decide) (Nat.le_of_ble_eq_true rfl) (by decide)) dL_law_500 (by decide)))) (by decide) (by decide) zX0_ok) (zs_seq (zs_istore (Γ2 := [(0, 3), (1, 10), (2, 47), (3, 0), (4, 0), (5, 0), (6, 48), (7, 0)]) (zx_callS (za_cons (zx_callS (za_cons (zx_sarg dL_law_503 rfl (by decide)) rfl (za_cons (zx_bipush dL_law_504 rfl ⟨by decide, by decide⟩) rfl (za_nil))) (k_L_cell hL2) ⟨znd_0, znd_0, Or.inr rfl⟩ (by decide) rfl (zGS zw_445 zw_446 zw_7 zw_447) rfl hyS_L_cell ⟨Nat.le_of_ble_eq_true rfl, Nat.le_of_ble_eq_true rfl⟩ (by decide) dL_law_506) rfl (za_cons (zx_iconst dL_law_509 rfl ⟨by decide, by decide⟩) rfl (za_nil))) k_L_some zf_0 (by decide) rfl (zGS zw_449 zw_450 zw_7 zw_451) rfl hyS_L_some ⟨Nat.le_of_ble_eq_true rfl, Nat.le_of_ble_eq_true rfl⟩ (by decide) dL_law_510) dL_law_513 (Nat.le_of_ble_eq_true rfl) (by decide)) (zs_seq (zs_if (zc_icmpN_ne (zx_callV (za_cons (zx_this (o := 0) dL_law_515 rfl rfl (by decide) (by decide)) rfl (za_cons (zx_iconst dL_law_516 rfl ⟨by decide, by decide⟩) rfl (za_cons (zx_iconst dL_law_517 rfl ⟨by decide, by decide⟩) rfl (za_cons (zx_bipush dL_law_518 rfl ⟨by decide, by decide⟩) rfl (za_nil))))) k_X8_sheet zf_0 (by decide) (by decide) (by decide) rfl rfl (zGV zw_416 zw_417 zw_418 zw_8 zw_419) rfl hyV_X8_sheet ⟨Nat.le_of_ble_eq_true rfl, Nat.le_of_ble_eq_true rfl⟩ (by decide) dL_law_520) (zx_iconst dL_law_523 rfl ⟨by decide, by decide⟩) dL_law_524 (by decide)) (zs_ret (zx_bconst dL_law_527 rfl (Or.inl rfl)) rfl (by decide) dL_law_528) zs_skip) (zs_new (M := (zMn (RL, cL_law, 17, wz_L, 9, 358, some (L, xs), 4, [], ns, cp, P) 38)) (Γ := [(0, 3), (1, 10), (2, 47), (3, 0), (4, 0), (5, 0), (6, 48), (7, 0)]) (a := 529) (a1 := 531) (a3 := 535) (k := 40) (N := 6) (slot := 8) (Γ1 := [(0, 3), (1, 10), (2, 47), (3, 0), (4, 0), (5, 0), (6, 48), (7, 0), (8, 50)]) (Γ2 := []) (Γ3 := []) (zx_bipush dL_law_529 rfl ⟨by decide, by decide⟩) rfl (by decide) (by decide) rfl (by decide) (Or.inr ⟨rfl, rfl⟩) (List.mem_cons_of_mem _ zw_120) (znm_c (by decide) a40) List.not_mem_nil (by decide) dL_law_531 (Nat.le_of_ble_eq_true rfl) (Or.inr ⟨dL_law_533, rfl⟩) (by decide) (zs_seq (zs_blk (Γ2 := [(0, 3), (1, 10), (2, 47), (3, 0), (4, 0), (5, 0), (6, 48), (7, 0), (8, 50)]) (Γ3 := [(0, 3), (1, 10), (2, 47), (3, 0), (4, 0), (5, 0), (6, 48), (7, 0), (8, 50), (9, 0)]) (ks := [9]) (zs_seq (zs_istore (Γ2 := [(0, 3), (1, 10), (2, 47), (3, 0), (4, 0), (5, 0), (6, 48), (7, 0), (8, 50), (9, 0)]) (zx_iconst dL_law_535 rfl ⟨by decide, by decide⟩) dL_law_536 (Nat.le_of_ble_eq_true rfl) (by decide)) (zs_loop (Γ := [(0, 3), (1, 10), (2, 47), (3, 0), (4, 0), (5, 0), (6, 48), (7, 0), (8, 50), (9, 0)]) (zc_icmpN_lt (zx_iload dL_law_538 (by decide)) (zx_iload dL_law_540 (by decide)) dL_law_542 (by decide)) (zs_blk (Γ2 := [(0, 3), (1, 10), (2, 47), (3, 0), (4, 0), (5, 0), (6, 48), (7, 0), (8, 50), (9, 0)]) (Γ3 := [(0, 3), (1, 10), (2, 47), (3, 0), (4, 0), (5, 0), (6, 48), (7, 0), (8, 50), (9, 0), (10, 0)]) (ks := [10]) (zs_seq (zs_istore (Γ2 := [(0, 3), (1, 10), (2, 47), (3, 0), (4, 0), (5, 0), (6, 48), (7, 0), (8, 50), (9, 0), (10, 0)]) (zx_callS (za_cons (zx_ishr (zx_callS (za_cons (zx_sarg dL_law_545 rfl (by decide)) rfl (za_cons (zx_bipush dL_law_546 rfl ⟨by decide, by decide⟩) rfl (za_nil))) (k_L_cell hL2) ⟨znd_0, znd_0, Or.inr rfl⟩ (by decide) rfl (zGS zw_445 zw_446 zw_7 zw_447) rfl hyS_L_cell ⟨Nat.le_of_ble_eq_true rfl, Nat.le_of_ble_eq_true rfl⟩ (by decide) dL_law_548) (zx_imul (zx_bipush dL_law_551 rfl ⟨by decide, by decide⟩) (zx_iload dL_law_553 (by decide)) dL_law_555) dL_law_556) rfl (za_cons (zx_bipush dL_law_557 rfl ⟨by decide, by decide⟩) rfl (za_nil))) k_L_some zf_0 (by decide) rfl (zGS zw_449 zw_450 zw_7 zw_451) rfl hyS_L_some ⟨Nat.le_of_ble_eq_true rfl, Nat.le_of_ble_eq_true rfl⟩ (by decide) dL_law_559) dL_law_562 (Nat.le_of_ble_eq_true rfl) (by decide)) (zs_seq (zs_if (zc_icmpN_ne (zx_callV (za_cons (zx_this (o := 0) dL_law_564 rfl rfl (by decide) (by decide)) rfl (za_cons (zx_iconst dL_law_565 rfl ⟨by decide, by decide⟩) rfl (za_cons (zx_iadd (zx_iconst dL_law_566 rfl ⟨by decide, by decide⟩) (zx_iload dL_law_567 (by decide)) dL_law_569) rfl (za_cons (zx_iload dL_law_570 (by decide)) rfl (za_nil))))) k_X8_put zf_0 (by decide) (by decide) (by decide) rfl rfl (zGV zw_429 zw_430 zw_431 zw_8 zw_432) rfl hyV_X8_put ⟨Nat.le_of_ble_eq_true rfl, Nat.le_of_ble_eq_true rfl⟩ (by decide) dL_law_572) (zx_iconst dL_law_575 rfl ⟨by decide, by decide⟩) dL_law_576 (by decide)) (zs_ret (zx_bconst dL_law_579 rfl (Or.inl rfl)) rfl (by decide) dL_law_580) zs_skip) (zs_blk (Γ2 := [(0, 3), (1, 10), (2, 47), (3, 0), (4, 0), (5, 0), (6, 48), (7, 0), (8, 50), (9, 0), (10, 0)]) (Γ3 := [(0, 3), (1, 10), (2, 47), (3, 0), (4, 0), (5, 0), (6, 48), (7, 0), (8, 50), (9, 0), (10, 0), (11, 0)]) (ks := [11]) (zs_seq (zs_istore (Γ2 := [(0, 3), (1, 10), (2, 47), (3, 0), (4, 0), (5, 0), (6, 48), (7, 0), (8, 50), (9, 0), (10, 0), (11, 0)]) (zx_iconst dL_law_581 rfl ⟨by decide, by decide⟩) dL_law_582 (Nat.le_of_ble_eq_true rfl) (by decide)) (zs_loop (Γ := [(0, 3), (1, 10), (2, 47), (3, 0), (4, 0), (5, 0), (6, 48), (7, 0), (8, 50), (9, 0), (10, 0), (11, 0)]) (zc_icmpN_lt (zx_iload dL_law_584 (by decide)) (zx_iload dL_law_586 (by decide)) dL_law_588 (by decide)) (zs_blk (Γ2 := [(0, 3), (1, 10), (2, 47), (3, 0), (4, 0), (5, 0), (6, 48), (7, 0), (8, 50), (9, 0), (10, 0), (11, 0)]) (Γ3 := [(0, 3), (1, 10), (2, 47), (3, 0), (4, 0), (5, 0), (6, 48), (7, 0), (8, 50), (9, 0), (10, 0), (11, 0), (12, 0), (13, 0)]) (ks := [12, 13]) (zs_seq (zs_callS (za_cons (zx_this (o := 37) dL_law_591 rfl rfl (by decide) (by decide)) rfl (za_cons (zx_iload dL_law_592 (by decide)) rfl (za_cons (zx_iload dL_law_594 (by decide)) rfl (za_cons (zx_thisW (o := 38) dL_law_596 rfl (by decide) (by decide)) rfl (za_nil))))) k_L_hear_a ⟨(znd_c (List.mem_cons_of_mem _ (List.mem_cons_of_mem _ h37)) (znd_c (List.mem_cons_of_mem _ (List.mem_cons_self)) znd_0)), (znd_c (znm_c (by decide) (znm_c (by decide) a42)) znd_0), Or.inl rfl⟩ rfl (zGS zw_520 zw_521 zw_7 zw_522) rfl hyS_L_hear ⟨Nat.le_of_ble_eq_true rfl, Nat.le_of_ble_eq_true rfl⟩ dL_law_598) (zs_seq (zs_istore (Γ2 := [(0, 3), (1, 10), (2, 47), (3, 0), (4, 0), (5, 0), (6, 48), (7, 0), (8, 50), (9, 0), (10, 0), (11, 0), (12, 0)]) (zx_callS (za_cons (zx_this (o := 37) dL_law_601 rfl rfl (by decide) (by decide)) rfl (za_cons (zx_thisW (o := 38) dL_law_602 rfl (by decide) (by decide)) rfl (za_nil))) k_L_best_a ⟨(znd_c (List.mem_cons_of_mem _ (List.mem_cons_of_mem _ h37)) (znd_c (List.mem_cons_of_mem _ (List.mem_cons_self)) znd_0)), znd_0, Or.inl rfl⟩ (by decide) rfl (zGS zw_528 zw_529 zw_7 zw_530) rfl hyS_L_best ⟨Nat.le_of_ble_eq_true rfl, Nat.le_of_ble_eq_true rfl⟩ (by decide) dL_law_604) dL_law_607 (Nat.le_of_ble_eq_true rfl) (by decide)) (zs_seq (zs_istore (Γ2 := [(0, 3), (1, 10), (2, 47), (3, 0), (4, 0), (5, 0), (6, 48), (7, 0), (8, 50), (9, 0), (10, 0), (11, 0), (12, 0), (13, 0)]) (zx_iconst dL_law_609 rfl ⟨by decide, by decide⟩) dL_law_610 (Nat.le_of_ble_eq_true rfl) (by decide)) (zs_seq (zs_blk (Γ2 := [(0, 3), (1, 10), (2, 47), (3, 0), (4, 0), (5, 0), (6, 48), (7, 0), (8, 50), (9, 0), (10, 0), (11, 0), (12, 0), (13, 0)]) (Γ3 := [(0, 3), (1, 10), (2, 47), (3, 0), (4, 0), (5, 0), (6, 48), (7, 0), (8, 50), (9, 0), (10, 0), (11, 0), (12, 0), (13, 0), (14, 0)]) (ks := [14]) (zs_seq (zs_istore (Γ2 := [(0, 3), (1, 10), (2, 47), (3, 0), (4, 0), (5, 0), (6, 48), (7, 0), (8, 50), (9, 0), (10, 0), (11, 0), (12, 0), (13, 0), (14, 0)]) (zx_iconst dL_law_612 rfl ⟨by decide, by decide⟩) dL_law_613 (Nat.le_of_ble_eq_true rfl) (by decide)) (zs_loop (Γ := [(0, 3), (1, 10), (2, 47), (3, 0), (4, 0), (5, 0), (6, 48), (7, 0), (8, 50), (9, 0), (10, 0), (11, 0), (12, 0), (13, 0), (14, 0)]) (zc_icmpN_lt (zx_iload dL_law_615 (by decide)) (zx_iload dL_law_617 (by decide)) dL_law_619 (by decide)) (zs_istore (Γ2 := [(0, 3), (1, 10), (2, 47), (3, 0), (4, 0), (5, 0), (6, 48), (7, 0), (8, 50), (9, 0), (10, 0), (11, 0), (12, 0), (13, 0), (14, 0)]) (zx_iadd (zx_iload dL_law_622 (by decide)) (zx_iand (zx_ishr (zx_iload dL_law_624 (by decide)) (zx_iload dL_law_626 (by decide)) dL_law_628) (zx_iconst dL_law_629 rfl ⟨by decide, by decide⟩) dL_law_630) dL_law_631) dL_law_632 (Nat.le_of_ble_eq_true rfl) (by decide)) (zs_goto (zs_iinc (Γ2 := [(0, 3), (1, 10), (2, 47), (3, 0), (4, 0), (5, 0), (6, 48), (7, 0), (8, 50), (9, 0), (10, 0), (11, 0), (12, 0), (13, 0), (14, 0)]) dL_law_634 (by decide) (Nat.le_of_ble_eq_true rfl) (by decide)) dL_law_637 (by decide)))) (by decide) (by decide) (zY_ok (by decide))) (zs_blk (Γ2 := [(0, 3), (1, 10), (2, 47), (3, 0), (4, 0), (5, 0), (6, 48), (7, 0), (8, 50), (9, 0), (10, 0), (11, 0), (12, 0), (13, 0)]) (Γ3 := [(0, 3), (1, 10), (2, 47), (3, 0), (4, 0), (5, 0), (6, 48), (7, 0), (8, 50), (9, 0), (10, 0), (11, 0), (12, 0), (13, 0), (14, 0)]) (ks := [14]) (zs_seq (zs_istore (Γ2 := [(0, 3), (1, 10), (2, 47), (3, 0), (4, 0), (5, 0), (6, 48), (7, 0), (8, 50), (9, 0), (10, 0), (11, 0), (12, 0), (13, 0), (14, 0)]) (zx_iconst dL_law_640 rfl ⟨by decide, by decide⟩) dL_law_641 (Nat.le_of_ble_eq_true rfl) (by decide)) (zs_loop (Γ := [(0, 3), (1, 10), (2, 47), (3, 0), (4, 0), (5, 0), (6, 48), (7, 0), (8, 50), (9, 0), (10, 0), (11, 0), (12, 0), (13, 0), (14, 0)]) (zc_icmpN_lt (zx_iload dL_law_643 (by decide)) (zx_iload dL_law_645 (by decide)) dL_law_647 (by decide)) (zs_lastO (o := 40) (zx_thisW (o := 40) dL_law_650 rfl (by decide) (by decide)) (zx_iload dL_law_652 (by decide)) dL_law_654 dL_law_655 (zx_ite (zc_icmpN_eq (zx_iand (zx_ishr (zx_iload dL_law_656 (by decide)) (zx_iload dL_law_658 (by decide)) dL_law_660) (zx_iconst dL_law_661 rfl ⟨by decide, by decide⟩) dL_law_662) (zx_iconst dL_law_663 rfl ⟨by decide, by decide⟩) dL_law_664 (by decide)) (zx_i2l (zx_idiv (zx_imul (zx_isub (zx_bipush dL_law_667 rfl ⟨by decide, by decide⟩) (zx_ialdS (o := 37) (zx_this (o := 37) dL_law_669 rfl rfl (by decide) (by decide)) (zx_iadd (zx_iconst dL_law_670 rfl ⟨by decide, by decide⟩) (zx_iload dL_law_671 (by decide)) dL_law_673) (zp_b (by decide) (List.mem_cons_of_mem _ (List.mem_cons_of_mem _ h37))) rfl rfl dL_law_674) dL_law_675) (zx_bipush dL_law_676 rfl ⟨by decide, by decide⟩) dL_law_678) (zx_iload dL_law_679 (by decide)) dL_law_681) dL_law_682) dL_law_683 (by decide) (zx_lconst dL_law_686 rfl ⟨by decide, by decide⟩)) (zo_ladd dL_law_687) (zp_b (by decide) List.mem_cons_self) rfl rfl dL_law_688) (zs_goto (zs_iinc (Γ2 := [(0, 3), (1, 10), (2, 47), (3, 0), (4, 0), (5, 0), (6, 48), (7, 0), (8, 50), (9, 0), (10, 0), (11, 0), (12, 0), (13, 0), (14, 0)]) dL_law_689 (by decide) (Nat.le_of_ble_eq_true rfl) (by decide)) dL_law_692 (by decide)))) (by decide) (by decide) (zY_ok (by decide))))))) (by decide) (by decide) (zY_ok (by decide))) (zs_goto (zs_iinc (Γ2 := [(0, 3), (1, 10), (2, 47), (3, 0), (4, 0), (5, 0), (6, 48), (7, 0), (8, 50), (9, 0), (10, 0), (11, 0)]) dL_law_695 (by decide) (Nat.le_of_ble_eq_true rfl) (by decide)) dL_law_698 (by decide)))) (by decide) (by decide) (zY_ok (by decide))))) (by decide) (by decide) (zY_ok (by decide))) (zs_goto (zs_iinc (Γ2 := [(0, 3), (1, 10), (2, 47), (3, 0), (4, 0), (5, 0), (6, 48), (7, 0), (8, 50), (9, 0)]) dL_law_701 (by decide) (Nat.le_of_ble_eq_true rfl) (by decide)) dL_law_704 (by decide)))) (by decide) (by decide) zX0_ok) (zs_seq (zs_blk (Γ2 := [(0, 3), (1, 10), (2, 47), (3, 0), (4, 0), (5, 0), (6, 48), (7, 0), (8, 50)]) (Γ3 := [(0, 3), (1, 10), (2, 47), (3, 0), (4, 0), (5, 0), (6, 48), (7, 0), (8, 50), (9, 0)]) (ks := [9]) (zs_seq (zs_istore (Γ2 := [(0, 3), (1, 10), (2, 47), (3, 0), (4, 0), (5, 0), (6, 48), (7, 0), (8, 50), (9, 0)]) (zx_iconst dL_law_707 rfl ⟨by decide, by decide⟩) dL_law_708 (Nat.le_of_ble_eq_true rfl) (by decide)) (zs_loop (Γ := [(0, 3), (1, 10), (2, 47), (3, 0), (4, 0), (5, 0), (6, 48), (7, 0), (8, 50), (9, 0)]) (zc_icmpN_lt (zx_iload dL_law_710 (by decide)) (zx_iload dL_law_712 (by decide)) dL_law_714 (by decide)) (zs_if (zc_not (zc_b (zx_sub (zx_callS (za_cons (zx_laldS (o := 40) (zx_thisW (o := 40) dL_law_717 rfl (by decide) (by decide)) (zx_iload dL_law_719 (by decide)) (zp_b (by decide) List.mem_cons_self) rfl rfl dL_law_721) rfl (za_cons (zx_ldc2 dL_law_722 (List.mem_cons_of_mem _ zw_537) rfl ⟨by decide, by decide⟩) rfl (za_cons (zx_callV (za_cons (zx_this (o := 0) dL_law_725 rfl rfl (by decide) (by decide)) rfl (za_cons (zx_iload dL_law_726 (by decide)) rfl (za_cons (zx_iconst dL_law_728 rfl ⟨by decide, by decide⟩) rfl (za_cons (zx_iconst dL_law_729 rfl ⟨by decide, by decide⟩) rfl (za_cons (zx_iconst dL_law_730 rfl ⟨by decide, by decide⟩) rfl (za_cons (zx_iload dL_law_731 (by decide)) rfl (za_cons (zx_iconst dL_law_733 rfl ⟨by decide, by decide⟩) rfl (za_nil)))))))) k_X8_tithes zf_0 (by decide) (by decide) (by decide) rfl rfl (zGV zw_377 zw_378 zw_379 zw_8 zw_380) rfl hyV_X8_tithes ⟨Nat.le_of_ble_eq_true rfl, Nat.le_of_ble_eq_true rfl⟩ (by decide) dL_law_734) rfl (za_cons (zx_callV (za_cons (zx_this (o := 0) dL_law_737 rfl rfl (by decide) (by decide)) rfl (za_cons (zx_iload dL_law_738 (by decide)) rfl (za_cons (zx_iconst dL_law_740 rfl ⟨by decide, by decide⟩) rfl (za_cons (zx_iconst dL_law_741 rfl ⟨by decide, by decide⟩) rfl (za_cons (zx_iconst dL_law_742 rfl ⟨by decide, by decide⟩) rfl (za_cons (zx_iload dL_law_743 (by decide)) rfl (za_cons (zx_iconst dL_law_745 rfl ⟨by decide, by decide⟩) rfl (za_nil)))))))) k_X8_tithes zf_0 (by decide) (by decide) (by decide) rfl rfl (zGV zw_377 zw_378 zw_379 zw_8 zw_380) rfl hyV_X8_tithes ⟨Nat.le_of_ble_eq_true rfl, Nat.le_of_ble_eq_true rfl⟩ (by decide) dL_law_746) rfl (za_nil))))) k_L_isAlike zf_0 (by decide) rfl (zGS zw_534 zw_535 zw_7 zw_536) rfl hyS_L_isAlike ⟨Nat.le_of_ble_eq_true rfl, Nat.le_of_ble_eq_true rfl⟩ (by decide) dL_law_749)) dL_law_752 (by decide))) (zs_ret (zx_bconst dL_law_755 rfl (Or.inl rfl)) rfl (by decide) dL_law_756) zs_skip) (zs_goto (zs_iinc (Γ2 := [(0, 3), (1, 10), (2, 47), (3, 0), (4, 0), (5, 0), (6, 48), (7, 0), (8, 50), (9, 0)]) dL_law_757 (by decide) (Nat.le_of_ble_eq_true rfl) (by decide)) dL_law_760 (by decide)))) (by decide) (by decide) zX0_ok) (zs_ret (zx_z (zc_and (zc_and (zc_and (zc_and (zc_and (zc_and (zc_and (zc_and (zc_and (zc_and (zc_and (zc_and (zc_and (zc_and (zc_and (zc_and (zc_and (zc_and (zc_and (zc_and (zc_and (zc_and (zc_and (zc_and (zc_lcmpN_eq (zx_callV (za_cons (zx_this (o := 0) dL_law_763 rfl rfl (by decide) (by decide)) rfl (za_cons (zx_iload dL_law_764 (by decide)) rfl (za_cons (zx_iconst dL_law_766 rfl ⟨by decide, by decide⟩) rfl (za_cons (zx_iconst dL_law_767 rfl ⟨by decide, by decide⟩) rfl (za_cons (zx_iconst dL_law_768 rfl ⟨by decide, by decide⟩) rfl (za_nil)))))) k_X8_loud zf_0 (by decide) (by decide) (by decide) rfl rfl (zGV zw_310 zw_311 zw_312 zw_8 zw_313) rfl hyV_X8_loud ⟨Nat.le_of_ble_eq_true rfl, Nat.le_of_ble_eq_true rfl⟩ (by decide) dL_law_769) (zx_ldc2 dL_law_772 (List.mem_cons_of_mem _ zw_538) rfl ⟨by decide, by decide⟩) dL_law_775 dL_law_776 (by decide)) (zc_lcmpN_eq (zx_callV (za_cons (zx_this (o := 0) dL_law_779 rfl rfl (by decide) (by decide)) rfl (za_cons (zx_iconst dL_law_780 rfl ⟨by decide, by decide⟩) rfl (za_cons (zx_iload dL_law_781 (by decide)) rfl (za_cons (zx_iconst dL_law_783 rfl ⟨by decide, by decide⟩) rfl (za_cons (zx_iconst dL_law_784 rfl ⟨by decide, by decide⟩) rfl (za_nil)))))) k_X8_loud zf_0 (by decide) (by decide) (by decide) rfl rfl (zGV zw_310 zw_311 zw_312 zw_8 zw_313) rfl hyV_X8_loud ⟨Nat.le_of_ble_eq_true rfl, Nat.le_of_ble_eq_true rfl⟩ (by decide) dL_law_785) (zx_ldc2 dL_law_788 (List.mem_cons_of_mem _ zw_538) rfl ⟨by decide, by decide⟩) dL_law_791 dL_law_792 (by decide))) (zc_lcmpN_eq (zx_callV (za_cons (zx_this (o := 0) dL_law_795 rfl rfl (by decide) (by decide)) rfl (za_cons (zx_iconst dL_law_796 rfl ⟨by decide, by decide⟩) rfl (za_cons (zx_iconst dL_law_797 rfl ⟨by decide, by decide⟩) rfl (za_cons (zx_bipush dL_law_798 rfl ⟨by decide, by decide⟩) rfl (za_cons (zx_iconst dL_law_800 rfl ⟨by decide, by decide⟩) rfl (za_nil)))))) k_X8_loud zf_0 (by decide) (by decide) (by decide) rfl rfl (zGV zw_310 zw_311 zw_312 zw_8 zw_313) rfl hyV_X8_loud ⟨Nat.le_of_ble_eq_true rfl, Nat.le_of_ble_eq_true rfl⟩ (by decide) dL_law_801) (zx_ldc2 dL_law_804 (List.mem_cons_of_mem _ zw_538) rfl ⟨by decide, by decide⟩) dL_law_807 dL_law_808 (by decide))) (zc_lcmpN_eq (zx_callV (za_cons (zx_this (o := 0) dL_law_811 rfl rfl (by decide) (by decide)) rfl (za_cons (zx_iconst dL_law_812 rfl ⟨by decide, by decide⟩) rfl (za_cons (zx_iconst dL_law_813 rfl ⟨by decide, by decide⟩) rfl (za_cons (zx_iconst dL_law_814 rfl ⟨by decide, by decide⟩) rfl (za_cons (zx_iconst dL_law_815 rfl ⟨by decide, by decide⟩) rfl (za_nil)))))) k_X8_loud zf_0 (by decide) (by decide) (by decide) rfl rfl (zGV zw_310 zw_311 zw_312 zw_8 zw_313) rfl hyV_X8_loud ⟨Nat.le_of_ble_eq_true rfl, Nat.le_of_ble_eq_true rfl⟩ (by decide) dL_law_816) (zx_ldc2 dL_law_819 (List.mem_cons_of_mem _ zw_538) rfl ⟨by decide, by decide⟩) dL_law_822 dL_law_823 (by decide))) (zc_icmpN_eq (zx_callV (za_cons (zx_this (o := 0) dL_law_826 rfl rfl (by decide) (by decide)) rfl (za_cons (zx_iload dL_law_827 (by decide)) rfl (za_cons (zx_iconst dL_law_829 rfl ⟨by decide, by decide⟩) rfl (za_nil)))) k_X8_whose zf_0 (by decide) (by decide) (by decide) rfl rfl (zGV zw_355 zw_356 zw_357 zw_8 zw_358) rfl hyV_X8_whose ⟨Nat.le_of_ble_eq_true rfl, Nat.le_of_ble_eq_true rfl⟩ (by decide) dL_law_830) (zx_iconst dL_law_833 rfl ⟨by decide, by decide⟩) dL_law_834 (by decide))) (zc_icmpN_eq (zx_callV (za_cons (zx_this (o := 0) dL_law_837 rfl rfl (by decide) (by decide)) rfl (za_cons (zx_iconst dL_law_838 rfl ⟨by decide, by decide⟩) rfl (za_cons (zx_bipush dL_law_839 rfl ⟨by decide, by decide⟩) rfl (za_nil)))) k_X8_whose zf_0 (by decide) (by decide) (by decide) rfl rfl (zGV zw_355 zw_356 zw_357 zw_8 zw_358) rfl hyV_X8_whose ⟨Nat.le_of_ble_eq_true rfl, Nat.le_of_ble_eq_true rfl⟩ (by decide) dL_law_841) (zx_bipush dL_law_844 rfl ⟨by decide, by decide⟩) dL_law_846 (by decide))) (zc_icmpN_eq (zx_callV (za_cons (zx_this (o := 0) dL_law_849 rfl rfl (by decide) (by decide)) rfl (za_cons (zx_iload dL_law_850 (by decide)) rfl (za_cons (zx_iconst dL_law_852 rfl ⟨by decide, by decide⟩) rfl (za_nil)))) k_X8_reach zf_0 (by decide) (by decide) (by decide) rfl rfl (zGV zw_373 zw_374 zw_375 zw_8 zw_376) rfl hyV_X8_reach ⟨Nat.le_of_ble_eq_true rfl, Nat.le_of_ble_eq_true rfl⟩ (by decide) dL_law_853) (zx_iconst dL_law_856 rfl ⟨by decide, by decide⟩) dL_law_857 (by decide))) (zc_icmpN_eq (zx_callV (za_cons (zx_this (o := 0) dL_law_860 rfl rfl (by decide) (by decide)) rfl (za_cons (zx_iconst dL_law_861 rfl ⟨by decide, by decide⟩) rfl (za_cons (zx_iconst dL_law_862 rfl ⟨by decide, by decide⟩) rfl (za_nil)))) k_X8_reach zf_0 (by decide) (by decide) (by decide) rfl rfl (zGV zw_373 zw_374 zw_375 zw_8 zw_376) rfl hyV_X8_reach ⟨Nat.le_of_ble_eq_true rfl, Nat.le_of_ble_eq_true rfl⟩ (by decide) dL_law_863) (zx_bipush dL_law_866 rfl ⟨by decide, by decide⟩) dL_law_868 (by decide))) (zc_icmpN_eq (zx_callV (za_cons (zx_this (o := 0) dL_law_871 rfl rfl (by decide) (by decide)) rfl (za_cons (zx_iload dL_law_872 (by decide)) rfl (za_cons (zx_iconst dL_law_874 rfl ⟨by decide, by decide⟩) rfl (za_cons (zx_iconst dL_law_875 rfl ⟨by decide, by decide⟩) rfl (za_nil))))) k_X8_wins zf_0 (by decide) (by decide) (by decide) rfl rfl (zGV zw_396 zw_397 zw_398 zw_8 zw_399) rfl hyV_X8_wins ⟨Nat.le_of_ble_eq_true rfl, Nat.le_of_ble_eq_true rfl⟩ (by decide) dL_law_876) (zx_iconst dL_law_879 rfl ⟨by decide, by decide⟩) dL_law_880 (by decide))) (zc_icmpN_eq (zx_callV (za_cons (zx_this (o := 0) dL_law_883 rfl rfl (by decide) (by decide)) rfl (za_cons (zx_iconst dL_law_884 rfl ⟨by decide, by decide⟩) rfl (za_cons (zx_iload dL_law_885 (by decide)) rfl (za_cons (zx_iconst dL_law_887 rfl ⟨by decide, by decide⟩) rfl (za_nil))))) k_X8_wins zf_0 (by decide) (by decide) (by decide) rfl rfl (zGV zw_396 zw_397 zw_398 zw_8 zw_399) rfl hyV_X8_wins ⟨Nat.le_of_ble_eq_true rfl, Nat.le_of_ble_eq_true rfl⟩ (by decide) dL_law_888) (zx_iconst dL_law_891 rfl ⟨by decide, by decide⟩) dL_law_892 (by decide))) (zc_icmpN_eq (zx_callV (za_cons (zx_this (o := 0) dL_law_895 rfl rfl (by decide) (by decide)) rfl (za_cons (zx_iconst dL_law_896 rfl ⟨by decide, by decide⟩) rfl (za_cons (zx_iconst dL_law_897 rfl ⟨by decide, by decide⟩) rfl (za_cons (zx_bipush dL_law_898 rfl ⟨by decide, by decide⟩) rfl (za_nil))))) k_X8_wins zf_0 (by decide) (by decide) (by decide) rfl rfl (zGV zw_396 zw_397 zw_398 zw_8 zw_399) rfl hyV_X8_wins ⟨Nat.le_of_ble_eq_true rfl, Nat.le_of_ble_eq_true rfl⟩ (by decide) dL_law_900) (zx_bipush dL_law_903 rfl ⟨by decide, by decide⟩) dL_law_905 (by decide))) (zc_icmpN_eq (zx_callV (za_cons (zx_this (o := 0) dL_law_908 rfl rfl (by decide) (by decide)) rfl (za_cons (zx_iload dL_law_909 (by decide)) rfl (za_cons (zx_iconst dL_law_911 rfl ⟨by decide, by decide⟩) rfl (za_cons (zx_iconst dL_law_912 rfl ⟨by decide, by decide⟩) rfl (za_nil))))) k_X8_cheapest zf_0 (by decide) (by decide) (by decide) rfl rfl (zGV zw_409 zw_410 zw_411 zw_8 zw_412) rfl hyV_X8_cheapest ⟨Nat.le_of_ble_eq_true rfl, Nat.le_of_ble_eq_true rfl⟩ (by decide) dL_law_913) (zx_iconst dL_law_916 rfl ⟨by decide, by decide⟩) dL_law_917 (by decide))) (zc_icmpN_eq (zx_callV (za_cons (zx_this (o := 0) dL_law_920 rfl rfl (by decide) (by decide)) rfl (za_cons (zx_iconst dL_law_921 rfl ⟨by decide, by decide⟩) rfl (za_cons (zx_bipush dL_law_922 rfl ⟨by decide, by decide⟩) rfl (za_cons (zx_iconst dL_law_924 rfl ⟨by decide, by decide⟩) rfl (za_nil))))) k_X8_cheapest zf_0 (by decide) (by decide) (by decide) rfl rfl (zGV zw_409 zw_410 zw_411 zw_8 zw_412) rfl hyV_X8_cheapest ⟨Nat.le_of_ble_eq_true rfl, Nat.le_of_ble_eq_true rfl⟩ (by decide) dL_law_925) (zx_bipush dL_law_928 rfl ⟨by decide, by decide⟩) dL_law_930 (by decide))) (zc_icmpN_eq (zx_callV (za_cons (zx_this (o := 0) dL_law_933 rfl rfl (by decide) (by decide)) rfl (za_cons (zx_iconst dL_law_934 rfl ⟨by decide, by decide⟩) rfl (za_cons (zx_iconst dL_law_935 rfl ⟨by decide, by decide⟩) rfl (za_cons (zx_iconst dL_law_936 rfl ⟨by decide, by decide⟩) rfl (za_nil))))) k_X8_cheapest zf_0 (by decide) (by decide) (by decide) rfl rfl (zGV zw_409 zw_410 zw_411 zw_8 zw_412) rfl hyV_X8_cheapest ⟨Nat.le_of_ble_eq_true rfl, Nat.le_of_ble_eq_true rfl⟩ (by decide) dL_law_937) (zx_bipush dL_law_940 rfl ⟨by decide, by decide⟩) dL_law_942 (by decide))) (zc_icmpN_eq (zx_callV (za_cons (zx_this (o := 0) dL_law_945 rfl rfl (by decide) (by decide)) rfl (za_cons (zx_iconst dL_law_946 rfl ⟨by decide, by decide⟩) rfl (za_cons (zx_iconst dL_law_947 rfl ⟨by decide, by decide⟩) rfl (za_cons (zx_bipush dL_law_948 rfl ⟨by decide, by decide⟩) rfl (za_nil))))) k_X8_put zf_0 (by decide) (by decide) (by decide) rfl rfl (zGV zw_429 zw_430 zw_431 zw_8 zw_432) rfl hyV_X8_put ⟨Nat.le_of_ble_eq_true rfl, Nat.le_of_ble_eq_true rfl⟩ (by decide) dL_law_950) (zx_iconst dL_law_953 rfl ⟨by decide, by decide⟩) dL_law_954 (by decide))) (zc_lcmpN_eq (zx_callV (za_cons (zx_this (o := 0) dL_law_957 rfl rfl (by decide) (by decide)) rfl (za_cons (zx_iconst dL_law_958 rfl ⟨by decide, by decide⟩) rfl (za_cons (zx_iconst dL_law_959 rfl ⟨by decide, by decide⟩) rfl (za_cons (zx_iconst dL_law_960 rfl ⟨by decide, by decide⟩) rfl (za_cons (zx_iconst dL_law_961 rfl ⟨by decide, by decide⟩) rfl (za_cons (zx_iconst dL_law_962 rfl ⟨by decide, by decide⟩) rfl (za_cons (zx_iconst dL_law_963 rfl ⟨by decide, by decide⟩) rfl (za_nil)))))))) k_X8_tithes zf_0 (by decide) (by decide) (by decide) rfl rfl (zGV zw_377 zw_378 zw_379 zw_8 zw_380) rfl hyV_X8_tithes ⟨Nat.le_of_ble_eq_true rfl, Nat.le_of_ble_eq_true rfl⟩ (by decide) dL_law_964) (zx_ldc2 dL_law_967 (List.mem_cons_of_mem _ zw_538) rfl ⟨by decide, by decide⟩) dL_law_970 dL_law_971 (by decide))) (zc_ifN_eq (zx_callV (za_cons (zx_this (o := 0) dL_law_974 rfl rfl (by decide) (by decide)) rfl (za_nil)) k_X8_fault zf_0 (by decide) (by decide) (by decide) rfl rfl (zGV zw_441 zw_442 zw_443 zw_8 zw_444) rfl hyV_X8_fault ⟨Nat.le_of_ble_eq_true rfl, Nat.le_of_ble_eq_true rfl⟩ (by decide) dL_law_975) dL_law_978 (by decide))) (zc_lcmpN_eq (zx_callV (za_cons (zx_this (o := 0) dL_law_981 rfl rfl (by decide) (by decide)) rfl (za_cons (zx_iconst dL_law_982 rfl ⟨by decide, by decide⟩) rfl (za_cons (zx_iconst dL_law_983 rfl ⟨by decide, by decide⟩) rfl (za_cons (zx_iconst dL_law_984 rfl ⟨by decide, by decide⟩) rfl (za_cons (zx_iconst dL_law_985 rfl ⟨by decide, by decide⟩) rfl (za_cons (zx_bipush dL_law_986 rfl ⟨by decide, by decide⟩) rfl (za_cons (zx_iconst dL_law_988 rfl ⟨by decide, by decide⟩) rfl (za_nil)))))))) k_X8_tithes zf_0 (by decide) (by decide) (by decide) rfl rfl (zGV zw_377 zw_378 zw_379 zw_8 zw_380) rfl hyV_X8_tithes ⟨Nat.le_of_ble_eq_true rfl, Nat.le_of_ble_eq_true rfl⟩ (by decide) dL_law_989) (zx_ldc2 dL_law_992 (List.mem_cons_of_mem _ zw_538) rfl ⟨by decide, by decide⟩) dL_law_995 dL_law_996 (by decide))) (zc_icmpN_eq (zx_callV (za_cons (zx_this (o := 0) dL_law_999 rfl rfl (by decide) (by decide)) rfl (za_nil)) k_X8_fault zf_0 (by decide) (by decide) (by decide) rfl rfl (zGV zw_441 zw_442 zw_443 zw_8 zw_444) rfl hyV_X8_fault ⟨Nat.le_of_ble_eq_true rfl, Nat.le_of_ble_eq_true rfl⟩ (by decide) dL_law_1000) (zx_iconst dL_law_1003 rfl ⟨by decide, by decide⟩) dL_law_1004 (by decide))) (zc_lcmpN_eq (zx_callV (za_cons (zx_this (o := 0) dL_law_1007 rfl rfl (by decide) (by decide)) rfl (za_cons (zx_iconst dL_law_1008 rfl ⟨by decide, by decide⟩) rfl (za_cons (zx_iconst dL_law_1009 rfl ⟨by decide, by decide⟩) rfl (za_cons (zx_iconst dL_law_1010 rfl ⟨by decide, by decide⟩) rfl (za_cons (zx_iconst dL_law_1011 rfl ⟨by decide, by decide⟩) rfl (za_cons (zx_iconst dL_law_1012 rfl ⟨by decide, by decide⟩) rfl (za_cons (zx_iconst dL_law_1013 rfl ⟨by decide, by decide⟩) rfl (za_nil)))))))) k_X8_tithes zf_0 (by decide) (by decide) (by decide) rfl rfl (zGV zw_377 zw_378 zw_379 zw_8 zw_380) rfl hyV_X8_tithes ⟨Nat.le_of_ble_eq_true rfl, Nat.le_of_ble_eq_true rfl⟩ (by decide) dL_law_1014) (zx_ldc2 dL_law_1017 (List.mem_cons_of_mem _ zw_538) rfl ⟨by decide, by decide⟩) dL_law_1020 dL_law_1021 (by decide))) (zc_icmpN_eq (zx_callV (za_cons (zx_this (o := 0) dL_law_1024 rfl rfl (by decide) (by decide)) rfl (za_nil)) k_X8_fault zf_0 (by decide) (by decide) (by decide) rfl rfl (zGV zw_441 zw_442 zw_443 zw_8 zw_444) rfl hyV_X8_fault ⟨Nat.le_of_ble_eq_true rfl, Nat.le_of_ble_eq_true rfl⟩ (by decide) dL_law_1025) (zx_iconst dL_law_1028 rfl ⟨by decide, by decide⟩) dL_law_1029 (by decide))) (zc_lcmpN_eq (zx_callV (za_cons (zx_this (o := 0) dL_law_1032 rfl rfl (by decide) (by decide)) rfl (za_cons (zx_iconst dL_law_1033 rfl ⟨by decide, by decide⟩) rfl (za_cons (zx_iconst dL_law_1034 rfl ⟨by decide, by decide⟩) rfl (za_cons (zx_iconst dL_law_1035 rfl ⟨by decide, by decide⟩) rfl (za_cons (zx_iconst dL_law_1036 rfl ⟨by decide, by decide⟩) rfl (za_cons (zx_iconst dL_law_1037 rfl ⟨by decide, by decide⟩) rfl (za_cons (zx_iconst dL_law_1038 rfl ⟨by decide, by decide⟩) rfl (za_nil)))))))) k_X8_tithes zf_0 (by decide) (by decide) (by decide) rfl rfl (zGV zw_377 zw_378 zw_379 zw_8 zw_380) rfl hyV_X8_tithes ⟨Nat.le_of_ble_eq_true rfl, Nat.le_of_ble_eq_true rfl⟩ (by decide) dL_law_1039) (zx_ldc2 dL_law_1042 (List.mem_cons_of_mem _ zw_538) rfl ⟨by decide, by decide⟩) dL_law_1045 dL_law_1046 (by decide))) (zc_icmpN_eq (zx_callV (za_cons (zx_this (o := 0) dL_law_1049 rfl rfl (by decide) (by decide)) rfl (za_nil)) k_X8_fault zf_0 (by decide) (by decide) (by decide) rfl rfl (zGV zw_441 zw_442 zw_443 zw_8 zw_444) rfl hyV_X8_fault ⟨Nat.le_of_ble_eq_true rfl, Nat.le_of_ble_eq_true rfl⟩ (by decide) dL_law_1050) (zx_iconst dL_law_1053 rfl ⟨by decide, by decide⟩) dL_law_1054 (by decide))) (zc_lcmpN_eq (zx_callV (za_cons (zx_this (o := 0) dL_law_1057 rfl rfl (by decide) (by decide)) rfl (za_cons (zx_iload dL_law_1058 (by decide)) rfl (za_cons (zx_iconst dL_law_1060 rfl ⟨by decide, by decide⟩) rfl (za_cons (zx_iconst dL_law_1061 rfl ⟨by decide, by decide⟩) rfl (za_cons (zx_iconst dL_law_1062 rfl ⟨by decide, by decide⟩) rfl (za_cons (zx_iconst dL_law_1063 rfl ⟨by decide, by decide⟩) rfl (za_cons (zx_iconst dL_law_1064 rfl ⟨by decide, by decide⟩) rfl (za_nil)))))))) k_X8_tithes zf_0 (by decide) (by decide) (by decide) rfl rfl (zGV zw_377 zw_378 zw_379 zw_8 zw_380) rfl hyV_X8_tithes ⟨Nat.le_of_ble_eq_true rfl, Nat.le_of_ble_eq_true rfl⟩ (by decide) dL_law_1065) (zx_ldc2 dL_law_1068 (List.mem_cons_of_mem _ zw_538) rfl ⟨by decide, by decide⟩) dL_law_1071 dL_law_1072 (by decide))) (zc_ifN_eq (zx_callV (za_cons (zx_this (o := 0) dL_law_1075 rfl rfl (by decide) (by decide)) rfl (za_nil)) k_X8_fault zf_0 (by decide) (by decide) (by decide) rfl rfl (zGV zw_441 zw_442 zw_443 zw_8 zw_444) rfl hyV_X8_fault ⟨Nat.le_of_ble_eq_true rfl, Nat.le_of_ble_eq_true rfl⟩ (by decide) dL_law_1076) dL_law_1079 (by decide))) dL_law_1082 dL_law_1083 (by decide) dL_law_1086 rfl) rfl (by decide) dL_law_1087))) (by decide))))) (by decide)))))
end
