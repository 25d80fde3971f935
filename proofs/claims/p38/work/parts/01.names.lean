-- ===== PART A: goes FIRST, ahead of the names: the tables' words, and 'selects' of the private methods out of them =====
/-- a private method of a class that the tables say can be made, by its rows of tables_1 -/
def lw_okq (q : MethodName × Nat) : Prop := (q.1.cls ≠ "java/lang/invoke/MethodHandle" ∧ q.1.cls ≠ "java/lang/invoke/VarHandle") ∧ Cond.instantiable q.1.cls q.2 ∈ tables_1 ∧ Cond.privateMethod q.1 ∈ tables_1 ∧ Cond.instanceMethod q.1 ∈ tables_1
theorem lw_p0 : lw_okq (⟨"BellLand", "isBell", "(I)Z"⟩, 10) := ⟨⟨by decide +kernel, by decide +kernel⟩, List.mem_of_getElem? (i := 14) (by decide +kernel), List.mem_of_getElem? (i := 300) (by decide +kernel), List.mem_of_getElem? (i := 301) (by decide +kernel)⟩
theorem lw_p1 : lw_okq (⟨"BellLand", "isCell", "(I)Z"⟩, 10) := ⟨⟨by decide +kernel, by decide +kernel⟩, List.mem_of_getElem? (i := 14) (by decide +kernel), List.mem_of_getElem? (i := 308) (by decide +kernel), List.mem_of_getElem? (i := 309) (by decide +kernel)⟩
theorem lw_p2 : lw_okq (⟨"BellLand$Air", "blown", "(JIII)J"⟩, 7) := ⟨⟨by decide +kernel, by decide +kernel⟩, List.mem_of_getElem? (i := 85) (by decide +kernel), List.mem_of_getElem? (i := 323) (by decide +kernel), List.mem_of_getElem? (i := 324) (by decide +kernel)⟩
theorem lw_p3 : lw_okq (⟨"BellLand", "partsOfTithe", "(I)I"⟩, 10) := ⟨⟨by decide +kernel, by decide +kernel⟩, List.mem_of_getElem? (i := 14) (by decide +kernel), List.mem_of_getElem? (i := 375) (by decide +kernel), List.mem_of_getElem? (i := 376) (by decide +kernel)⟩
theorem lw_p4 : lw_okq (⟨"BellLand$Air", "bar", "([IIII)J"⟩, 7) := ⟨⟨by decide +kernel, by decide +kernel⟩, List.mem_of_getElem? (i := 85) (by decide +kernel), List.mem_of_getElem? (i := 398) (by decide +kernel), List.mem_of_getElem? (i := 399) (by decide +kernel)⟩
theorem lw_p5 : lw_okq (⟨"BellLand", "faulty", "(I)I"⟩, 10) := ⟨⟨by decide +kernel, by decide +kernel⟩, List.mem_of_getElem? (i := 14) (by decide +kernel), List.mem_of_getElem? (i := 414) (by decide +kernel), List.mem_of_getElem? (i := 415) (by decide +kernel)⟩
theorem lw_p6 : lw_okq (⟨"BellLand$Air", "calmUnit", "(III)J"⟩, 7) := ⟨⟨by decide +kernel, by decide +kernel⟩, List.mem_of_getElem? (i := 85) (by decide +kernel), List.mem_of_getElem? (i := 471) (by decide +kernel), List.mem_of_getElem? (i := 472) (by decide +kernel)⟩
def lw_privs_1 : List (MethodName × Nat) := [(⟨"BellLand", "isBell", "(I)Z"⟩, 10), (⟨"BellLand", "isCell", "(I)Z"⟩, 10), (⟨"BellLand$Air", "blown", "(JIII)J"⟩, 7), (⟨"BellLand", "partsOfTithe", "(I)I"⟩, 10), (⟨"BellLand$Air", "bar", "([IIII)J"⟩, 7), (⟨"BellLand", "faulty", "(I)I"⟩, 10), (⟨"BellLand$Air", "calmUnit", "(III)J"⟩, 7)]
theorem lw_r1 : ∀ q ∈ lw_privs_1, lw_okq q := List.forall_mem_cons.mpr ⟨lw_p0, List.forall_mem_cons.mpr ⟨lw_p1, List.forall_mem_cons.mpr ⟨lw_p2, List.forall_mem_cons.mpr ⟨lw_p3, List.forall_mem_cons.mpr ⟨lw_p4, List.forall_mem_cons.mpr ⟨lw_p5, List.forall_mem_cons.mpr ⟨lw_p6, fun _ h => absurd h List.not_mem_nil⟩⟩⟩⟩⟩⟩⟩
def lw_privs : List (MethodName × Nat) := lw_privs_1
def lw_tbl : List Cond := k2_sels lw_privs ++ tables_1
theorem lw_privs_ok : ∀ q ∈ lw_privs, lw_okq q := lw_r1
-- ===== end of PART A; then your names; then what follows =====
/-! ===== BEGIN words of one list among another's, by their places ===== -/
theorem goodIn_r {big : List Cond} (ws : List Cond) (ps : List Nat) (hp : ws = ps.filterMap (fun i => big[i]?)) (h : ws.all goodWord = true) : GoodIn big ws := by
  intro w hw
  have h1 := List.all_eq_true.mp h w hw
  rw [hp] at hw
  obtain ⟨i, -, hi⟩ := List.mem_filterMap.mp hw
  have hm : w ∈ big := by first | exact List.mem_of_getElem? hi | exact List.getElem?_mem hi
  exact ⟨hm, good_of_word h1⟩
theorem goodIn_app {big a b : List Cond} (ha : GoodIn big a) (hb : GoodIn big b) : GoodIn big (a ++ b) := fun w h => (List.mem_append.mp h).elim (ha w) (hb w)
theorem goodIn_ca {big a b : List Cond} {c : Cond} (ha : GoodIn big (c :: a)) (hb : GoodIn big b) : GoodIn big (c :: (a ++ b)) := fun w h => (List.mem_cons.mp h).elim (fun e => ha w (List.mem_cons.mpr (Or.inl e))) (fun h => (List.mem_append.mp h).elim (fun h => ha w (List.mem_cons.mpr (Or.inr h))) (hb w))
theorem goodIn_sub {big ws : List Cond} (hm : ∀ w ∈ ws, w ∈ big) (h : ws.all goodWord = true) : GoodIn big ws := fun w hw => ⟨hm w hw, good_of_word (List.all_eq_true.mp h w hw)⟩
/-! ===== END ===== -/

/-! ===== BEGIN printed: names, fields, word lists, decode rows ===== -/
def RX0 : String := "BellLand$Air"
def TX0 : u_T := fun k => match k with
  | 0 => ("BellLand$Air", "ground", "LBellLand$Ground;", true)
  | 1 => ("BellLand$Air", "bells", "LBellLand$Bells;", true)
  | 2 => ("BellLand$Air", "ear", "I", false)
  | 3 => ("BellLand$Air", "calm", "[J", true)
  | 4 => ("BellLand$Air", "unit", "[J", true)
  | 5 => ("BellLand$Air", "faint", "J", false)
  | _ => ("BellLand$Air", "bars", "[J", true)
def tyX0 : Nat → FieldType := fun k => match k with
  | 0 => .object "BellLand$Ground"
  | 1 => .object "BellLand$Bells"
  | 2 => .int
  | 3 => .array .long
  | 4 => .array .long
  | 5 => .long
  | _ => .array .long
abbrev wsX00 : List Cond := u_ws RX0 TX0 7
theorem nmX0 : ∀ a, a < 7 → ∀ b, b < 7 → a ≠ b → (TX0 a).2.1 ≠ (TX0 b).2.1 := by decide +kernel
theorem tyX0_ok : ∀ k, k < 7 → parseFieldDescriptor (TX0 k).2.2.1 = some (tyX0 k) := by decide +kernel
abbrev cX0_init : ByteArray := prog_2_method_1_code
def yX0_init : MethodName := ⟨RX0, "<init>", "(LBellLand$Ground;LBellLand$Bells;)V"⟩
abbrev cX0_grainsOfOne : ByteArray := prog_2_method_2_code
def yX0_grainsOfOne : MethodName := ⟨RX0, "grainsOfOne", "(I)J"⟩
abbrev cX0_strength : ByteArray := prog_2_method_3_code
def yX0_strength : MethodName := ⟨RX0, "strength", "(I)I"⟩
abbrev cX0_carry : ByteArray := prog_2_method_4_code
def yX0_carry : MethodName := ⟨RX0, "carry", "(I)V"⟩
abbrev cX0_carryAll : ByteArray := prog_2_method_5_code
def yX0_carryAll : MethodName := ⟨RX0, "carryAll", "()V"⟩
abbrev cX0_calmUnit : ByteArray := prog_2_method_6_code
def yX0_calmUnit : MethodName := ⟨RX0, "calmUnit", "(III)J"⟩
abbrev cX0_blown : ByteArray := prog_2_method_7_code
def yX0_blown : MethodName := ⟨RX0, "blown", "(JIII)J"⟩
abbrev cX0_unitBy : ByteArray := prog_2_method_8_code
def yX0_unitBy : MethodName := ⟨RX0, "unitBy", "(III)J"⟩
abbrev cX0_blow : ByteArray := prog_2_method_9_code
def yX0_blow : MethodName := ⟨RX0, "blow", "(I)V"⟩
abbrev cX0_loudness : ByteArray := prog_2_method_10_code
def yX0_loudness : MethodName := ⟨RX0, "loudness", "(II)J"⟩
abbrev cX0_loudestIn : ByteArray := prog_2_method_11_code
def yX0_loudestIn : MethodName := ⟨RX0, "loudestIn", "(I)I"⟩
abbrev cX0_bar : ByteArray := prog_2_method_12_code
def yX0_bar : MethodName := ⟨RX0, "bar", "([IIII)J"⟩
abbrev cX0_leastToOwn : ByteArray := prog_2_method_18_code
def yX0_leastToOwn : MethodName := ⟨RX0, "leastToOwn", "(II)I"⟩
def RX1 : String := "BellLand$Bells"
def TX1 : u_T := fun k => match k with
  | 0 => ("BellLand$Bells", "count", "I", false)
  | 1 => ("BellLand$Bells", "kind", "[I", true)
  | 2 => ("BellLand$Bells", "cell", "[I", true)
  | _ => ("BellLand$Bells", "weight", "[I", true)
def tyX1 : Nat → FieldType := fun k => match k with
  | 0 => .int
  | 1 => .array .int
  | 2 => .array .int
  | _ => .array .int
abbrev wsX10 : List Cond := u_ws RX1 TX1 4
theorem nmX1 : ∀ a, a < 4 → ∀ b, b < 4 → a ≠ b → (TX1 a).2.1 ≠ (TX1 b).2.1 := by decide +kernel
theorem tyX1_ok : ∀ k, k < 4 → parseFieldDescriptor (TX1 k).2.2.1 = some (tyX1 k) := by decide +kernel
abbrev cX1_init : ByteArray := prog_3_method_1_code
def yX1_init : MethodName := ⟨RX1, "<init>", "()V"⟩
abbrev cX1_add : ByteArray := prog_3_method_2_code
def yX1_add : MethodName := ⟨RX1, "add", "(III)I"⟩
def RX2 : String := "BellLand$Foundry"
def TX2 : u_T := fun k => match k with
  | 0 => ("BellLand$Foundry", "bells", "LBellLand$Bells;", true)
  | 1 => ("BellLand$Foundry", "air", "LBellLand$Air;", true)
  | 2 => ("BellLand$Foundry", "weight", "[I", true)
  | 3 => ("BellLand$Foundry", "story", "[J", true)
  | 4 => ("BellLand$Foundry", "rounds", "I", false)
  | _ => ("BellLand$Foundry", "ring", "I", false)
def tyX2 : Nat → FieldType := fun k => match k with
  | 0 => .object "BellLand$Bells"
  | 1 => .object "BellLand$Air"
  | 2 => .array .int
  | 3 => .array .long
  | 4 => .int
  | _ => .int
abbrev wsX20 : List Cond := u_ws RX2 TX2 6
theorem nmX2 : ∀ a, a < 6 → ∀ b, b < 6 → a ≠ b → (TX2 a).2.1 ≠ (TX2 b).2.1 := by decide +kernel
theorem tyX2_ok : ∀ k, k < 6 → parseFieldDescriptor (TX2 k).2.2.1 = some (tyX2 k) := by decide +kernel
abbrev cX2_init : ByteArray := prog_4_method_1_code
def yX2_init : MethodName := ⟨RX2, "<init>", "(LBellLand$Bells;LBellLand$Air;)V"⟩
def RX3 : String := "BellLand$Ground"
def TX3 : u_T := fun k => match k with
  | 0 => ("BellLand$Ground", "high", "I", false)
  | 1 => ("BellLand$Ground", "wide", "I", false)
  | 2 => ("BellLand$Ground", "cells", "I", false)
  | 3 => ("BellLand$Ground", "planted", "I", false)
  | 4 => ("BellLand$Ground", "height", "[I", true)
  | 5 => ("BellLand$Ground", "row", "[I", true)
  | 6 => ("BellLand$Ground", "column", "[I", true)
  | _ => ("BellLand$Ground", "higher", "[I", true)
def tyX3 : Nat → FieldType := fun k => match k with
  | 0 => .int
  | 1 => .int
  | 2 => .int
  | 3 => .int
  | 4 => .array .int
  | 5 => .array .int
  | 6 => .array .int
  | _ => .array .int
abbrev wsX30 : List Cond := u_ws RX3 TX3 8
theorem nmX3 : ∀ a, a < 8 → ∀ b, b < 8 → a ≠ b → (TX3 a).2.1 ≠ (TX3 b).2.1 := by decide +kernel
theorem tyX3_ok : ∀ k, k < 8 → parseFieldDescriptor (TX3 k).2.2.1 = some (tyX3 k) := by decide +kernel
abbrev cX3_init : ByteArray := prog_5_method_1_code
def yX3_init : MethodName := ⟨RX3, "<init>", "()V"⟩
abbrev cX3_firstFault : ByteArray := prog_5_method_2_code
def yX3_firstFault : MethodName := ⟨RX3, "firstFault", "([III)I"⟩
abbrev cX3_take : ByteArray := prog_5_method_3_code
def yX3_take : MethodName := ⟨RX3, "take", "([II)V"⟩
abbrev cX3_isPlanted : ByteArray := prog_5_method_4_code
def yX3_isPlanted : MethodName := ⟨RX3, "isPlanted", "(I)Z"⟩
abbrev cX3_titheOf : ByteArray := prog_5_method_5_code
def yX3_titheOf : MethodName := ⟨RX3, "titheOf", "(I)I"⟩
abbrev cX3_apart : ByteArray := prog_5_method_7_code
def yX3_apart : MethodName := ⟨RX3, "apart", "(II)I"⟩
abbrev cX3_between : ByteArray := prog_5_method_8_code
def yX3_between : MethodName := ⟨RX3, "between", "(II)I"⟩
abbrev cX3_stepsOn : ByteArray := prog_5_method_9_code
def yX3_stepsOn : MethodName := ⟨RX3, "stepsOn", "(III)I"⟩
abbrev cX3_hillsOn : ByteArray := prog_5_method_10_code
def yX3_hillsOn : MethodName := ⟨RX3, "hillsOn", "(III)I"⟩
abbrev cX3_downwind : ByteArray := prog_5_method_11_code
def yX3_downwind : MethodName := ⟨RX3, "downwind", "(III)I"⟩
def RX4 : String := "BellLand$Reports"
def TX4 : u_T := fun k => match k with
  | 0 => ("BellLand$Reports", "bells", "LBellLand$Bells;", true)
  | 1 => ("BellLand$Reports", "air", "LBellLand$Air;", true)
  | 2 => ("BellLand$Reports", "count", "I", false)
  | 3 => ("BellLand$Reports", "cell", "[I", true)
  | 4 => ("BellLand$Reports", "wind", "[I", true)
  | 5 => ("BellLand$Reports", "louder", "[I", true)
  | _ => ("BellLand$Reports", "than", "[I", true)
def tyX4 : Nat → FieldType := fun k => match k with
  | 0 => .object "BellLand$Bells"
  | 1 => .object "BellLand$Air"
  | 2 => .int
  | 3 => .array .int
  | 4 => .array .int
  | 5 => .array .int
  | _ => .array .int
abbrev wsX40 : List Cond := u_ws RX4 TX4 7
theorem nmX4 : ∀ a, a < 7 → ∀ b, b < 7 → a ≠ b → (TX4 a).2.1 ≠ (TX4 b).2.1 := by decide +kernel
theorem tyX4_ok : ∀ k, k < 7 → parseFieldDescriptor (TX4 k).2.2.1 = some (tyX4 k) := by decide +kernel
abbrev cX4_init : ByteArray := prog_6_method_1_code
def yX4_init : MethodName := ⟨RX4, "<init>", "(LBellLand$Bells;LBellLand$Air;)V"⟩
def RX5 : String := "BellLand$Ringing"
def TX5 : u_T := fun k => match k with
  | 0 => ("BellLand$Ringing", "bells", "LBellLand$Bells;", true)
  | 1 => ("BellLand$Ringing", "air", "LBellLand$Air;", true)
  | 2 => ("BellLand$Ringing", "heard", "[I", true)
  | _ => ("BellLand$Ringing", "turn", "[I", true)
def tyX5 : Nat → FieldType := fun k => match k with
  | 0 => .object "BellLand$Bells"
  | 1 => .object "BellLand$Air"
  | 2 => .array .int
  | _ => .array .int
abbrev wsX50 : List Cond := u_ws RX5 TX5 4
theorem nmX5 : ∀ a, a < 4 → ∀ b, b < 4 → a ≠ b → (TX5 a).2.1 ≠ (TX5 b).2.1 := by decide +kernel
theorem tyX5_ok : ∀ k, k < 4 → parseFieldDescriptor (TX5 k).2.2.1 = some (tyX5 k) := by decide +kernel
abbrev cX5_init : ByteArray := prog_7_method_1_code
def yX5_init : MethodName := ⟨RX5, "<init>", "(LBellLand$Bells;LBellLand$Air;)V"⟩
def RX6 : String := "BellLand$Sheet"
def TX6 : u_T := fun k => match k with
  | 0 => ("BellLand$Sheet", "numbers", "[I", true)
  | 1 => ("BellLand$Sheet", "isThere", "Z", false)
  | 2 => ("BellLand$Sheet", "sort", "I", false)
  | _ => ("BellLand$Sheet", "size", "I", false)
def tyX6 : Nat → FieldType := fun k => match k with
  | 0 => .array .int
  | 1 => .boolean
  | 2 => .int
  | _ => .int
abbrev wsX60 : List Cond := u_ws RX6 TX6 4
theorem nmX6 : ∀ a, a < 4 → ∀ b, b < 4 → a ≠ b → (TX6 a).2.1 ≠ (TX6 b).2.1 := by decide +kernel
theorem tyX6_ok : ∀ k, k < 4 → parseFieldDescriptor (TX6 k).2.2.1 = some (tyX6 k) := by decide +kernel
abbrev cX6_init : ByteArray := prog_8_method_1_code
def yX6_init : MethodName := ⟨RX6, "<init>", "()V"⟩
abbrev cX6_renew : ByteArray := prog_8_method_2_code
def yX6_renew : MethodName := ⟨RX6, "renew", "(II)V"⟩
abbrev cX6_cut : ByteArray := prog_8_method_3_code
def yX6_cut : MethodName := ⟨RX6, "cut", "(I)I"⟩
abbrev cX6_hasNumber : ByteArray := prog_8_method_4_code
def yX6_hasNumber : MethodName := ⟨RX6, "hasNumber", "(I)Z"⟩
abbrev cX6_hasNumbers : ByteArray := prog_8_method_5_code
def yX6_hasNumbers : MethodName := ⟨RX6, "hasNumbers", "(II)Z"⟩
abbrev cX6_faultOfSort : ByteArray := prog_8_method_6_code
def yX6_faultOfSort : MethodName := ⟨RX6, "faultOfSort", "(I)I"⟩
abbrev cX6_faultOfRow : ByteArray := prog_8_method_7_code
def yX6_faultOfRow : MethodName := ⟨RX6, "faultOfRow", "(III)I"⟩
def RX7 : String := "BellLand$Woods"
def TX7 : u_T := fun k => match k with
  | 0 => ("BellLand$Woods", "ground", "LBellLand$Ground;", true)
  | 1 => ("BellLand$Woods", "bells", "LBellLand$Bells;", true)
  | 2 => ("BellLand$Woods", "air", "LBellLand$Air;", true)
  | 3 => ("BellLand$Woods", "grains", "[J", true)
  | 4 => ("BellLand$Woods", "way", "[I", true)
  | 5 => ("BellLand$Woods", "owner", "I", false)
  | _ => ("BellLand$Woods", "plantable", "I", false)
def tyX7 : Nat → FieldType := fun k => match k with
  | 0 => .object "BellLand$Ground"
  | 1 => .object "BellLand$Bells"
  | 2 => .object "BellLand$Air"
  | 3 => .array .long
  | 4 => .array .int
  | 5 => .int
  | _ => .int
abbrev wsX70 : List Cond := u_ws RX7 TX7 7
theorem nmX7 : ∀ a, a < 7 → ∀ b, b < 7 → a ≠ b → (TX7 a).2.1 ≠ (TX7 b).2.1 := by decide +kernel
theorem tyX7_ok : ∀ k, k < 7 → parseFieldDescriptor (TX7 k).2.2.1 = some (tyX7 k) := by decide +kernel
abbrev cX7_init : ByteArray := prog_9_method_1_code
def yX7_init : MethodName := ⟨RX7, "<init>", "(LBellLand$Ground;LBellLand$Bells;LBellLand$Air;)V"⟩
def RX8 : String := "BellLand"
def TX8 : u_T := fun k => match k with
  | 0 => ("BellLand", "ground", "LBellLand$Ground;", true)
  | 1 => ("BellLand", "bells", "LBellLand$Bells;", true)
  | 2 => ("BellLand", "air", "LBellLand$Air;", true)
  | 3 => ("BellLand", "reports", "LBellLand$Reports;", true)
  | 4 => ("BellLand", "woods", "LBellLand$Woods;", true)
  | 5 => ("BellLand", "ringing", "LBellLand$Ringing;", true)
  | 6 => ("BellLand", "foundry", "LBellLand$Foundry;", true)
  | 7 => ("BellLand", "sheets", "[LBellLand$Sheet;", true)
  | 8 => ("BellLand", "fault", "I", false)
  | _ => ("BellLand", "trace", "I", false)
def tyX8 : Nat → FieldType := fun k => match k with
  | 0 => .object "BellLand$Ground"
  | 1 => .object "BellLand$Bells"
  | 2 => .object "BellLand$Air"
  | 3 => .object "BellLand$Reports"
  | 4 => .object "BellLand$Woods"
  | 5 => .object "BellLand$Ringing"
  | 6 => .object "BellLand$Foundry"
  | 7 => .array (.object "BellLand$Sheet")
  | 8 => .int
  | _ => .int
abbrev wsX80 : List Cond := u_ws RX8 TX8 10
theorem nmX8 : ∀ a, a < 10 → ∀ b, b < 10 → a ≠ b → (TX8 a).2.1 ≠ (TX8 b).2.1 := by decide +kernel
theorem tyX8_ok : ∀ k, k < 10 → parseFieldDescriptor (TX8 k).2.2.1 = some (tyX8 k) := by decide +kernel
abbrev cX8_init : ByteArray := prog_1_method_1_code
def yX8_init : MethodName := ⟨RX8, "<init>", "()V"⟩
abbrev cX8_land : ByteArray := prog_1_method_2_code
def yX8_land : MethodName := ⟨RX8, "land", "(IIII)I"⟩
abbrev cX8_plant : ByteArray := prog_1_method_4_code
def yX8_plant : MethodName := ⟨RX8, "plant", "(IZ)I"⟩
abbrev cX8_ear : ByteArray := prog_1_method_5_code
def yX8_ear : MethodName := ⟨RX8, "ear", "(I)I"⟩
abbrev cX8_bell : ByteArray := prog_1_method_6_code
def yX8_bell : MethodName := ⟨RX8, "bell", "(III)I"⟩
abbrev cX8_ofBell : ByteArray := prog_1_method_7_code
def yX8_ofBell : MethodName := ⟨RX8, "ofBell", "(II)I"⟩
abbrev cX8_loud : ByteArray := prog_1_method_9_code
def yX8_loud : MethodName := ⟨RX8, "loud", "(IIII)J"⟩
abbrev cX8_whose : ByteArray := prog_1_method_10_code
def yX8_whose : MethodName := ⟨RX8, "whose", "(II)I"⟩
abbrev cX8_reach : ByteArray := prog_1_method_11_code
def yX8_reach : MethodName := ⟨RX8, "reach", "(II)I"⟩
abbrev cX8_tithes : ByteArray := prog_1_method_12_code
def yX8_tithes : MethodName := ⟨RX8, "tithes", "(IIIIII)J"⟩
abbrev cX8_wins : ByteArray := prog_1_method_13_code
def yX8_wins : MethodName := ⟨RX8, "wins", "(III)I"⟩
abbrev cX8_cheapest : ByteArray := prog_1_method_14_code
def yX8_cheapest : MethodName := ⟨RX8, "cheapest", "(III)I"⟩
abbrev cX8_sheet : ByteArray := prog_1_method_26_code
def yX8_sheet : MethodName := ⟨RX8, "sheet", "(III)I"⟩
abbrev cX8_put : ByteArray := prog_1_method_28_code
def yX8_put : MethodName := ⟨RX8, "put", "(III)I"⟩
abbrev cX8_fault : ByteArray := prog_1_method_35_code
def yX8_fault : MethodName := ⟨RX8, "fault", "()I"⟩
abbrev cX8_isCell : ByteArray := prog_1_method_37_code
def yX8_isCell : MethodName := ⟨RX8, "isCell", "(I)Z"⟩
abbrev cX8_isBell : ByteArray := prog_1_method_38_code
def yX8_isBell : MethodName := ⟨RX8, "isBell", "(I)Z"⟩
abbrev cX8_isSheet : ByteArray := prog_1_method_39_code
def yX8_isSheet : MethodName := ⟨RX8, "isSheet", "(I)Z"⟩
abbrev cX8_isSort : ByteArray := prog_1_method_40_code
def yX8_isSort : MethodName := ⟨RX8, "isSort", "(I)Z"⟩
abbrev cX8_isKind : ByteArray := prog_1_method_41_code
def yX8_isKind : MethodName := ⟨RX8, "isKind", "(I)Z"⟩
abbrev cX8_isWeight : ByteArray := prog_1_method_42_code
def yX8_isWeight : MethodName := ⟨RX8, "isWeight", "(I)Z"⟩
abbrev cX8_isWind : ByteArray := prog_1_method_43_code
def yX8_isWind : MethodName := ⟨RX8, "isWind", "(I)Z"⟩
abbrev cX8_isOneOfTwo : ByteArray := prog_1_method_44_code
def yX8_isOneOfTwo : MethodName := ⟨RX8, "isOneOfTwo", "(I)Z"⟩
abbrev cX8_faulty : ByteArray := prog_1_method_45_code
def yX8_faulty : MethodName := ⟨RX8, "faulty", "(I)I"⟩
abbrev cX8_share : ByteArray := prog_1_method_46_code
def yX8_share : MethodName := ⟨RX8, "share", "(JJI)J"⟩
abbrev cX8_greatestCommon : ByteArray := prog_1_method_47_code
def yX8_greatestCommon : MethodName := ⟨RX8, "greatestCommon", "(JJ)J"⟩
abbrev cX8_partsOfTithe : ByteArray := prog_1_method_49_code
def yX8_partsOfTithe : MethodName := ⟨RX8, "partsOfTithe", "(I)I"⟩
def RX9 : String := "BellLandModel"
def TX9 : u_T := fun k => match k with
  | _ => ("", "", "", false)
def tyX9 : Nat → FieldType := fun k => match k with
  | _ => .int
abbrev wsX90 : List Cond := u_ws RX9 TX9 0
theorem nmX9 : ∀ a, a < 0 → ∀ b, b < 0 → a ≠ b → (TX9 a).2.1 ≠ (TX9 b).2.1 := by decide +kernel
theorem tyX9_ok : ∀ k, k < 0 → parseFieldDescriptor (TX9 k).2.2.1 = some (tyX9 k) := by decide +kernel
def RJ6 : String := "java/lang/Integer"
def TJ6 : u_T := fun k => match k with
  | _ => ("", "", "", false)
def tyJ6 : Nat → FieldType := fun k => match k with
  | _ => .int
abbrev wsJ60 : List Cond := u_ws RJ6 TJ6 0
theorem nmJ6 : ∀ a, a < 0 → ∀ b, b < 0 → a ≠ b → (TJ6 a).2.1 ≠ (TJ6 b).2.1 := by decide +kernel
theorem tyJ6_ok : ∀ k, k < 0 → parseFieldDescriptor (TJ6 k).2.2.1 = some (tyJ6 k) := by decide +kernel
abbrev cJ6_bitCount_0f7a4 : ByteArray := prog_12_method_49_code
def yJ6_bitCount_0f7a4 : MethodName := ⟨RJ6, "bitCount", "(I)I"⟩
def RJ9 : String := "java/lang/Math"
def TJ9 : u_T := fun k => match k with
  | _ => ("", "", "", false)
def tyJ9 : Nat → FieldType := fun k => match k with
  | _ => .int
abbrev wsJ90 : List Cond := u_ws RJ9 TJ9 0
theorem nmJ9 : ∀ a, a < 0 → ∀ b, b < 0 → a ≠ b → (TJ9 a).2.1 ≠ (TJ9 b).2.1 := by decide +kernel
theorem tyJ9_ok : ∀ k, k < 0 → parseFieldDescriptor (TJ9 k).2.2.1 = some (tyJ9 k) := by decide +kernel
abbrev cJ9_abs_0f7a4 : ByteArray := prog_13_method_59_code
def yJ9_abs_0f7a4 : MethodName := ⟨RJ9, "abs", "(I)I"⟩
abbrev cJ9_max_7cf53 : ByteArray := prog_13_method_65_code
def yJ9_max_7cf53 : MethodName := ⟨RJ9, "max", "(II)I"⟩
abbrev cJ9_max_f86c9 : ByteArray := prog_13_method_66_code
def yJ9_max_f86c9 : MethodName := ⟨RJ9, "max", "(JJ)J"⟩
def RJ7 : String := "java/util/Arrays"
def TJ7 : u_T := fun k => match k with
  | _ => ("", "", "", false)
def tyJ7 : Nat → FieldType := fun k => match k with
  | _ => .int
abbrev wsJ70 : List Cond := u_ws RJ7 TJ7 0
theorem nmJ7 : ∀ a, a < 0 → ∀ b, b < 0 → a ≠ b → (TJ7 a).2.1 ≠ (TJ7 b).2.1 := by decide +kernel
theorem tyJ7_ok : ∀ k, k < 0 → parseFieldDescriptor (TJ7 k).2.2.1 = some (tyJ7 k) := by decide +kernel
abbrev cJ7_fill_53178 : ByteArray := prog_14_method_103_code
def yJ7_fill_53178 : MethodName := ⟨RJ7, "fill", "([II)V"⟩
def RL : String := "BellLandLaw"
abbrev cL_cell : ByteArray := method_2_code
def yL_cell : MethodName := ⟨RL, "cell", "([II)I"⟩
abbrev cL_some : ByteArray := method_3_code
def yL_some : MethodName := ⟨RL, "some", "(II)I"⟩
abbrev cL_put : ByteArray := method_4_code
def yL_put : MethodName := ⟨RL, "put", "(LBellLand;[II[I)I"⟩
abbrev cL_come : ByteArray := method_5_code
def yL_come : MethodName := ⟨RL, "come", "(LBellLand;[III[I)Z"⟩
abbrev cL_loud : ByteArray := method_6_code
def yL_loud : MethodName := ⟨RL, "loud", "([IIIIII[J)V"⟩
abbrev cL_hear : ByteArray := method_7_code
def yL_hear : MethodName := ⟨RL, "hear", "([III[J)V"⟩
abbrev cL_best : ByteArray := method_8_code
def yL_best : MethodName := ⟨RL, "best", "([I[J)I"⟩
abbrev cL_whose : ByteArray := method_9_code
def yL_whose : MethodName := ⟨RL, "whose", "([III)I"⟩
abbrev cL_isAlike : ByteArray := method_11_code
def yL_isAlike : MethodName := ⟨RL, "isAlike", "(JJJJ)Z"⟩
abbrev cL_law : ByteArray := code
def yL_law : MethodName := ⟨RL, "law", "([I)Z"⟩
abbrev vwCl : List vw_C := [(RX0, TX0, 7), (RX1, TX1, 4), (RX2, TX2, 6), (RX3, TX3, 8), (RX4, TX4, 7), (RX5, TX5, 4), (RX6, TX6, 4), (RX7, TX7, 7), (RX8, TX8, 10)]
