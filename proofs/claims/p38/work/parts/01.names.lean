-- ===== PART A: goes FIRST, ahead of the names: the tables' words, and 'selects' of the private methods out of them =====
/-- a private method of a class that the tables say can be made, by its rows of tables_1 -/
def lw_okq (q : MethodName × Nat) : Prop := (q.1.cls ≠ "java/lang/invoke/MethodHandle" ∧ q.1.cls ≠ "java/lang/invoke/VarHandle") ∧ Cond.instantiable q.1.cls q.2 ∈ tables_1 ∧ Cond.privateMethod q.1 ∈ tables_1 ∧ Cond.instanceMethod q.1 ∈ tables_1
theorem lw_p0 : lw_okq (⟨"ByHand", "faulty", "(I)I"⟩, 9) := ⟨⟨by decide +kernel, by decide +kernel⟩, List.mem_of_getElem? (i := 12) (by decide +kernel), List.mem_of_getElem? (i := 185) (by decide +kernel), List.mem_of_getElem? (i := 186) (by decide +kernel)⟩
theorem lw_p1 : lw_okq (⟨"ByHand$Hands", "timesOf", "(I)I"⟩, 3) := ⟨⟨by decide +kernel, by decide +kernel⟩, List.mem_of_getElem? (i := 34) (by decide +kernel), List.mem_of_getElem? (i := 258) (by decide +kernel), List.mem_of_getElem? (i := 259) (by decide +kernel)⟩
theorem lw_p2 : lw_okq (⟨"ByHand$Telling", "has", "(I)Z"⟩, 4) := ⟨⟨by decide +kernel, by decide +kernel⟩, List.mem_of_getElem? (i := 94) (by decide +kernel), List.mem_of_getElem? (i := 290) (by decide +kernel), List.mem_of_getElem? (i := 291) (by decide +kernel)⟩
theorem lw_p3 : lw_okq (⟨"ByHand$Telling", "alikeToAny", "(I)I"⟩, 4) := ⟨⟨by decide +kernel, by decide +kernel⟩, List.mem_of_getElem? (i := 94) (by decide +kernel), List.mem_of_getElem? (i := 318) (by decide +kernel), List.mem_of_getElem? (i := 319) (by decide +kernel)⟩
theorem lw_p4 : lw_okq (⟨"ByHand$Telling", "leastIn", "(I)I"⟩, 4) := ⟨⟨by decide +kernel, by decide +kernel⟩, List.mem_of_getElem? (i := 94) (by decide +kernel), List.mem_of_getElem? (i := 331) (by decide +kernel), List.mem_of_getElem? (i := 332) (by decide +kernel)⟩
theorem lw_p5 : lw_okq (⟨"ByHand", "swappedUp", "(I)I"⟩, 9) := ⟨⟨by decide +kernel, by decide +kernel⟩, List.mem_of_getElem? (i := 12) (by decide +kernel), List.mem_of_getElem? (i := 347) (by decide +kernel), List.mem_of_getElem? (i := 348) (by decide +kernel)⟩
def lw_privs_1 : List (MethodName × Nat) := [(⟨"ByHand", "faulty", "(I)I"⟩, 9), (⟨"ByHand$Hands", "timesOf", "(I)I"⟩, 3), (⟨"ByHand$Telling", "has", "(I)Z"⟩, 4), (⟨"ByHand$Telling", "alikeToAny", "(I)I"⟩, 4), (⟨"ByHand$Telling", "leastIn", "(I)I"⟩, 4), (⟨"ByHand", "swappedUp", "(I)I"⟩, 9)]
theorem lw_r1 : ∀ q ∈ lw_privs_1, lw_okq q := List.forall_mem_cons.mpr ⟨lw_p0, List.forall_mem_cons.mpr ⟨lw_p1, List.forall_mem_cons.mpr ⟨lw_p2, List.forall_mem_cons.mpr ⟨lw_p3, List.forall_mem_cons.mpr ⟨lw_p4, List.forall_mem_cons.mpr ⟨lw_p5, fun _ h => absurd h List.not_mem_nil⟩⟩⟩⟩⟩⟩
def lw_privs : List (MethodName × Nat) := lw_privs_1
def lw_tbl : List Cond := k2_sels lw_privs ++ tables_1
theorem lw_privs_ok : ∀ q ∈ lw_privs, lw_okq q := lw_r1
-- ===== end of PART A; then your names; then what follows =====
def RX0 : String := "ByHand$HandRow"
def TX0 : u_T := fun k => match k with
  | 0 => ("ByHand$HandRow", "count", "I", false)
  | 1 => ("ByHand$HandRow", "row", "[I", true)
  | _ => ("ByHand$HandRow", "best", "[I", true)
def tyX0 : Nat → FieldType := fun k => match k with
  | 0 => .int
  | 1 => .array .int
  | _ => .array .int
theorem nmX0 : ∀ a, a < 3 → ∀ b, b < 3 → a ≠ b → (TX0 a).2.1 ≠ (TX0 b).2.1 := by decide +kernel
theorem tyX0_ok : ∀ k, k < 3 → parseFieldDescriptor (TX0 k).2.2.1 = some (tyX0 k) := by decide +kernel
abbrev cX0_init : ByteArray := prog_2_method_1_code
def yX0_init : MethodName := ⟨RX0, "<init>", "()V"⟩
def RX1 : String := "ByHand$Hands"
def TX1 : u_T := fun k => match k with
  | 0 => ("ByHand$Hands", "count", "I", false)
  | 1 => ("ByHand$Hands", "kinds", "[I", true)
  | _ => ("ByHand$Hands", "parts", "[I", true)
def tyX1 : Nat → FieldType := fun k => match k with
  | 0 => .int
  | 1 => .array .int
  | _ => .array .int
theorem nmX1 : ∀ a, a < 3 → ∀ b, b < 3 → a ≠ b → (TX1 a).2.1 ≠ (TX1 b).2.1 := by decide +kernel
theorem tyX1_ok : ∀ k, k < 3 → parseFieldDescriptor (TX1 k).2.2.1 = some (tyX1 k) := by decide +kernel
abbrev cX1_init : ByteArray := prog_3_method_1_code
def yX1_init : MethodName := ⟨RX1, "<init>", "()V"⟩
abbrev cX1_has : ByteArray := prog_3_method_3_code
def yX1_has : MethodName := ⟨RX1, "has", "(I)Z"⟩
abbrev cX1_kindOf : ByteArray := prog_3_method_4_code
def yX1_kindOf : MethodName := ⟨RX1, "kindOf", "(I)I"⟩
abbrev cX1_clear : ByteArray := prog_3_method_6_code
def yX1_clear : MethodName := ⟨RX1, "clear", "()V"⟩
abbrev cX1_add : ByteArray := prog_3_method_7_code
def yX1_add : MethodName := ⟨RX1, "add", "(II)I"⟩
abbrev cX1_timesOf : ByteArray := prog_3_method_8_code
def yX1_timesOf : MethodName := ⟨RX1, "timesOf", "(I)I"⟩
abbrev cX1_feelsHeavier : ByteArray := prog_3_method_9_code
def yX1_feelsHeavier : MethodName := ⟨RX1, "feelsHeavier", "(III)Z"⟩
abbrev cX1_feelsAlike : ByteArray := prog_3_method_10_code
def yX1_feelsAlike : MethodName := ⟨RX1, "feelsAlike", "(III)Z"⟩
def RX2 : String := "ByHand$Sayings"
def TX2 : u_T := fun k => match k with
  | 0 => ("ByHand$Sayings", "count", "I", false)
  | 1 => ("ByHand$Sayings", "sayers", "[I", true)
  | 2 => ("ByHand$Sayings", "firsts", "[I", true)
  | 3 => ("ByHand$Sayings", "seconds", "[I", true)
  | _ => ("ByHand$Sayings", "words", "[I", true)
def tyX2 : Nat → FieldType := fun k => match k with
  | 0 => .int
  | 1 => .array .int
  | 2 => .array .int
  | 3 => .array .int
  | _ => .array .int
theorem nmX2 : ∀ a, a < 5 → ∀ b, b < 5 → a ≠ b → (TX2 a).2.1 ≠ (TX2 b).2.1 := by decide +kernel
theorem tyX2_ok : ∀ k, k < 5 → parseFieldDescriptor (TX2 k).2.2.1 = some (tyX2 k) := by decide +kernel
abbrev cX2_init : ByteArray := prog_4_method_1_code
def yX2_init : MethodName := ⟨RX2, "<init>", "()V"⟩
abbrev cX2_clear : ByteArray := prog_4_method_6_code
def yX2_clear : MethodName := ⟨RX2, "clear", "()V"⟩
def RX3 : String := "ByHand$Sheets"
def TX3 : u_T := fun k => match k with
  | 0 => ("ByHand$Sheets", "filled", "[Z", true)
  | 1 => ("ByHand$Sheets", "sorts", "[I", true)
  | 2 => ("ByHand$Sheets", "lengths", "[I", true)
  | _ => ("ByHand$Sheets", "cells", "[[I", true)
def tyX3 : Nat → FieldType := fun k => match k with
  | 0 => .array .boolean
  | 1 => .array .int
  | 2 => .array .int
  | _ => .array (.array .int)
theorem nmX3 : ∀ a, a < 4 → ∀ b, b < 4 → a ≠ b → (TX3 a).2.1 ≠ (TX3 b).2.1 := by decide +kernel
theorem tyX3_ok : ∀ k, k < 4 → parseFieldDescriptor (TX3 k).2.2.1 = some (tyX3 k) := by decide +kernel
abbrev cX3_init : ByteArray := prog_5_method_1_code
def yX3_init : MethodName := ⟨RX3, "<init>", "()V"⟩
abbrev cX3_has : ByteArray := prog_5_method_2_code
def yX3_has : MethodName := ⟨RX3, "has", "(I)Z"⟩
abbrev cX3_hasRow : ByteArray := prog_5_method_3_code
def yX3_hasRow : MethodName := ⟨RX3, "hasRow", "(I)Z"⟩
abbrev cX3_sortOf : ByteArray := prog_5_method_4_code
def yX3_sortOf : MethodName := ⟨RX3, "sortOf", "(I)I"⟩
abbrev cX3_hasCells : ByteArray := prog_5_method_5_code
def yX3_hasCells : MethodName := ⟨RX3, "hasCells", "(III)Z"⟩
abbrev cX3_faultOfTaking : ByteArray := prog_5_method_6_code
def yX3_faultOfTaking : MethodName := ⟨RX3, "faultOfTaking", "(IIII)I"⟩
abbrev cX3_renew : ByteArray := prog_5_method_7_code
def yX3_renew : MethodName := ⟨RX3, "renew", "(III)V"⟩
abbrev cX3_cellOf : ByteArray := prog_5_method_9_code
def yX3_cellOf : MethodName := ⟨RX3, "cellOf", "(II)I"⟩
abbrev cX3_setCell : ByteArray := prog_5_method_10_code
def yX3_setCell : MethodName := ⟨RX3, "setCell", "(III)V"⟩
abbrev cX3_cut : ByteArray := prog_5_method_11_code
def yX3_cut : MethodName := ⟨RX3, "cut", "(II)I"⟩
def RX4 : String := "ByHand$Telling"
def TX4 : u_T := fun k => match k with
  | 0 => ("ByHand$Telling", "count", "I", false)
  | 1 => ("ByHand$Telling", "lighter", "[I", true)
  | 2 => ("ByHand$Telling", "alikes", "[I", true)
  | _ => ("ByHand$Telling", "orders", "[I", true)
def tyX4 : Nat → FieldType := fun k => match k with
  | 0 => .int
  | 1 => .array .int
  | 2 => .array .int
  | _ => .array .int
theorem nmX4 : ∀ a, a < 4 → ∀ b, b < 4 → a ≠ b → (TX4 a).2.1 ≠ (TX4 b).2.1 := by decide +kernel
theorem tyX4_ok : ∀ k, k < 4 → parseFieldDescriptor (TX4 k).2.2.1 = some (tyX4 k) := by decide +kernel
abbrev cX4_init : ByteArray := prog_6_method_1_code
def yX4_init : MethodName := ⟨RX4, "<init>", "()V"⟩
abbrev cX4_lay : ByteArray := prog_6_method_2_code
def yX4_lay : MethodName := ⟨RX4, "lay", "(LByHand$Hands;ILByHand$Things;)V"⟩
abbrev cX4_has : ByteArray := prog_6_method_3_code
def yX4_has : MethodName := ⟨RX4, "has", "(I)Z"⟩
abbrev cX4_alikeTo : ByteArray := prog_6_method_4_code
def yX4_alikeTo : MethodName := ⟨RX4, "alikeTo", "(I)I"⟩
abbrev cX4_lighterThan : ByteArray := prog_6_method_5_code
def yX4_lighterThan : MethodName := ⟨RX4, "lighterThan", "(I)I"⟩
abbrev cX4_isFinerThan : ByteArray := prog_6_method_8_code
def yX4_isFinerThan : MethodName := ⟨RX4, "isFinerThan", "(LByHand$Telling;)Z"⟩
abbrev cX4_within : ByteArray := prog_6_method_9_code
def yX4_within : MethodName := ⟨RX4, "within", "(II)I"⟩
abbrev cX4_alikeToAny : ByteArray := prog_6_method_10_code
def yX4_alikeToAny : MethodName := ⟨RX4, "alikeToAny", "(I)I"⟩
abbrev cX4_fewestSwaps : ByteArray := prog_6_method_11_code
def yX4_fewestSwaps : MethodName := ⟨RX4, "fewestSwaps", "(II)I"⟩
abbrev cX4_behindSwaps : ByteArray := prog_6_method_12_code
def yX4_behindSwaps : MethodName := ⟨RX4, "behindSwaps", "(III)I"⟩
abbrev cX4_leastIn : ByteArray := prog_6_method_13_code
def yX4_leastIn : MethodName := ⟨RX4, "leastIn", "(I)I"⟩
abbrev cX4_countTold : ByteArray := prog_6_method_21_code
def yX4_countTold : MethodName := ⟨RX4, "countTold", "()I"⟩
def RX5 : String := "ByHand$Text"
def TX5 : u_T := fun k => match k with
  | _ => ("", "", "", false)
def tyX5 : Nat → FieldType := fun k => match k with
  | _ => .int
theorem nmX5 : ∀ a, a < 0 → ∀ b, b < 0 → a ≠ b → (TX5 a).2.1 ≠ (TX5 b).2.1 := by decide +kernel
theorem tyX5_ok : ∀ k, k < 0 → parseFieldDescriptor (TX5 k).2.2.1 = some (tyX5 k) := by decide +kernel
abbrev cX5_firstFault : ByteArray := prog_7_method_2_code
def yX5_firstFault : MethodName := ⟨RX5, "firstFault", "(LByHand$Sheets;III)I"⟩
abbrev cX5_goesOn : ByteArray := prog_7_method_3_code
def yX5_goesOn : MethodName := ⟨RX5, "goesOn", "(LByHand$Sheets;III)Z"⟩
abbrev cX5_read : ByteArray := prog_7_method_4_code
def yX5_read : MethodName := ⟨RX5, "read", "(LByHand$Sheets;IIILByHand$Things;)V"⟩
abbrev cX5_number : ByteArray := prog_7_method_5_code
def yX5_number : MethodName := ⟨RX5, "number", "(LByHand$Sheets;II)I"⟩
def RX6 : String := "ByHand$Things"
def TX6 : u_T := fun k => match k with
  | 0 => ("ByHand$Things", "count", "I", false)
  | _ => ("ByHand$Things", "weights", "[I", true)
def tyX6 : Nat → FieldType := fun k => match k with
  | 0 => .int
  | _ => .array .int
theorem nmX6 : ∀ a, a < 2 → ∀ b, b < 2 → a ≠ b → (TX6 a).2.1 ≠ (TX6 b).2.1 := by decide +kernel
theorem tyX6_ok : ∀ k, k < 2 → parseFieldDescriptor (TX6 k).2.2.1 = some (tyX6 k) := by decide +kernel
abbrev cX6_init : ByteArray := prog_8_method_1_code
def yX6_init : MethodName := ⟨RX6, "<init>", "()V"⟩
abbrev cX6_count : ByteArray := prog_8_method_2_code
def yX6_count : MethodName := ⟨RX6, "count", "()I"⟩
abbrev cX6_has : ByteArray := prog_8_method_3_code
def yX6_has : MethodName := ⟨RX6, "has", "(I)Z"⟩
abbrev cX6_weightOf : ByteArray := prog_8_method_4_code
def yX6_weightOf : MethodName := ⟨RX6, "weightOf", "(I)I"⟩
abbrev cX6_setWeight : ByteArray := prog_8_method_5_code
def yX6_setWeight : MethodName := ⟨RX6, "setWeight", "(II)V"⟩
abbrev cX6_clear : ByteArray := prog_8_method_6_code
def yX6_clear : MethodName := ⟨RX6, "clear", "()V"⟩
abbrev cX6_add : ByteArray := prog_8_method_7_code
def yX6_add : MethodName := ⟨RX6, "add", "(I)V"⟩
abbrev cX6_greatestOf : ByteArray := prog_8_method_9_code
def yX6_greatestOf : MethodName := ⟨RX6, "greatestOf", "(I)I"⟩
def RX7 : String := "ByHand"
def TX7 : u_T := fun k => match k with
  | 0 => ("ByHand", "things", "LByHand$Things;", true)
  | 1 => ("ByHand", "hands", "LByHand$Hands;", true)
  | 2 => ("ByHand", "sayings", "LByHand$Sayings;", true)
  | 3 => ("ByHand", "sheets", "LByHand$Sheets;", true)
  | 4 => ("ByHand", "telling", "LByHand$Telling;", true)
  | 5 => ("ByHand", "otherTelling", "LByHand$Telling;", true)
  | 6 => ("ByHand", "handRow", "LByHand$HandRow;", true)
  | 7 => ("ByHand", "traceLeft", "I", false)
  | _ => ("ByHand", "latestFault", "I", false)
def tyX7 : Nat → FieldType := fun k => match k with
  | 0 => .object "ByHand$Things"
  | 1 => .object "ByHand$Hands"
  | 2 => .object "ByHand$Sayings"
  | 3 => .object "ByHand$Sheets"
  | 4 => .object "ByHand$Telling"
  | 5 => .object "ByHand$Telling"
  | 6 => .object "ByHand$HandRow"
  | 7 => .int
  | _ => .int
theorem nmX7 : ∀ a, a < 9 → ∀ b, b < 9 → a ≠ b → (TX7 a).2.1 ≠ (TX7 b).2.1 := by decide +kernel
theorem tyX7_ok : ∀ k, k < 9 → parseFieldDescriptor (TX7 k).2.2.1 = some (tyX7 k) := by decide +kernel
abbrev cX7_init : ByteArray := prog_1_method_1_code
def yX7_init : MethodName := ⟨RX7, "<init>", "()V"⟩
abbrev cX7_market : ByteArray := prog_1_method_2_code
def yX7_market : MethodName := ⟨RX7, "market", "(IIII)I"⟩
abbrev cX7_weight : ByteArray := prog_1_method_3_code
def yX7_weight : MethodName := ⟨RX7, "weight", "(I)I"⟩
abbrev cX7_weigh : ByteArray := prog_1_method_4_code
def yX7_weigh : MethodName := ⟨RX7, "weigh", "(II)I"⟩
abbrev cX7_hand : ByteArray := prog_1_method_5_code
def yX7_hand : MethodName := ⟨RX7, "hand", "(II)I"⟩
abbrev cX7_tells : ByteArray := prog_1_method_7_code
def yX7_tells : MethodName := ⟨RX7, "tells", "(III)I"⟩
abbrev cX7_alike : ByteArray := prog_1_method_8_code
def yX7_alike : MethodName := ⟨RX7, "alike", "(II)I"⟩
abbrev cX7_finer : ByteArray := prog_1_method_9_code
def yX7_finer : MethodName := ⟨RX7, "finer", "(II)I"⟩
abbrev cX7_way : ByteArray := prog_1_method_10_code
def yX7_way : MethodName := ⟨RX7, "way", "(IIII)I"⟩
abbrev cX7_noon : ByteArray := prog_1_method_11_code
def yX7_noon : MethodName := ⟨RX7, "noon", "(III)I"⟩
abbrev cX7_gain : ByteArray := prog_1_method_12_code
def yX7_gain : MethodName := ⟨RX7, "gain", "(IIIII)I"⟩
abbrev cX7_swappedUp : ByteArray := prog_1_method_13_code
def yX7_swappedUp : MethodName := ⟨RX7, "swappedUp", "(I)I"⟩
abbrev cX7_odds : ByteArray := prog_1_method_28_code
def yX7_odds : MethodName := ⟨RX7, "odds", "(II)J"⟩
abbrev cX7_commonDivisor : ByteArray := prog_1_method_29_code
def yX7_commonDivisor : MethodName := ⟨RX7, "commonDivisor", "(II)I"⟩
abbrev cX7_sheet : ByteArray := prog_1_method_30_code
def yX7_sheet : MethodName := ⟨RX7, "sheet", "(III)I"⟩
abbrev cX7_put : ByteArray := prog_1_method_32_code
def yX7_put : MethodName := ⟨RX7, "put", "(III)I"⟩
abbrev cX7_faulty : ByteArray := prog_1_method_47_code
def yX7_faulty : MethodName := ⟨RX7, "faulty", "(I)I"⟩
abbrev cX7_isSort : ByteArray := prog_1_method_48_code
def yX7_isSort : MethodName := ⟨RX7, "isSort", "(I)Z"⟩
abbrev cX7_isKind : ByteArray := prog_1_method_49_code
def yX7_isKind : MethodName := ⟨RX7, "isKind", "(I)Z"⟩
abbrev cX7_isFirstOrSecond : ByteArray := prog_1_method_50_code
def yX7_isFirstOrSecond : MethodName := ⟨RX7, "isFirstOrSecond", "(I)Z"⟩
abbrev cX7_isIn : ByteArray := prog_1_method_51_code
def yX7_isIn : MethodName := ⟨RX7, "isIn", "(II)Z"⟩
def RX8 : String := "ByHandModel"
def TX8 : u_T := fun k => match k with
  | _ => ("", "", "", false)
def tyX8 : Nat → FieldType := fun k => match k with
  | _ => .int
theorem nmX8 : ∀ a, a < 0 → ∀ b, b < 0 → a ≠ b → (TX8 a).2.1 ≠ (TX8 b).2.1 := by decide +kernel
theorem tyX8_ok : ∀ k, k < 0 → parseFieldDescriptor (TX8 k).2.2.1 = some (tyX8 k) := by decide +kernel
def RJ6 : String := "java/lang/Integer"
def TJ6 : u_T := fun k => match k with
  | _ => ("", "", "", false)
def tyJ6 : Nat → FieldType := fun k => match k with
  | _ => .int
theorem nmJ6 : ∀ a, a < 0 → ∀ b, b < 0 → a ≠ b → (TJ6 a).2.1 ≠ (TJ6 b).2.1 := by decide +kernel
theorem tyJ6_ok : ∀ k, k < 0 → parseFieldDescriptor (TJ6 k).2.2.1 = some (tyJ6 k) := by decide +kernel
abbrev cJ6_bitCount_0f7a4 : ByteArray := prog_11_method_49_code
def yJ6_bitCount_0f7a4 : MethodName := ⟨RJ6, "bitCount", "(I)I"⟩
def RJ9 : String := "java/lang/Math"
def TJ9 : u_T := fun k => match k with
  | _ => ("", "", "", false)
def tyJ9 : Nat → FieldType := fun k => match k with
  | _ => .int
theorem nmJ9 : ∀ a, a < 0 → ∀ b, b < 0 → a ≠ b → (TJ9 a).2.1 ≠ (TJ9 b).2.1 := by decide +kernel
theorem tyJ9_ok : ∀ k, k < 0 → parseFieldDescriptor (TJ9 k).2.2.1 = some (tyJ9 k) := by decide +kernel
abbrev cJ9_max_7cf53 : ByteArray := prog_12_method_65_code
def yJ9_max_7cf53 : MethodName := ⟨RJ9, "max", "(II)I"⟩
abbrev cJ9_min_7cf53 : ByteArray := prog_12_method_69_code
def yJ9_min_7cf53 : MethodName := ⟨RJ9, "min", "(II)I"⟩
def RL : String := "ByHandLaw"
abbrev cL_cell : ByteArray := method_2_code
def yL_cell : MethodName := ⟨RL, "cell", "([II)I"⟩
abbrev cL_some : ByteArray := method_3_code
def yL_some : MethodName := ⟨RL, "some", "(II)I"⟩
abbrev cL_put : ByteArray := method_4_code
def yL_put : MethodName := ⟨RL, "put", "(LByHand;[III[I)I"⟩
abbrev cL_come : ByteArray := method_5_code
def yL_come : MethodName := ⟨RL, "come", "(LByHand;[III[I)Z"⟩
abbrev cL_tells : ByteArray := method_6_code
def yL_tells : MethodName := ⟨RL, "tells", "([IIII)Z"⟩
abbrev cL_alike : ByteArray := method_7_code
def yL_alike : MethodName := ⟨RL, "alike", "([IIII)Z"⟩
abbrev cL_isAlike : ByteArray := method_9_code
def yL_isAlike : MethodName := ⟨RL, "isAlike", "(JJJJ)Z"⟩
abbrev cL_law : ByteArray := code
def yL_law : MethodName := ⟨RL, "law", "([I)Z"⟩
abbrev vwCl : List vw_C := [(RX0, TX0, 3), (RX1, TX1, 3), (RX2, TX2, 5), (RX3, TX3, 4), (RX4, TX4, 4), (RX6, TX6, 2), (RX7, TX7, 9)]
/-- the words that every contract stands on: the tables' good words, and 'selects' of the private methods -/
def wsL_law : List Cond := k2_sels lw_privs ++ tables_1.filter goodWord
theorem wsL_law_in : ∀ w ∈ wsL_law, w ∈ lw_tbl := fun w h => (List.mem_append.mp h).elim (fun h => List.mem_append_left _ h) (fun h => List.mem_append_right _ (List.mem_filter.mp h).1)
theorem wsL_sel_good : (k2_sels lw_privs).all goodWord = true := by decide +kernel
theorem wsL_good : ∀ w ∈ wsL_law, (w.onTables && w.keeps) = true ∨ ∃ ty, w = .arrayClass ty := fun w h => good_of_word ((List.mem_append.mp h).elim (fun h => List.all_eq_true.mp wsL_sel_good w h) (fun h => (List.mem_filter.mp h).2))
theorem wsL_of {w : Cond} (h : w ∈ tables_1) (hg : goodWord w = true) : w ∈ wsL_law := List.mem_append_right _ (List.mem_filter.mpr ⟨h, hg⟩)
theorem wsL_sel {w : Cond} (h : w ∈ k2_sels lw_privs) : w ∈ wsL_law := List.mem_append_left _ h
theorem mi_L : Cond.initialized RL ∈ wsL_law := wsL_of (List.mem_of_getElem? (i := 0) (by decide +kernel)) rfl
theorem mi_X7 : Cond.initialized RX7 ∈ wsL_law := wsL_of (List.mem_of_getElem? (i := 1) (by decide +kernel)) rfl
theorem mi_X6 : Cond.initialized RX6 ∈ wsL_law := wsL_of (List.mem_of_getElem? (i := 2) (by decide +kernel)) rfl
theorem mi_X1 : Cond.initialized RX1 ∈ wsL_law := wsL_of (List.mem_of_getElem? (i := 3) (by decide +kernel)) rfl
theorem mi_X2 : Cond.initialized RX2 ∈ wsL_law := wsL_of (List.mem_of_getElem? (i := 4) (by decide +kernel)) rfl
theorem mi_X3 : Cond.initialized RX3 ∈ wsL_law := wsL_of (List.mem_of_getElem? (i := 5) (by decide +kernel)) rfl
theorem mi_X4 : Cond.initialized RX4 ∈ wsL_law := wsL_of (List.mem_of_getElem? (i := 6) (by decide +kernel)) rfl
theorem mi_X0 : Cond.initialized RX0 ∈ wsL_law := wsL_of (List.mem_of_getElem? (i := 7) (by decide +kernel)) rfl
theorem mi_X5 : Cond.initialized RX5 ∈ wsL_law := wsL_of (List.mem_of_getElem? (i := 8) (by decide +kernel)) rfl
theorem mi_J9 : Cond.initialized RJ9 ∈ wsL_law := wsL_of (List.mem_of_getElem? (i := 9) (by decide +kernel)) rfl
theorem mi_J6 : Cond.initialized RJ6 ∈ wsL_law := wsL_of (List.mem_of_getElem? (i := 10) (by decide +kernel)) rfl
theorem mc_X7_init : Cond.code yX7_init cX7_init 1 none ∈ wsL_law := wsL_of (List.mem_append_left _ (List.mem_of_getElem? (i := 15) rfl)) rfl
theorem mn_X7_init : Cond.instanceMethod yX7_init ∈ wsL_law := wsL_of (List.mem_of_getElem? (i := 14) (by decide +kernel)) rfl
theorem mc_X6_init : Cond.code yX6_init cX6_init 1 none ∈ wsL_law := wsL_of (List.mem_append_left _ (List.mem_of_getElem? (i := 23) rfl)) rfl
theorem mn_X6_init : Cond.instanceMethod yX6_init ∈ wsL_law := wsL_of (List.mem_of_getElem? (i := 22) (by decide +kernel)) rfl
theorem mc_X1_init : Cond.code yX1_init cX1_init 1 none ∈ wsL_law := wsL_of (List.mem_append_left _ (List.mem_of_getElem? (i := 37) rfl)) rfl
theorem mn_X1_init : Cond.instanceMethod yX1_init ∈ wsL_law := wsL_of (List.mem_of_getElem? (i := 36) (by decide +kernel)) rfl
theorem mc_X2_init : Cond.code yX2_init cX2_init 1 none ∈ wsL_law := wsL_of (List.mem_append_left _ (List.mem_of_getElem? (i := 53) rfl)) rfl
theorem mn_X2_init : Cond.instanceMethod yX2_init ∈ wsL_law := wsL_of (List.mem_of_getElem? (i := 52) (by decide +kernel)) rfl
theorem mc_X3_init : Cond.code yX3_init cX3_init 1 none ∈ wsL_law := wsL_of (List.mem_append_left _ (List.mem_of_getElem? (i := 75) rfl)) rfl
theorem mn_X3_init : Cond.instanceMethod yX3_init ∈ wsL_law := wsL_of (List.mem_of_getElem? (i := 74) (by decide +kernel)) rfl
theorem mc_X4_init : Cond.code yX4_init cX4_init 1 none ∈ wsL_law := wsL_of (List.mem_append_left _ (List.mem_of_getElem? (i := 97) rfl)) rfl
theorem mn_X4_init : Cond.instanceMethod yX4_init ∈ wsL_law := wsL_of (List.mem_of_getElem? (i := 96) (by decide +kernel)) rfl
theorem mc_X0_init : Cond.code yX0_init cX0_init 1 none ∈ wsL_law := wsL_of (List.mem_append_left _ (List.mem_of_getElem? (i := 116) rfl)) rfl
theorem mn_X0_init : Cond.instanceMethod yX0_init ∈ wsL_law := wsL_of (List.mem_of_getElem? (i := 115) (by decide +kernel)) rfl
theorem mc_X7_market : Cond.code yX7_market cX7_market 7 (some .int) ∈ wsL_law := wsL_of (List.mem_append_left _ (List.mem_of_getElem? (i := 159) rfl)) rfl
theorem mn_X7_market : Cond.instanceMethod yX7_market ∈ wsL_law := wsL_of (List.mem_of_getElem? (i := 157) (by decide +kernel)) rfl
theorem mv_X7_market : Cond.selects RX7 yX7_market yX7_market ∈ wsL_law := wsL_of (List.mem_of_getElem? (i := 158) (by decide +kernel)) rfl
theorem mc_X3_has : Cond.code yX3_has cX3_has 2 (some .boolean) ∈ wsL_law := wsL_of (List.mem_append_left _ (List.mem_of_getElem? (i := 163) rfl)) rfl
theorem mn_X3_has : Cond.instanceMethod yX3_has ∈ wsL_law := wsL_of (List.mem_of_getElem? (i := 161) (by decide +kernel)) rfl
theorem mv_X3_has : Cond.selects RX3 yX3_has yX3_has ∈ wsL_law := wsL_of (List.mem_of_getElem? (i := 162) (by decide +kernel)) rfl
theorem mc_X7_isSort : Cond.code yX7_isSort cX7_isSort 1 (some .boolean) ∈ wsL_law := wsL_of (List.mem_append_left _ (List.mem_of_getElem? (i := 166) rfl)) rfl
theorem ms_X7_isSort : Cond.static yX7_isSort ∈ wsL_law := wsL_of (List.mem_of_getElem? (i := 165) (by decide +kernel)) rfl
theorem mc_X3_faultOfTaking : Cond.code yX3_faultOfTaking cX3_faultOfTaking 5 (some .int) ∈ wsL_law := wsL_of (List.mem_append_left _ (List.mem_of_getElem? (i := 170) rfl)) rfl
theorem mn_X3_faultOfTaking : Cond.instanceMethod yX3_faultOfTaking ∈ wsL_law := wsL_of (List.mem_of_getElem? (i := 168) (by decide +kernel)) rfl
theorem mv_X3_faultOfTaking : Cond.selects RX3 yX3_faultOfTaking yX3_faultOfTaking ∈ wsL_law := wsL_of (List.mem_of_getElem? (i := 169) (by decide +kernel)) rfl
theorem mc_X3_hasRow : Cond.code yX3_hasRow cX3_hasRow 2 (some .boolean) ∈ wsL_law := wsL_of (List.mem_append_left _ (List.mem_of_getElem? (i := 174) rfl)) rfl
theorem mn_X3_hasRow : Cond.instanceMethod yX3_hasRow ∈ wsL_law := wsL_of (List.mem_of_getElem? (i := 172) (by decide +kernel)) rfl
theorem mv_X3_hasRow : Cond.selects RX3 yX3_hasRow yX3_hasRow ∈ wsL_law := wsL_of (List.mem_of_getElem? (i := 173) (by decide +kernel)) rfl
theorem mc_X3_sortOf : Cond.code yX3_sortOf cX3_sortOf 2 (some .int) ∈ wsL_law := wsL_of (List.mem_append_left _ (List.mem_of_getElem? (i := 179) rfl)) rfl
theorem mn_X3_sortOf : Cond.instanceMethod yX3_sortOf ∈ wsL_law := wsL_of (List.mem_of_getElem? (i := 177) (by decide +kernel)) rfl
theorem mv_X3_sortOf : Cond.selects RX3 yX3_sortOf yX3_sortOf ∈ wsL_law := wsL_of (List.mem_of_getElem? (i := 178) (by decide +kernel)) rfl
theorem mc_X3_hasCells : Cond.code yX3_hasCells cX3_hasCells 4 (some .boolean) ∈ wsL_law := wsL_of (List.mem_append_left _ (List.mem_of_getElem? (i := 183) rfl)) rfl
theorem mn_X3_hasCells : Cond.instanceMethod yX3_hasCells ∈ wsL_law := wsL_of (List.mem_of_getElem? (i := 181) (by decide +kernel)) rfl
theorem mv_X3_hasCells : Cond.selects RX3 yX3_hasCells yX3_hasCells ∈ wsL_law := wsL_of (List.mem_of_getElem? (i := 182) (by decide +kernel)) rfl
theorem mc_X7_faulty : Cond.code yX7_faulty cX7_faulty 2 (some .int) ∈ wsL_law := wsL_of (List.mem_append_left _ (List.mem_of_getElem? (i := 187) rfl)) rfl
theorem mn_X7_faulty : Cond.instanceMethod yX7_faulty ∈ wsL_law := wsL_of (List.mem_of_getElem? (i := 186) (by decide +kernel)) rfl
theorem mv_X7_faulty : Cond.selects RX7 yX7_faulty yX7_faulty ∈ wsL_law := wsL_sel (List.mem_of_getElem? (i := 0) (by decide +kernel))
theorem mc_X5_firstFault : Cond.code yX5_firstFault cX5_firstFault 6 (some .int) ∈ wsL_law := wsL_of (List.mem_append_left _ (List.mem_of_getElem? (i := 190) rfl)) rfl
theorem ms_X5_firstFault : Cond.static yX5_firstFault ∈ wsL_law := wsL_of (List.mem_of_getElem? (i := 189) (by decide +kernel)) rfl
theorem mc_X5_goesOn : Cond.code yX5_goesOn cX5_goesOn 6 (some .boolean) ∈ wsL_law := wsL_of (List.mem_append_left _ (List.mem_of_getElem? (i := 193) rfl)) rfl
theorem ms_X5_goesOn : Cond.static yX5_goesOn ∈ wsL_law := wsL_of (List.mem_of_getElem? (i := 192) (by decide +kernel)) rfl
theorem mc_X3_cellOf : Cond.code yX3_cellOf cX3_cellOf 3 (some .int) ∈ wsL_law := wsL_of (List.mem_append_left _ (List.mem_of_getElem? (i := 197) rfl)) rfl
theorem mn_X3_cellOf : Cond.instanceMethod yX3_cellOf ∈ wsL_law := wsL_of (List.mem_of_getElem? (i := 195) (by decide +kernel)) rfl
theorem mv_X3_cellOf : Cond.selects RX3 yX3_cellOf yX3_cellOf ∈ wsL_law := wsL_of (List.mem_of_getElem? (i := 196) (by decide +kernel)) rfl
theorem mc_X5_number : Cond.code yX5_number cX5_number 5 (some .int) ∈ wsL_law := wsL_of (List.mem_append_left _ (List.mem_of_getElem? (i := 200) rfl)) rfl
theorem ms_X5_number : Cond.static yX5_number ∈ wsL_law := wsL_of (List.mem_of_getElem? (i := 199) (by decide +kernel)) rfl
theorem mc_X1_clear : Cond.code yX1_clear cX1_clear 1 none ∈ wsL_law := wsL_of (List.mem_append_left _ (List.mem_of_getElem? (i := 204) rfl)) rfl
theorem mn_X1_clear : Cond.instanceMethod yX1_clear ∈ wsL_law := wsL_of (List.mem_of_getElem? (i := 202) (by decide +kernel)) rfl
theorem mv_X1_clear : Cond.selects RX1 yX1_clear yX1_clear ∈ wsL_law := wsL_of (List.mem_of_getElem? (i := 203) (by decide +kernel)) rfl
theorem mc_X2_clear : Cond.code yX2_clear cX2_clear 1 none ∈ wsL_law := wsL_of (List.mem_append_left _ (List.mem_of_getElem? (i := 208) rfl)) rfl
theorem mn_X2_clear : Cond.instanceMethod yX2_clear ∈ wsL_law := wsL_of (List.mem_of_getElem? (i := 206) (by decide +kernel)) rfl
theorem mv_X2_clear : Cond.selects RX2 yX2_clear yX2_clear ∈ wsL_law := wsL_of (List.mem_of_getElem? (i := 207) (by decide +kernel)) rfl
theorem mc_X5_read : Cond.code yX5_read cX5_read 6 none ∈ wsL_law := wsL_of (List.mem_append_left _ (List.mem_of_getElem? (i := 211) rfl)) rfl
theorem ms_X5_read : Cond.static yX5_read ∈ wsL_law := wsL_of (List.mem_of_getElem? (i := 210) (by decide +kernel)) rfl
theorem mc_X6_clear : Cond.code yX6_clear cX6_clear 1 none ∈ wsL_law := wsL_of (List.mem_append_left _ (List.mem_of_getElem? (i := 215) rfl)) rfl
theorem mn_X6_clear : Cond.instanceMethod yX6_clear ∈ wsL_law := wsL_of (List.mem_of_getElem? (i := 213) (by decide +kernel)) rfl
theorem mv_X6_clear : Cond.selects RX6 yX6_clear yX6_clear ∈ wsL_law := wsL_of (List.mem_of_getElem? (i := 214) (by decide +kernel)) rfl
theorem mc_X6_add : Cond.code yX6_add cX6_add 2 none ∈ wsL_law := wsL_of (List.mem_append_left _ (List.mem_of_getElem? (i := 219) rfl)) rfl
theorem mn_X6_add : Cond.instanceMethod yX6_add ∈ wsL_law := wsL_of (List.mem_of_getElem? (i := 217) (by decide +kernel)) rfl
theorem mv_X6_add : Cond.selects RX6 yX6_add yX6_add ∈ wsL_law := wsL_of (List.mem_of_getElem? (i := 218) (by decide +kernel)) rfl
theorem mc_X6_count : Cond.code yX6_count cX6_count 1 (some .int) ∈ wsL_law := wsL_of (List.mem_append_left _ (List.mem_of_getElem? (i := 223) rfl)) rfl
theorem mn_X6_count : Cond.instanceMethod yX6_count ∈ wsL_law := wsL_of (List.mem_of_getElem? (i := 221) (by decide +kernel)) rfl
theorem mv_X6_count : Cond.selects RX6 yX6_count yX6_count ∈ wsL_law := wsL_of (List.mem_of_getElem? (i := 222) (by decide +kernel)) rfl
theorem mc_X7_weight : Cond.code yX7_weight cX7_weight 2 (some .int) ∈ wsL_law := wsL_of (List.mem_append_left _ (List.mem_of_getElem? (i := 227) rfl)) rfl
theorem mn_X7_weight : Cond.instanceMethod yX7_weight ∈ wsL_law := wsL_of (List.mem_of_getElem? (i := 225) (by decide +kernel)) rfl
theorem mv_X7_weight : Cond.selects RX7 yX7_weight yX7_weight ∈ wsL_law := wsL_of (List.mem_of_getElem? (i := 226) (by decide +kernel)) rfl
theorem mc_X6_has : Cond.code yX6_has cX6_has 2 (some .boolean) ∈ wsL_law := wsL_of (List.mem_append_left _ (List.mem_of_getElem? (i := 231) rfl)) rfl
theorem mn_X6_has : Cond.instanceMethod yX6_has ∈ wsL_law := wsL_of (List.mem_of_getElem? (i := 229) (by decide +kernel)) rfl
theorem mv_X6_has : Cond.selects RX6 yX6_has yX6_has ∈ wsL_law := wsL_of (List.mem_of_getElem? (i := 230) (by decide +kernel)) rfl
theorem mc_X6_weightOf : Cond.code yX6_weightOf cX6_weightOf 2 (some .int) ∈ wsL_law := wsL_of (List.mem_append_left _ (List.mem_of_getElem? (i := 235) rfl)) rfl
theorem mn_X6_weightOf : Cond.instanceMethod yX6_weightOf ∈ wsL_law := wsL_of (List.mem_of_getElem? (i := 233) (by decide +kernel)) rfl
theorem mv_X6_weightOf : Cond.selects RX6 yX6_weightOf yX6_weightOf ∈ wsL_law := wsL_of (List.mem_of_getElem? (i := 234) (by decide +kernel)) rfl
theorem mc_X7_weigh : Cond.code yX7_weigh cX7_weigh 4 (some .int) ∈ wsL_law := wsL_of (List.mem_append_right _ (List.mem_of_getElem? (i := 0) rfl)) rfl
theorem mn_X7_weigh : Cond.instanceMethod yX7_weigh ∈ wsL_law := wsL_of (List.mem_of_getElem? (i := 238) (by decide +kernel)) rfl
theorem mv_X7_weigh : Cond.selects RX7 yX7_weigh yX7_weigh ∈ wsL_law := wsL_of (List.mem_of_getElem? (i := 239) (by decide +kernel)) rfl
theorem mc_X6_setWeight : Cond.code yX6_setWeight cX6_setWeight 3 none ∈ wsL_law := wsL_of (List.mem_append_right _ (List.mem_of_getElem? (i := 4) rfl)) rfl
theorem mn_X6_setWeight : Cond.instanceMethod yX6_setWeight ∈ wsL_law := wsL_of (List.mem_of_getElem? (i := 242) (by decide +kernel)) rfl
theorem mv_X6_setWeight : Cond.selects RX6 yX6_setWeight yX6_setWeight ∈ wsL_law := wsL_of (List.mem_of_getElem? (i := 243) (by decide +kernel)) rfl
theorem mc_X7_tells : Cond.code yX7_tells cX7_tells 4 (some .int) ∈ wsL_law := wsL_of (List.mem_append_right _ (List.mem_of_getElem? (i := 8) rfl)) rfl
theorem mn_X7_tells : Cond.instanceMethod yX7_tells ∈ wsL_law := wsL_of (List.mem_of_getElem? (i := 246) (by decide +kernel)) rfl
theorem mv_X7_tells : Cond.selects RX7 yX7_tells yX7_tells ∈ wsL_law := wsL_of (List.mem_of_getElem? (i := 247) (by decide +kernel)) rfl
theorem mc_X1_has : Cond.code yX1_has cX1_has 2 (some .boolean) ∈ wsL_law := wsL_of (List.mem_append_right _ (List.mem_of_getElem? (i := 12) rfl)) rfl
theorem mn_X1_has : Cond.instanceMethod yX1_has ∈ wsL_law := wsL_of (List.mem_of_getElem? (i := 250) (by decide +kernel)) rfl
theorem mv_X1_has : Cond.selects RX1 yX1_has yX1_has ∈ wsL_law := wsL_of (List.mem_of_getElem? (i := 251) (by decide +kernel)) rfl
theorem mc_X1_feelsHeavier : Cond.code yX1_feelsHeavier cX1_feelsHeavier 5 (some .boolean) ∈ wsL_law := wsL_of (List.mem_append_right _ (List.mem_of_getElem? (i := 16) rfl)) rfl
theorem mn_X1_feelsHeavier : Cond.instanceMethod yX1_feelsHeavier ∈ wsL_law := wsL_of (List.mem_of_getElem? (i := 254) (by decide +kernel)) rfl
theorem mv_X1_feelsHeavier : Cond.selects RX1 yX1_feelsHeavier yX1_feelsHeavier ∈ wsL_law := wsL_of (List.mem_of_getElem? (i := 255) (by decide +kernel)) rfl
theorem mc_X1_timesOf : Cond.code yX1_timesOf cX1_timesOf 2 (some .int) ∈ wsL_law := wsL_of (List.mem_append_right _ (List.mem_of_getElem? (i := 20) rfl)) rfl
theorem mn_X1_timesOf : Cond.instanceMethod yX1_timesOf ∈ wsL_law := wsL_of (List.mem_of_getElem? (i := 259) (by decide +kernel)) rfl
theorem mv_X1_timesOf : Cond.selects RX1 yX1_timesOf yX1_timesOf ∈ wsL_law := wsL_sel (List.mem_of_getElem? (i := 1) (by decide +kernel))
theorem mc_X1_kindOf : Cond.code yX1_kindOf cX1_kindOf 2 (some .int) ∈ wsL_law := wsL_of (List.mem_append_right _ (List.mem_of_getElem? (i := 25) rfl)) rfl
theorem mn_X1_kindOf : Cond.instanceMethod yX1_kindOf ∈ wsL_law := wsL_of (List.mem_of_getElem? (i := 263) (by decide +kernel)) rfl
theorem mv_X1_kindOf : Cond.selects RX1 yX1_kindOf yX1_kindOf ∈ wsL_law := wsL_of (List.mem_of_getElem? (i := 264) (by decide +kernel)) rfl
theorem mc_X7_alike : Cond.code yX7_alike cX7_alike 3 (some .int) ∈ wsL_law := wsL_of (List.mem_append_right _ (List.mem_of_getElem? (i := 29) rfl)) rfl
theorem mn_X7_alike : Cond.instanceMethod yX7_alike ∈ wsL_law := wsL_of (List.mem_of_getElem? (i := 267) (by decide +kernel)) rfl
theorem mv_X7_alike : Cond.selects RX7 yX7_alike yX7_alike ∈ wsL_law := wsL_of (List.mem_of_getElem? (i := 268) (by decide +kernel)) rfl
theorem mc_X4_lay : Cond.code yX4_lay cX4_lay 6 none ∈ wsL_law := wsL_of (List.mem_append_right _ (List.mem_of_getElem? (i := 33) rfl)) rfl
theorem mn_X4_lay : Cond.instanceMethod yX4_lay ∈ wsL_law := wsL_of (List.mem_of_getElem? (i := 271) (by decide +kernel)) rfl
theorem mv_X4_lay : Cond.selects RX4 yX4_lay yX4_lay ∈ wsL_law := wsL_of (List.mem_of_getElem? (i := 272) (by decide +kernel)) rfl
theorem mc_J9_min_7cf53 : Cond.code yJ9_min_7cf53 cJ9_min_7cf53 2 (some .int) ∈ wsL_law := wsL_of (List.mem_append_right _ (List.mem_of_getElem? (i := 37) rfl)) rfl
theorem ms_J9_min_7cf53 : Cond.static yJ9_min_7cf53 ∈ wsL_law := wsL_of (List.mem_of_getElem? (i := 276) (by decide +kernel)) rfl
theorem mc_X1_feelsAlike : Cond.code yX1_feelsAlike cX1_feelsAlike 4 (some .boolean) ∈ wsL_law := wsL_of (List.mem_append_right _ (List.mem_of_getElem? (i := 43) rfl)) rfl
theorem mn_X1_feelsAlike : Cond.instanceMethod yX1_feelsAlike ∈ wsL_law := wsL_of (List.mem_of_getElem? (i := 281) (by decide +kernel)) rfl
theorem mv_X1_feelsAlike : Cond.selects RX1 yX1_feelsAlike yX1_feelsAlike ∈ wsL_law := wsL_of (List.mem_of_getElem? (i := 282) (by decide +kernel)) rfl
theorem mc_X4_alikeTo : Cond.code yX4_alikeTo cX4_alikeTo 2 (some .int) ∈ wsL_law := wsL_of (List.mem_append_right _ (List.mem_of_getElem? (i := 48) rfl)) rfl
theorem mn_X4_alikeTo : Cond.instanceMethod yX4_alikeTo ∈ wsL_law := wsL_of (List.mem_of_getElem? (i := 286) (by decide +kernel)) rfl
theorem mv_X4_alikeTo : Cond.selects RX4 yX4_alikeTo yX4_alikeTo ∈ wsL_law := wsL_of (List.mem_of_getElem? (i := 287) (by decide +kernel)) rfl
theorem mc_X4_has : Cond.code yX4_has cX4_has 2 (some .boolean) ∈ wsL_law := wsL_of (List.mem_append_right _ (List.mem_of_getElem? (i := 52) rfl)) rfl
theorem mn_X4_has : Cond.instanceMethod yX4_has ∈ wsL_law := wsL_of (List.mem_of_getElem? (i := 291) (by decide +kernel)) rfl
theorem mv_X4_has : Cond.selects RX4 yX4_has yX4_has ∈ wsL_law := wsL_sel (List.mem_of_getElem? (i := 2) (by decide +kernel))
theorem mc_X7_finer : Cond.code yX7_finer cX7_finer 3 (some .int) ∈ wsL_law := wsL_of (List.mem_append_right _ (List.mem_of_getElem? (i := 56) rfl)) rfl
theorem mn_X7_finer : Cond.instanceMethod yX7_finer ∈ wsL_law := wsL_of (List.mem_of_getElem? (i := 294) (by decide +kernel)) rfl
theorem mv_X7_finer : Cond.selects RX7 yX7_finer yX7_finer ∈ wsL_law := wsL_of (List.mem_of_getElem? (i := 295) (by decide +kernel)) rfl
theorem mc_X4_isFinerThan : Cond.code yX4_isFinerThan cX4_isFinerThan 4 (some .boolean) ∈ wsL_law := wsL_of (List.mem_append_right _ (List.mem_of_getElem? (i := 60) rfl)) rfl
theorem mn_X4_isFinerThan : Cond.instanceMethod yX4_isFinerThan ∈ wsL_law := wsL_of (List.mem_of_getElem? (i := 298) (by decide +kernel)) rfl
theorem mv_X4_isFinerThan : Cond.selects RX4 yX4_isFinerThan yX4_isFinerThan ∈ wsL_law := wsL_of (List.mem_of_getElem? (i := 299) (by decide +kernel)) rfl
theorem mc_X4_lighterThan : Cond.code yX4_lighterThan cX4_lighterThan 2 (some .int) ∈ wsL_law := wsL_of (List.mem_append_right _ (List.mem_of_getElem? (i := 64) rfl)) rfl
theorem mn_X4_lighterThan : Cond.instanceMethod yX4_lighterThan ∈ wsL_law := wsL_of (List.mem_of_getElem? (i := 302) (by decide +kernel)) rfl
theorem mv_X4_lighterThan : Cond.selects RX4 yX4_lighterThan yX4_lighterThan ∈ wsL_law := wsL_of (List.mem_of_getElem? (i := 303) (by decide +kernel)) rfl
theorem mc_X7_way : Cond.code yX7_way cX7_way 5 (some .int) ∈ wsL_law := wsL_of (List.mem_append_right _ (List.mem_of_getElem? (i := 68) rfl)) rfl
theorem mn_X7_way : Cond.instanceMethod yX7_way ∈ wsL_law := wsL_of (List.mem_of_getElem? (i := 306) (by decide +kernel)) rfl
theorem mv_X7_way : Cond.selects RX7 yX7_way yX7_way ∈ wsL_law := wsL_of (List.mem_of_getElem? (i := 307) (by decide +kernel)) rfl
theorem mc_X4_fewestSwaps : Cond.code yX4_fewestSwaps cX4_fewestSwaps 4 (some .int) ∈ wsL_law := wsL_of (List.mem_append_right _ (List.mem_of_getElem? (i := 72) rfl)) rfl
theorem mn_X4_fewestSwaps : Cond.instanceMethod yX4_fewestSwaps ∈ wsL_law := wsL_of (List.mem_of_getElem? (i := 310) (by decide +kernel)) rfl
theorem mv_X4_fewestSwaps : Cond.selects RX4 yX4_fewestSwaps yX4_fewestSwaps ∈ wsL_law := wsL_of (List.mem_of_getElem? (i := 311) (by decide +kernel)) rfl
theorem mc_X4_within : Cond.code yX4_within cX4_within 5 (some .int) ∈ wsL_law := wsL_of (List.mem_append_right _ (List.mem_of_getElem? (i := 76) rfl)) rfl
theorem mn_X4_within : Cond.instanceMethod yX4_within ∈ wsL_law := wsL_of (List.mem_of_getElem? (i := 314) (by decide +kernel)) rfl
theorem mv_X4_within : Cond.selects RX4 yX4_within yX4_within ∈ wsL_law := wsL_of (List.mem_of_getElem? (i := 315) (by decide +kernel)) rfl
theorem mc_X4_alikeToAny : Cond.code yX4_alikeToAny cX4_alikeToAny 4 (some .int) ∈ wsL_law := wsL_of (List.mem_append_right _ (List.mem_of_getElem? (i := 80) rfl)) rfl
theorem mn_X4_alikeToAny : Cond.instanceMethod yX4_alikeToAny ∈ wsL_law := wsL_of (List.mem_of_getElem? (i := 319) (by decide +kernel)) rfl
theorem mv_X4_alikeToAny : Cond.selects RX4 yX4_alikeToAny yX4_alikeToAny ∈ wsL_law := wsL_sel (List.mem_of_getElem? (i := 3) (by decide +kernel))
theorem mc_X7_isIn : Cond.code yX7_isIn cX7_isIn 2 (some .boolean) ∈ wsL_law := wsL_of (List.mem_append_right _ (List.mem_of_getElem? (i := 83) rfl)) rfl
theorem ms_X7_isIn : Cond.static yX7_isIn ∈ wsL_law := wsL_of (List.mem_of_getElem? (i := 322) (by decide +kernel)) rfl
theorem mc_X4_behindSwaps : Cond.code yX4_behindSwaps cX4_behindSwaps 7 (some .int) ∈ wsL_law := wsL_of (List.mem_append_right _ (List.mem_of_getElem? (i := 88) rfl)) rfl
theorem mn_X4_behindSwaps : Cond.instanceMethod yX4_behindSwaps ∈ wsL_law := wsL_of (List.mem_of_getElem? (i := 326) (by decide +kernel)) rfl
theorem mv_X4_behindSwaps : Cond.selects RX4 yX4_behindSwaps yX4_behindSwaps ∈ wsL_law := wsL_of (List.mem_of_getElem? (i := 327) (by decide +kernel)) rfl
theorem mc_X4_leastIn : Cond.code yX4_leastIn cX4_leastIn 3 (some .int) ∈ wsL_law := wsL_of (List.mem_append_right _ (List.mem_of_getElem? (i := 93) rfl)) rfl
theorem mn_X4_leastIn : Cond.instanceMethod yX4_leastIn ∈ wsL_law := wsL_of (List.mem_of_getElem? (i := 332) (by decide +kernel)) rfl
theorem mv_X4_leastIn : Cond.selects RX4 yX4_leastIn yX4_leastIn ∈ wsL_law := wsL_sel (List.mem_of_getElem? (i := 4) (by decide +kernel))
theorem mc_X7_noon : Cond.code yX7_noon cX7_noon 4 (some .int) ∈ wsL_law := wsL_of (List.mem_append_right _ (List.mem_of_getElem? (i := 97) rfl)) rfl
theorem mn_X7_noon : Cond.instanceMethod yX7_noon ∈ wsL_law := wsL_of (List.mem_of_getElem? (i := 335) (by decide +kernel)) rfl
theorem mv_X7_noon : Cond.selects RX7 yX7_noon yX7_noon ∈ wsL_law := wsL_of (List.mem_of_getElem? (i := 336) (by decide +kernel)) rfl
theorem mc_X7_gain : Cond.code yX7_gain cX7_gain 11 (some .int) ∈ wsL_law := wsL_of (List.mem_append_right _ (List.mem_of_getElem? (i := 102) rfl)) rfl
theorem mn_X7_gain : Cond.instanceMethod yX7_gain ∈ wsL_law := wsL_of (List.mem_of_getElem? (i := 340) (by decide +kernel)) rfl
theorem mv_X7_gain : Cond.selects RX7 yX7_gain yX7_gain ∈ wsL_law := wsL_of (List.mem_of_getElem? (i := 341) (by decide +kernel)) rfl
theorem mc_X7_isFirstOrSecond : Cond.code yX7_isFirstOrSecond cX7_isFirstOrSecond 1 (some .boolean) ∈ wsL_law := wsL_of (List.mem_append_right _ (List.mem_of_getElem? (i := 105) rfl)) rfl
theorem ms_X7_isFirstOrSecond : Cond.static yX7_isFirstOrSecond ∈ wsL_law := wsL_of (List.mem_of_getElem? (i := 344) (by decide +kernel)) rfl
theorem mc_X7_swappedUp : Cond.code yX7_swappedUp cX7_swappedUp 4 (some .int) ∈ wsL_law := wsL_of (List.mem_append_right _ (List.mem_of_getElem? (i := 109) rfl)) rfl
theorem mn_X7_swappedUp : Cond.instanceMethod yX7_swappedUp ∈ wsL_law := wsL_of (List.mem_of_getElem? (i := 348) (by decide +kernel)) rfl
theorem mv_X7_swappedUp : Cond.selects RX7 yX7_swappedUp yX7_swappedUp ∈ wsL_law := wsL_sel (List.mem_of_getElem? (i := 5) (by decide +kernel))
theorem mc_X6_greatestOf : Cond.code yX6_greatestOf cX6_greatestOf 4 (some .int) ∈ wsL_law := wsL_of (List.mem_append_right _ (List.mem_of_getElem? (i := 114) rfl)) rfl
theorem mn_X6_greatestOf : Cond.instanceMethod yX6_greatestOf ∈ wsL_law := wsL_of (List.mem_of_getElem? (i := 352) (by decide +kernel)) rfl
theorem mv_X6_greatestOf : Cond.selects RX6 yX6_greatestOf yX6_greatestOf ∈ wsL_law := wsL_of (List.mem_of_getElem? (i := 353) (by decide +kernel)) rfl
theorem mc_J9_max_7cf53 : Cond.code yJ9_max_7cf53 cJ9_max_7cf53 2 (some .int) ∈ wsL_law := wsL_of (List.mem_append_right _ (List.mem_of_getElem? (i := 119) rfl)) rfl
theorem ms_J9_max_7cf53 : Cond.static yJ9_max_7cf53 ∈ wsL_law := wsL_of (List.mem_of_getElem? (i := 358) (by decide +kernel)) rfl
theorem mc_X7_odds : Cond.code yX7_odds cX7_odds 6 (some .long) ∈ wsL_law := wsL_of (List.mem_append_right _ (List.mem_of_getElem? (i := 123) rfl)) rfl
theorem mn_X7_odds : Cond.instanceMethod yX7_odds ∈ wsL_law := wsL_of (List.mem_of_getElem? (i := 361) (by decide +kernel)) rfl
theorem mv_X7_odds : Cond.selects RX7 yX7_odds yX7_odds ∈ wsL_law := wsL_of (List.mem_of_getElem? (i := 362) (by decide +kernel)) rfl
theorem mc_X4_countTold : Cond.code yX4_countTold cX4_countTold 3 (some .int) ∈ wsL_law := wsL_of (List.mem_append_right _ (List.mem_of_getElem? (i := 128) rfl)) rfl
theorem mn_X4_countTold : Cond.instanceMethod yX4_countTold ∈ wsL_law := wsL_of (List.mem_of_getElem? (i := 366) (by decide +kernel)) rfl
theorem mv_X4_countTold : Cond.selects RX4 yX4_countTold yX4_countTold ∈ wsL_law := wsL_of (List.mem_of_getElem? (i := 367) (by decide +kernel)) rfl
theorem mc_J6_bitCount_0f7a4 : Cond.code yJ6_bitCount_0f7a4 cJ6_bitCount_0f7a4 1 (some .int) ∈ wsL_law := wsL_of (List.mem_append_right _ (List.mem_of_getElem? (i := 131) rfl)) rfl
theorem ms_J6_bitCount_0f7a4 : Cond.static yJ6_bitCount_0f7a4 ∈ wsL_law := wsL_of (List.mem_of_getElem? (i := 370) (by decide +kernel)) rfl
theorem mc_X7_commonDivisor : Cond.code yX7_commonDivisor cX7_commonDivisor 3 (some .int) ∈ wsL_law := wsL_of (List.mem_append_right _ (List.mem_of_getElem? (i := 137) rfl)) rfl
theorem ms_X7_commonDivisor : Cond.static yX7_commonDivisor ∈ wsL_law := wsL_of (List.mem_of_getElem? (i := 376) (by decide +kernel)) rfl
theorem mc_L_cell : Cond.code yL_cell cL_cell 2 (some .int) ∈ wsL_law := wsL_of (List.mem_append_right _ (List.mem_of_getElem? (i := 140) rfl)) rfl
theorem ms_L_cell : Cond.static yL_cell ∈ wsL_law := wsL_of (List.mem_of_getElem? (i := 379) (by decide +kernel)) rfl
theorem mc_L_some : Cond.code yL_some cL_some 2 (some .int) ∈ wsL_law := wsL_of (List.mem_append_right _ (List.mem_of_getElem? (i := 144) rfl)) rfl
theorem ms_L_some : Cond.static yL_some ∈ wsL_law := wsL_of (List.mem_of_getElem? (i := 383) (by decide +kernel)) rfl
theorem mc_L_put : Cond.code yL_put cL_put 11 (some .int) ∈ wsL_law := wsL_of (List.mem_append_right _ (List.mem_of_getElem? (i := 148) rfl)) rfl
theorem ms_L_put : Cond.static yL_put ∈ wsL_law := wsL_of (List.mem_of_getElem? (i := 387) (by decide +kernel)) rfl
theorem mc_X7_sheet : Cond.code yX7_sheet cX7_sheet 4 (some .int) ∈ wsL_law := wsL_of (List.mem_append_right _ (List.mem_of_getElem? (i := 152) rfl)) rfl
theorem mn_X7_sheet : Cond.instanceMethod yX7_sheet ∈ wsL_law := wsL_of (List.mem_of_getElem? (i := 390) (by decide +kernel)) rfl
theorem mv_X7_sheet : Cond.selects RX7 yX7_sheet yX7_sheet ∈ wsL_law := wsL_of (List.mem_of_getElem? (i := 391) (by decide +kernel)) rfl
theorem mc_X3_renew : Cond.code yX3_renew cX3_renew 5 none ∈ wsL_law := wsL_of (List.mem_append_right _ (List.mem_of_getElem? (i := 156) rfl)) rfl
theorem mn_X3_renew : Cond.instanceMethod yX3_renew ∈ wsL_law := wsL_of (List.mem_of_getElem? (i := 394) (by decide +kernel)) rfl
theorem mv_X3_renew : Cond.selects RX3 yX3_renew yX3_renew ∈ wsL_law := wsL_of (List.mem_of_getElem? (i := 395) (by decide +kernel)) rfl
theorem mc_X7_put : Cond.code yX7_put cX7_put 4 (some .int) ∈ wsL_law := wsL_of (List.mem_append_right _ (List.mem_of_getElem? (i := 160) rfl)) rfl
theorem mn_X7_put : Cond.instanceMethod yX7_put ∈ wsL_law := wsL_of (List.mem_of_getElem? (i := 398) (by decide +kernel)) rfl
theorem mv_X7_put : Cond.selects RX7 yX7_put yX7_put ∈ wsL_law := wsL_of (List.mem_of_getElem? (i := 399) (by decide +kernel)) rfl
theorem mc_X3_setCell : Cond.code yX3_setCell cX3_setCell 4 none ∈ wsL_law := wsL_of (List.mem_append_right _ (List.mem_of_getElem? (i := 166) rfl)) rfl
theorem mn_X3_setCell : Cond.instanceMethod yX3_setCell ∈ wsL_law := wsL_of (List.mem_of_getElem? (i := 404) (by decide +kernel)) rfl
theorem mv_X3_setCell : Cond.selects RX3 yX3_setCell yX3_setCell ∈ wsL_law := wsL_of (List.mem_of_getElem? (i := 405) (by decide +kernel)) rfl
theorem mc_X3_cut : Cond.code yX3_cut cX3_cut 2 (some .int) ∈ wsL_law := wsL_of (List.mem_append_right _ (List.mem_of_getElem? (i := 169) rfl)) rfl
theorem ms_X3_cut : Cond.static yX3_cut ∈ wsL_law := wsL_of (List.mem_of_getElem? (i := 408) (by decide +kernel)) rfl
theorem mc_L_come : Cond.code yL_come cL_come 8 (some .boolean) ∈ wsL_law := wsL_of (List.mem_append_right _ (List.mem_of_getElem? (i := 172) rfl)) rfl
theorem ms_L_come : Cond.static yL_come ∈ wsL_law := wsL_of (List.mem_of_getElem? (i := 411) (by decide +kernel)) rfl
theorem mc_X7_hand : Cond.code yX7_hand cX7_hand 3 (some .int) ∈ wsL_law := wsL_of (List.mem_append_right _ (List.mem_of_getElem? (i := 176) rfl)) rfl
theorem mn_X7_hand : Cond.instanceMethod yX7_hand ∈ wsL_law := wsL_of (List.mem_of_getElem? (i := 414) (by decide +kernel)) rfl
theorem mv_X7_hand : Cond.selects RX7 yX7_hand yX7_hand ∈ wsL_law := wsL_of (List.mem_of_getElem? (i := 415) (by decide +kernel)) rfl
theorem mc_X7_isKind : Cond.code yX7_isKind cX7_isKind 1 (some .boolean) ∈ wsL_law := wsL_of (List.mem_append_right _ (List.mem_of_getElem? (i := 179) rfl)) rfl
theorem ms_X7_isKind : Cond.static yX7_isKind ∈ wsL_law := wsL_of (List.mem_of_getElem? (i := 418) (by decide +kernel)) rfl
theorem mc_X1_add : Cond.code yX1_add cX1_add 3 (some .int) ∈ wsL_law := wsL_of (List.mem_append_right _ (List.mem_of_getElem? (i := 183) rfl)) rfl
theorem mn_X1_add : Cond.instanceMethod yX1_add ∈ wsL_law := wsL_of (List.mem_of_getElem? (i := 421) (by decide +kernel)) rfl
theorem mv_X1_add : Cond.selects RX1 yX1_add yX1_add ∈ wsL_law := wsL_of (List.mem_of_getElem? (i := 422) (by decide +kernel)) rfl
theorem mc_L_tells : Cond.code yL_tells cL_tells 5 (some .boolean) ∈ wsL_law := wsL_of (List.mem_append_right _ (List.mem_of_getElem? (i := 186) rfl)) rfl
theorem ms_L_tells : Cond.static yL_tells ∈ wsL_law := wsL_of (List.mem_of_getElem? (i := 425) (by decide +kernel)) rfl
theorem mc_L_alike : Cond.code yL_alike cL_alike 4 (some .boolean) ∈ wsL_law := wsL_of (List.mem_append_right _ (List.mem_of_getElem? (i := 189) rfl)) rfl
theorem ms_L_alike : Cond.static yL_alike ∈ wsL_law := wsL_of (List.mem_of_getElem? (i := 428) (by decide +kernel)) rfl
theorem mc_L_isAlike : Cond.code yL_isAlike cL_isAlike 14 (some .boolean) ∈ wsL_law := wsL_of (List.mem_append_right _ (List.mem_of_getElem? (i := 192) rfl)) rfl
theorem ms_L_isAlike : Cond.static yL_isAlike ∈ wsL_law := wsL_of (List.mem_of_getElem? (i := 431) (by decide +kernel)) rfl
theorem ml_L_35 : Cond.methodLink RL 35 yX7_init ∈ wsL_law := wsL_of (List.mem_of_getElem? (i := 13) (by decide +kernel)) rfl
theorem ml_L_39 : Cond.methodLink RL 39 yX7_market ∈ wsL_law := wsL_of (List.mem_of_getElem? (i := 156) (by decide +kernel)) rfl
theorem ml_L_57 : Cond.methodLink RL 57 yX7_weight ∈ wsL_law := wsL_of (List.mem_of_getElem? (i := 224) (by decide +kernel)) rfl
theorem ml_L_47 : Cond.methodLink RL 47 yX7_weigh ∈ wsL_law := wsL_of (List.mem_of_getElem? (i := 237) (by decide +kernel)) rfl
theorem ml_L_50 : Cond.methodLink RL 50 yX7_tells ∈ wsL_law := wsL_of (List.mem_of_getElem? (i := 245) (by decide +kernel)) rfl
theorem ml_L_55 : Cond.methodLink RL 55 yX7_alike ∈ wsL_law := wsL_of (List.mem_of_getElem? (i := 266) (by decide +kernel)) rfl
theorem ml_L_69 : Cond.methodLink RL 69 yX7_finer ∈ wsL_law := wsL_of (List.mem_of_getElem? (i := 293) (by decide +kernel)) rfl
theorem ml_L_75 : Cond.methodLink RL 75 yX7_way ∈ wsL_law := wsL_of (List.mem_of_getElem? (i := 305) (by decide +kernel)) rfl
theorem ml_L_72 : Cond.methodLink RL 72 yX7_noon ∈ wsL_law := wsL_of (List.mem_of_getElem? (i := 334) (by decide +kernel)) rfl
theorem ml_L_78 : Cond.methodLink RL 78 yX7_gain ∈ wsL_law := wsL_of (List.mem_of_getElem? (i := 339) (by decide +kernel)) rfl
theorem ml_L_61 : Cond.methodLink RL 61 yX7_odds ∈ wsL_law := wsL_of (List.mem_of_getElem? (i := 360) (by decide +kernel)) rfl
theorem ml_L_9 : Cond.methodLink RL 9 yL_cell ∈ wsL_law := wsL_of (List.mem_of_getElem? (i := 378) (by decide +kernel)) rfl
theorem ml_L_15 : Cond.methodLink RL 15 yL_some ∈ wsL_law := wsL_of (List.mem_of_getElem? (i := 382) (by decide +kernel)) rfl
theorem ml_L_36 : Cond.methodLink RL 36 yL_put ∈ wsL_law := wsL_of (List.mem_of_getElem? (i := 386) (by decide +kernel)) rfl
theorem ml_L_19 : Cond.methodLink RL 19 yX7_sheet ∈ wsL_law := wsL_of (List.mem_of_getElem? (i := 389) (by decide +kernel)) rfl
theorem ml_L_25 : Cond.methodLink RL 25 yX7_put ∈ wsL_law := wsL_of (List.mem_of_getElem? (i := 397) (by decide +kernel)) rfl
theorem ml_L_43 : Cond.methodLink RL 43 yL_come ∈ wsL_law := wsL_of (List.mem_of_getElem? (i := 410) (by decide +kernel)) rfl
theorem ml_L_28 : Cond.methodLink RL 28 yX7_hand ∈ wsL_law := wsL_of (List.mem_of_getElem? (i := 413) (by decide +kernel)) rfl
theorem ml_L_31 : Cond.methodLink RL 31 yL_tells ∈ wsL_law := wsL_of (List.mem_of_getElem? (i := 424) (by decide +kernel)) rfl
theorem ml_L_52 : Cond.methodLink RL 52 yL_alike ∈ wsL_law := wsL_of (List.mem_of_getElem? (i := 427) (by decide +kernel)) rfl
theorem ml_L_65 : Cond.methodLink RL 65 yL_isAlike ∈ wsL_law := wsL_of (List.mem_of_getElem? (i := 430) (by decide +kernel)) rfl
theorem ml_X7_63 : Cond.methodLink RX7 63 yX3_has ∈ wsL_law := wsL_of (List.mem_of_getElem? (i := 160) (by decide +kernel)) rfl
theorem ml_X7_67 : Cond.methodLink RX7 67 yX7_isSort ∈ wsL_law := wsL_of (List.mem_of_getElem? (i := 164) (by decide +kernel)) rfl
theorem ml_X7_70 : Cond.methodLink RX7 70 yX3_faultOfTaking ∈ wsL_law := wsL_of (List.mem_of_getElem? (i := 167) (by decide +kernel)) rfl
theorem ml_X7_74 : Cond.methodLink RX7 74 yX7_faulty ∈ wsL_law := wsL_of (List.mem_of_getElem? (i := 184) (by decide +kernel)) rfl
theorem ml_X7_78 : Cond.methodLink RX7 78 yX5_firstFault ∈ wsL_law := wsL_of (List.mem_of_getElem? (i := 188) (by decide +kernel)) rfl
theorem ml_X7_84 : Cond.methodLink RX7 84 yX1_clear ∈ wsL_law := wsL_of (List.mem_of_getElem? (i := 201) (by decide +kernel)) rfl
theorem ml_X7_87 : Cond.methodLink RX7 87 yX2_clear ∈ wsL_law := wsL_of (List.mem_of_getElem? (i := 205) (by decide +kernel)) rfl
theorem ml_X7_88 : Cond.methodLink RX7 88 yX5_read ∈ wsL_law := wsL_of (List.mem_of_getElem? (i := 209) (by decide +kernel)) rfl
theorem ml_X7_92 : Cond.methodLink RX7 92 yX6_count ∈ wsL_law := wsL_of (List.mem_of_getElem? (i := 220) (by decide +kernel)) rfl
theorem ml_X7_96 : Cond.methodLink RX7 96 yX6_has ∈ wsL_law := wsL_of (List.mem_of_getElem? (i := 228) (by decide +kernel)) rfl
theorem ml_X7_97 : Cond.methodLink RX7 97 yX6_weightOf ∈ wsL_law := wsL_of (List.mem_of_getElem? (i := 232) (by decide +kernel)) rfl
theorem ml_X7_100 : Cond.methodLink RX7 100 yX6_setWeight ∈ wsL_law := wsL_of (List.mem_of_getElem? (i := 241) (by decide +kernel)) rfl
theorem ml_X7_111 : Cond.methodLink RX7 111 yX1_has ∈ wsL_law := wsL_of (List.mem_of_getElem? (i := 249) (by decide +kernel)) rfl
theorem ml_X7_121 : Cond.methodLink RX7 121 yX1_feelsHeavier ∈ wsL_law := wsL_of (List.mem_of_getElem? (i := 253) (by decide +kernel)) rfl
theorem ml_X7_125 : Cond.methodLink RX7 125 yX4_lay ∈ wsL_law := wsL_of (List.mem_of_getElem? (i := 270) (by decide +kernel)) rfl
theorem ml_X7_129 : Cond.methodLink RX7 129 yX4_alikeTo ∈ wsL_law := wsL_of (List.mem_of_getElem? (i := 285) (by decide +kernel)) rfl
theorem ml_X7_132 : Cond.methodLink RX7 132 yX4_isFinerThan ∈ wsL_law := wsL_of (List.mem_of_getElem? (i := 297) (by decide +kernel)) rfl
theorem ml_X7_136 : Cond.methodLink RX7 136 yX4_fewestSwaps ∈ wsL_law := wsL_of (List.mem_of_getElem? (i := 309) (by decide +kernel)) rfl
theorem ml_X7_139 : Cond.methodLink RX7 139 yX4_behindSwaps ∈ wsL_law := wsL_of (List.mem_of_getElem? (i := 325) (by decide +kernel)) rfl
theorem ml_X7_143 : Cond.methodLink RX7 143 yX4_within ∈ wsL_law := wsL_of (List.mem_of_getElem? (i := 338) (by decide +kernel)) rfl
theorem ml_X7_112 : Cond.methodLink RX7 112 yX7_isFirstOrSecond ∈ wsL_law := wsL_of (List.mem_of_getElem? (i := 343) (by decide +kernel)) rfl
theorem ml_X7_146 : Cond.methodLink RX7 146 yX7_swappedUp ∈ wsL_law := wsL_of (List.mem_of_getElem? (i := 346) (by decide +kernel)) rfl
theorem ml_X7_152 : Cond.methodLink RX7 152 yX4_lighterThan ∈ wsL_law := wsL_of (List.mem_of_getElem? (i := 350) (by decide +kernel)) rfl
theorem ml_X7_149 : Cond.methodLink RX7 149 yX6_greatestOf ∈ wsL_law := wsL_of (List.mem_of_getElem? (i := 351) (by decide +kernel)) rfl
theorem ml_X7_225 : Cond.methodLink RX7 225 yX4_countTold ∈ wsL_law := wsL_of (List.mem_of_getElem? (i := 365) (by decide +kernel)) rfl
theorem ml_X7_228 : Cond.methodLink RX7 228 yX7_commonDivisor ∈ wsL_law := wsL_of (List.mem_of_getElem? (i := 375) (by decide +kernel)) rfl
theorem ml_X7_231 : Cond.methodLink RX7 231 yX3_renew ∈ wsL_law := wsL_of (List.mem_of_getElem? (i := 393) (by decide +kernel)) rfl
theorem ml_X7_238 : Cond.methodLink RX7 238 yX3_hasRow ∈ wsL_law := wsL_of (List.mem_of_getElem? (i := 401) (by decide +kernel)) rfl
theorem ml_X7_241 : Cond.methodLink RX7 241 yX3_hasCells ∈ wsL_law := wsL_of (List.mem_of_getElem? (i := 402) (by decide +kernel)) rfl
theorem ml_X7_244 : Cond.methodLink RX7 244 yX3_setCell ∈ wsL_law := wsL_of (List.mem_of_getElem? (i := 403) (by decide +kernel)) rfl
theorem ml_X7_104 : Cond.methodLink RX7 104 yX7_isKind ∈ wsL_law := wsL_of (List.mem_of_getElem? (i := 417) (by decide +kernel)) rfl
theorem ml_X7_107 : Cond.methodLink RX7 107 yX1_add ∈ wsL_law := wsL_of (List.mem_of_getElem? (i := 420) (by decide +kernel)) rfl
theorem ml_X6_19 : Cond.methodLink RX6 19 yX6_has ∈ wsL_law := wsL_of (List.mem_of_getElem? (i := 236) (by decide +kernel)) rfl
theorem ml_X6_27 : Cond.methodLink RX6 27 yX6_weightOf ∈ wsL_law := wsL_of (List.mem_of_getElem? (i := 356) (by decide +kernel)) rfl
theorem ml_X6_31 : Cond.methodLink RX6 31 yJ9_max_7cf53 ∈ wsL_law := wsL_of (List.mem_of_getElem? (i := 357) (by decide +kernel)) rfl
theorem ml_X1_26 : Cond.methodLink RX1 26 yX1_timesOf ∈ wsL_law := wsL_of (List.mem_of_getElem? (i := 257) (by decide +kernel)) rfl
theorem ml_X1_22 : Cond.methodLink RX1 22 yX1_has ∈ wsL_law := wsL_of (List.mem_of_getElem? (i := 261) (by decide +kernel)) rfl
theorem ml_X1_30 : Cond.methodLink RX1 30 yX1_kindOf ∈ wsL_law := wsL_of (List.mem_of_getElem? (i := 262) (by decide +kernel)) rfl
theorem ml_X1_33 : Cond.methodLink RX1 33 yX1_feelsHeavier ∈ wsL_law := wsL_of (List.mem_of_getElem? (i := 284) (by decide +kernel)) rfl
theorem ml_X3_31 : Cond.methodLink RX3 31 yX3_hasRow ∈ wsL_law := wsL_of (List.mem_of_getElem? (i := 171) (by decide +kernel)) rfl
theorem ml_X3_27 : Cond.methodLink RX3 27 yX3_has ∈ wsL_law := wsL_of (List.mem_of_getElem? (i := 175) (by decide +kernel)) rfl
theorem ml_X3_34 : Cond.methodLink RX3 34 yX3_sortOf ∈ wsL_law := wsL_of (List.mem_of_getElem? (i := 176) (by decide +kernel)) rfl
theorem ml_X3_38 : Cond.methodLink RX3 38 yX3_hasCells ∈ wsL_law := wsL_of (List.mem_of_getElem? (i := 180) (by decide +kernel)) rfl
theorem ml_X3_42 : Cond.methodLink RX3 42 yX3_cut ∈ wsL_law := wsL_of (List.mem_of_getElem? (i := 407) (by decide +kernel)) rfl
theorem ml_X4_25 : Cond.methodLink RX4 25 yX6_count ∈ wsL_law := wsL_of (List.mem_of_getElem? (i := 274) (by decide +kernel)) rfl
theorem ml_X4_30 : Cond.methodLink RX4 30 yJ9_min_7cf53 ∈ wsL_law := wsL_of (List.mem_of_getElem? (i := 275) (by decide +kernel)) rfl
theorem ml_X4_36 : Cond.methodLink RX4 36 yX6_weightOf ∈ wsL_law := wsL_of (List.mem_of_getElem? (i := 278) (by decide +kernel)) rfl
theorem ml_X4_40 : Cond.methodLink RX4 40 yX1_feelsHeavier ∈ wsL_law := wsL_of (List.mem_of_getElem? (i := 279) (by decide +kernel)) rfl
theorem ml_X4_46 : Cond.methodLink RX4 46 yX1_feelsAlike ∈ wsL_law := wsL_of (List.mem_of_getElem? (i := 280) (by decide +kernel)) rfl
theorem ml_X4_49 : Cond.methodLink RX4 49 yX4_has ∈ wsL_law := wsL_of (List.mem_of_getElem? (i := 289) (by decide +kernel)) rfl
theorem ml_X4_61 : Cond.methodLink RX4 61 yX4_lighterThan ∈ wsL_law := wsL_of (List.mem_of_getElem? (i := 301) (by decide +kernel)) rfl
theorem ml_X4_71 : Cond.methodLink RX4 71 yX4_within ∈ wsL_law := wsL_of (List.mem_of_getElem? (i := 313) (by decide +kernel)) rfl
theorem ml_X4_64 : Cond.methodLink RX4 64 yX4_alikeToAny ∈ wsL_law := wsL_of (List.mem_of_getElem? (i := 317) (by decide +kernel)) rfl
theorem ml_X4_53 : Cond.methodLink RX4 53 yX4_alikeTo ∈ wsL_law := wsL_of (List.mem_of_getElem? (i := 324) (by decide +kernel)) rfl
theorem ml_X4_74 : Cond.methodLink RX4 74 yX4_fewestSwaps ∈ wsL_law := wsL_of (List.mem_of_getElem? (i := 329) (by decide +kernel)) rfl
theorem ml_X4_77 : Cond.methodLink RX4 77 yX4_leastIn ∈ wsL_law := wsL_of (List.mem_of_getElem? (i := 330) (by decide +kernel)) rfl
theorem ml_X4_56 : Cond.methodLink RX4 56 yJ6_bitCount_0f7a4 ∈ wsL_law := wsL_of (List.mem_of_getElem? (i := 369) (by decide +kernel)) rfl
theorem ml_X5_9 : Cond.methodLink RX5 9 yX5_goesOn ∈ wsL_law := wsL_of (List.mem_of_getElem? (i := 191) (by decide +kernel)) rfl
theorem ml_X5_15 : Cond.methodLink RX5 15 yX3_cellOf ∈ wsL_law := wsL_of (List.mem_of_getElem? (i := 194) (by decide +kernel)) rfl
theorem ml_X5_21 : Cond.methodLink RX5 21 yX5_number ∈ wsL_law := wsL_of (List.mem_of_getElem? (i := 198) (by decide +kernel)) rfl
theorem ml_X5_25 : Cond.methodLink RX5 25 yX6_clear ∈ wsL_law := wsL_of (List.mem_of_getElem? (i := 212) (by decide +kernel)) rfl
theorem ml_X5_30 : Cond.methodLink RX5 30 yX6_add ∈ wsL_law := wsL_of (List.mem_of_getElem? (i := 216) (by decide +kernel)) rfl
theorem mf_X6_9 : Cond.fieldLink RX6 9 "ByHand$Things" "count" "I" ∈ wsL_law := wsL_of (List.mem_of_getElem? (i := 25) (by decide +kernel)) rfl
theorem mf_X6_15 : Cond.fieldLink RX6 15 "ByHand$Things" "weights" "[I" ∈ wsL_law := wsL_of (List.mem_of_getElem? (i := 26) (by decide +kernel)) rfl
theorem mf_X1_9 : Cond.fieldLink RX1 9 "ByHand$Hands" "count" "I" ∈ wsL_law := wsL_of (List.mem_of_getElem? (i := 39) (by decide +kernel)) rfl
theorem mf_X1_15 : Cond.fieldLink RX1 15 "ByHand$Hands" "kinds" "[I" ∈ wsL_law := wsL_of (List.mem_of_getElem? (i := 40) (by decide +kernel)) rfl
theorem mf_X1_19 : Cond.fieldLink RX1 19 "ByHand$Hands" "parts" "[I" ∈ wsL_law := wsL_of (List.mem_of_getElem? (i := 41) (by decide +kernel)) rfl
theorem mf_X2_9 : Cond.fieldLink RX2 9 "ByHand$Sayings" "count" "I" ∈ wsL_law := wsL_of (List.mem_of_getElem? (i := 55) (by decide +kernel)) rfl
theorem mf_X2_15 : Cond.fieldLink RX2 15 "ByHand$Sayings" "sayers" "[I" ∈ wsL_law := wsL_of (List.mem_of_getElem? (i := 56) (by decide +kernel)) rfl
theorem mf_X2_19 : Cond.fieldLink RX2 19 "ByHand$Sayings" "firsts" "[I" ∈ wsL_law := wsL_of (List.mem_of_getElem? (i := 57) (by decide +kernel)) rfl
theorem mf_X2_22 : Cond.fieldLink RX2 22 "ByHand$Sayings" "seconds" "[I" ∈ wsL_law := wsL_of (List.mem_of_getElem? (i := 58) (by decide +kernel)) rfl
theorem mf_X2_25 : Cond.fieldLink RX2 25 "ByHand$Sayings" "words" "[I" ∈ wsL_law := wsL_of (List.mem_of_getElem? (i := 59) (by decide +kernel)) rfl
theorem mf_X3_9 : Cond.fieldLink RX3 9 "ByHand$Sheets" "filled" "[Z" ∈ wsL_law := wsL_of (List.mem_of_getElem? (i := 79) (by decide +kernel)) rfl
theorem mf_X3_15 : Cond.fieldLink RX3 15 "ByHand$Sheets" "sorts" "[I" ∈ wsL_law := wsL_of (List.mem_of_getElem? (i := 80) (by decide +kernel)) rfl
theorem mf_X3_19 : Cond.fieldLink RX3 19 "ByHand$Sheets" "lengths" "[I" ∈ wsL_law := wsL_of (List.mem_of_getElem? (i := 81) (by decide +kernel)) rfl
theorem mf_X3_24 : Cond.fieldLink RX3 24 "ByHand$Sheets" "cells" "[[I" ∈ wsL_law := wsL_of (List.mem_of_getElem? (i := 82) (by decide +kernel)) rfl
theorem mf_X4_9 : Cond.fieldLink RX4 9 "ByHand$Telling" "count" "I" ∈ wsL_law := wsL_of (List.mem_of_getElem? (i := 99) (by decide +kernel)) rfl
theorem mf_X4_15 : Cond.fieldLink RX4 15 "ByHand$Telling" "lighter" "[I" ∈ wsL_law := wsL_of (List.mem_of_getElem? (i := 100) (by decide +kernel)) rfl
theorem mf_X4_19 : Cond.fieldLink RX4 19 "ByHand$Telling" "alikes" "[I" ∈ wsL_law := wsL_of (List.mem_of_getElem? (i := 101) (by decide +kernel)) rfl
theorem mf_X4_22 : Cond.fieldLink RX4 22 "ByHand$Telling" "orders" "[I" ∈ wsL_law := wsL_of (List.mem_of_getElem? (i := 102) (by decide +kernel)) rfl
theorem mf_X0_9 : Cond.fieldLink RX0 9 "ByHand$HandRow" "count" "I" ∈ wsL_law := wsL_of (List.mem_of_getElem? (i := 118) (by decide +kernel)) rfl
theorem mf_X0_15 : Cond.fieldLink RX0 15 "ByHand$HandRow" "row" "[I" ∈ wsL_law := wsL_of (List.mem_of_getElem? (i := 119) (by decide +kernel)) rfl
theorem mf_X0_19 : Cond.fieldLink RX0 19 "ByHand$HandRow" "best" "[I" ∈ wsL_law := wsL_of (List.mem_of_getElem? (i := 120) (by decide +kernel)) rfl
theorem mf_X7_14 : Cond.fieldLink RX7 14 "ByHand" "things" "LByHand$Things;" ∈ wsL_law := wsL_of (List.mem_of_getElem? (i := 128) (by decide +kernel)) rfl
theorem mf_X7_21 : Cond.fieldLink RX7 21 "ByHand" "hands" "LByHand$Hands;" ∈ wsL_law := wsL_of (List.mem_of_getElem? (i := 129) (by decide +kernel)) rfl
theorem mf_X7_28 : Cond.fieldLink RX7 28 "ByHand" "sayings" "LByHand$Sayings;" ∈ wsL_law := wsL_of (List.mem_of_getElem? (i := 130) (by decide +kernel)) rfl
theorem mf_X7_35 : Cond.fieldLink RX7 35 "ByHand" "sheets" "LByHand$Sheets;" ∈ wsL_law := wsL_of (List.mem_of_getElem? (i := 131) (by decide +kernel)) rfl
theorem mf_X7_42 : Cond.fieldLink RX7 42 "ByHand" "telling" "LByHand$Telling;" ∈ wsL_law := wsL_of (List.mem_of_getElem? (i := 132) (by decide +kernel)) rfl
theorem mf_X7_46 : Cond.fieldLink RX7 46 "ByHand" "otherTelling" "LByHand$Telling;" ∈ wsL_law := wsL_of (List.mem_of_getElem? (i := 133) (by decide +kernel)) rfl
theorem mf_X7_52 : Cond.fieldLink RX7 52 "ByHand" "handRow" "LByHand$HandRow;" ∈ wsL_law := wsL_of (List.mem_of_getElem? (i := 134) (by decide +kernel)) rfl
theorem mf_X7_56 : Cond.fieldLink RX7 56 "ByHand" "traceLeft" "I" ∈ wsL_law := wsL_of (List.mem_of_getElem? (i := 135) (by decide +kernel)) rfl
theorem mf_X7_60 : Cond.fieldLink RX7 60 "ByHand" "latestFault" "I" ∈ wsL_law := wsL_of (List.mem_of_getElem? (i := 136) (by decide +kernel)) rfl
theorem mk_J6_265 : Cond.constant RJ6 265 (1431655765) ∈ wsL_law := wsL_of (List.mem_of_getElem? (i := 372) (by decide +kernel)) rfl
theorem mk_J6_266 : Cond.constant RJ6 266 (858993459) ∈ wsL_law := wsL_of (List.mem_of_getElem? (i := 373) (by decide +kernel)) rfl
theorem mk_J6_267 : Cond.constant RJ6 267 (252645135) ∈ wsL_law := wsL_of (List.mem_of_getElem? (i := 374) (by decide +kernel)) rfl
theorem mk_L_7 : Cond.constant RL 7 (747796405) ∈ wsL_law := wsL_of (List.mem_of_getElem? (i := 381) (by decide +kernel)) rfl
theorem mk_L_8 : Cond.constant RL 8 (2147483647) ∈ wsL_law := wsL_of (List.mem_of_getElem? (i := 385) (by decide +kernel)) rfl
theorem mk2_X7_223 : Cond.constantLong RX7 223 (-9223372036854775808) ∈ wsL_law := wsL_of (List.mem_of_getElem? (i := 364) (by decide +kernel)) rfl
theorem mk2_L_82 : Cond.constantLong RL 82 (-9223372036854775808) ∈ wsL_law := wsL_of (List.mem_of_getElem? (i := 433) (by decide +kernel)) rfl
theorem mcl_L_20 : Cond.classLink RL 20 RX7 ∈ wsL_law := wsL_of (List.mem_of_getElem? (i := 11) (by decide +kernel)) rfl
theorem mcl_X7_11 : Cond.classLink RX7 11 RX6 ∈ wsL_law := wsL_of (List.mem_of_getElem? (i := 19) (by decide +kernel)) rfl
theorem mcl_X7_18 : Cond.classLink RX7 18 RX1 ∈ wsL_law := wsL_of (List.mem_of_getElem? (i := 33) (by decide +kernel)) rfl
theorem mcl_X7_25 : Cond.classLink RX7 25 RX2 ∈ wsL_law := wsL_of (List.mem_of_getElem? (i := 49) (by decide +kernel)) rfl
theorem mcl_X7_32 : Cond.classLink RX7 32 RX3 ∈ wsL_law := wsL_of (List.mem_of_getElem? (i := 71) (by decide +kernel)) rfl
theorem mcl_X7_39 : Cond.classLink RX7 39 RX4 ∈ wsL_law := wsL_of (List.mem_of_getElem? (i := 93) (by decide +kernel)) rfl
theorem mcl_X7_49 : Cond.classLink RX7 49 RX0 ∈ wsL_law := wsL_of (List.mem_of_getElem? (i := 112) (by decide +kernel)) rfl
theorem mw_X0 : ∀ w ∈ u_ws RX0 TX0 3, w ∈ wsL_law := by
  have h1 : ∀ w ∈ u_ws RX0 TX0 3, w ∈ tables_1 := by decide +kernel
  have h2 : (u_ws RX0 TX0 3).all goodWord = true := by decide +kernel
  exact fun w h => wsL_of (h1 w h) (List.all_eq_true.mp h2 w h)
theorem mw_X1 : ∀ w ∈ u_ws RX1 TX1 3, w ∈ wsL_law := by
  have h1 : ∀ w ∈ u_ws RX1 TX1 3, w ∈ tables_1 := by decide +kernel
  have h2 : (u_ws RX1 TX1 3).all goodWord = true := by decide +kernel
  exact fun w h => wsL_of (h1 w h) (List.all_eq_true.mp h2 w h)
theorem mw_X2 : ∀ w ∈ u_ws RX2 TX2 5, w ∈ wsL_law := by
  have h1 : ∀ w ∈ u_ws RX2 TX2 5, w ∈ tables_1 := by decide +kernel
  have h2 : (u_ws RX2 TX2 5).all goodWord = true := by decide +kernel
  exact fun w h => wsL_of (h1 w h) (List.all_eq_true.mp h2 w h)
theorem mw_X3 : ∀ w ∈ u_ws RX3 TX3 4, w ∈ wsL_law := by
  have h1 : ∀ w ∈ u_ws RX3 TX3 4, w ∈ tables_1 := by decide +kernel
  have h2 : (u_ws RX3 TX3 4).all goodWord = true := by decide +kernel
  exact fun w h => wsL_of (h1 w h) (List.all_eq_true.mp h2 w h)
theorem mw_X4 : ∀ w ∈ u_ws RX4 TX4 4, w ∈ wsL_law := by
  have h1 : ∀ w ∈ u_ws RX4 TX4 4, w ∈ tables_1 := by decide +kernel
  have h2 : (u_ws RX4 TX4 4).all goodWord = true := by decide +kernel
  exact fun w h => wsL_of (h1 w h) (List.all_eq_true.mp h2 w h)
theorem mw_X6 : ∀ w ∈ u_ws RX6 TX6 2, w ∈ wsL_law := by
  have h1 : ∀ w ∈ u_ws RX6 TX6 2, w ∈ tables_1 := by decide +kernel
  have h2 : (u_ws RX6 TX6 2).all goodWord = true := by decide +kernel
  exact fun w h => wsL_of (h1 w h) (List.all_eq_true.mp h2 w h)
theorem mw_X7 : ∀ w ∈ u_ws RX7 TX7 9, w ∈ wsL_law := by
  have h1 : ∀ w ∈ u_ws RX7 TX7 9, w ∈ tables_1 := by decide +kernel
  have h2 : (u_ws RX7 TX7 9).all goodWord = true := by decide +kernel
  exact fun w h => wsL_of (h1 w h) (List.all_eq_true.mp h2 w h)
