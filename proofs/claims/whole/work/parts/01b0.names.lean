/-! ===== BEGIN printed: names, fields, word lists, decode rows ===== -/
def RX0 : String := "DotStores$Dots"
def TX0 : u_T := fun k => match k with
  | 0 => ("DotStores$Dots", "replica", "[I", true)
  | 1 => ("DotStores$Dots", "number", "[I", true)
  | 2 => ("DotStores$Dots", "key", "[I", true)
  | 3 => ("DotStores$Dots", "part", "[I", true)
  | 4 => ("DotStores$Dots", "value", "[J", true)
  | 5 => ("DotStores$Dots", "greatest", "[I", true)
  | _ => ("DotStores$Dots", "count", "I", false)
def tyX0 : Nat → FieldType := fun k => match k with
  | 0 => .array .int
  | 1 => .array .int
  | 2 => .array .int
  | 3 => .array .int
  | 4 => .array .long
  | 5 => .array .int
  | _ => .int
abbrev wsX00 : List Cond := u_ws RX0 TX0 7
theorem nmX0 : ∀ a, a < 7 → ∀ b, b < 7 → a ≠ b → (TX0 a).2.1 ≠ (TX0 b).2.1 := by decide +kernel
theorem tyX0_ok : ∀ k, k < 7 → parseFieldDescriptor (TX0 k).2.2.1 = some (tyX0 k) := by decide +kernel
abbrev cX0_init : ByteArray := prog_2_method_1_code
def yX0_init : MethodName := ⟨RX0, "<init>", "()V"⟩
abbrev cX0_canMake : ByteArray := prog_2_method_2_code
def yX0_canMake : MethodName := ⟨RX0, "canMake", "(I)Z"⟩
abbrev cX0_make : ByteArray := prog_2_method_3_code
def yX0_make : MethodName := ⟨RX0, "make", "(IIIJ)I"⟩
abbrev cX0_fits : ByteArray := prog_2_method_4_code
def yX0_fits : MethodName := ⟨RX0, "fits", "(IIII)Z"⟩
def RX1 : String := "DotStores$State"
def TX1 : u_T := fun k => match k with
  | 0 => ("DotStores$State", "seen", "[J", true)
  | 1 => ("DotStores$State", "live", "[J", true)
  | 2 => ("DotStores$State", "stamps", "[I", true)
  | 3 => ("DotStores$State", "put", "I", false)
  | _ => ("DotStores$State", "taken", "I", false)
def tyX1 : Nat → FieldType := fun k => match k with
  | 0 => .array .long
  | 1 => .array .long
  | 2 => .array .int
  | 3 => .int
  | _ => .int
abbrev wsX10 : List Cond := u_ws RX1 TX1 5
theorem nmX1 : ∀ a, a < 5 → ∀ b, b < 5 → a ≠ b → (TX1 a).2.1 ≠ (TX1 b).2.1 := by decide +kernel
theorem tyX1_ok : ∀ k, k < 5 → parseFieldDescriptor (TX1 k).2.2.1 = some (tyX1 k) := by decide +kernel
abbrev cX1_init : ByteArray := prog_3_method_1_code
def yX1_init : MethodName := ⟨RX1, "<init>", "()V"⟩
abbrev cX1_isSeen : ByteArray := prog_3_method_2_code
def yX1_isSeen : MethodName := ⟨RX1, "isSeen", "(I)Z"⟩
abbrev cX1_isLive : ByteArray := prog_3_method_3_code
def yX1_isLive : MethodName := ⟨RX1, "isLive", "(I)Z"⟩
abbrev cX1_see : ByteArray := prog_3_method_4_code
def yX1_see : MethodName := ⟨RX1, "see", "(I)V"⟩
abbrev cX1_enliven : ByteArray := prog_3_method_5_code
def yX1_enliven : MethodName := ⟨RX1, "enliven", "(I)V"⟩
abbrev cX1_take : ByteArray := prog_3_method_6_code
def yX1_take : MethodName := ⟨RX1, "take", "(LDotStores$State;)Z"⟩
abbrev cX1_takeDots : ByteArray := prog_3_method_7_code
def yX1_takeDots : MethodName := ⟨RX1, "takeDots", "(LDotStores$State;)Z"⟩
abbrev cX1_takeTwice : ByteArray := prog_3_method_8_code
def yX1_takeTwice : MethodName := ⟨RX1, "takeTwice", "(LDotStores$State;)Z"⟩
abbrev cX1_takeTimed : ByteArray := prog_3_method_9_code
def yX1_takeTimed : MethodName := ⟨RX1, "takeTimed", "(LDotStores$State;)Z"⟩
abbrev cX1_become : ByteArray := prog_3_method_10_code
def yX1_become : MethodName := ⟨RX1, "become", "(LDotStores$State;)V"⟩
abbrev cX1_isLike : ByteArray := prog_3_method_11_code
def yX1_isLike : MethodName := ⟨RX1, "isLike", "(LDotStores$State;)Z"⟩
def RX2 : String := "DotStores"
def TX2 : u_T := fun k => match k with
  | 0 => ("DotStores", "replicas", "[LDotStores$State;", true)
  | 1 => ("DotStores", "made", "[LDotStores$State;", true)
  | 2 => ("DotStores", "dots", "LDotStores$Dots;", true)
  | 3 => ("DotStores", "trial", "LDotStores$State;", true)
  | 4 => ("DotStores", "ordered", "[J", true)
  | _ => ("DotStores", "madeCount", "I", false)
def tyX2 : Nat → FieldType := fun k => match k with
  | 0 => .array (.object "DotStores$State")
  | 1 => .array (.object "DotStores$State")
  | 2 => .object "DotStores$Dots"
  | 3 => .object "DotStores$State"
  | 4 => .array .long
  | _ => .int
abbrev wsX20 : List Cond := u_ws RX2 TX2 6
theorem nmX2 : ∀ a, a < 6 → ∀ b, b < 6 → a ≠ b → (TX2 a).2.1 ≠ (TX2 b).2.1 := by decide +kernel
theorem tyX2_ok : ∀ k, k < 6 → parseFieldDescriptor (TX2 k).2.2.1 = some (tyX2 k) := by decide +kernel
abbrev cX2_init : ByteArray := prog_1_method_1_code
def yX2_init : MethodName := ⟨RX2, "<init>", "()V"⟩
abbrev cX2_element : ByteArray := prog_1_method_2_code
def yX2_element : MethodName := ⟨RX2, "element", "(IIIZ)I"⟩
abbrev cX2_write : ByteArray := prog_1_method_3_code
def yX2_write : MethodName := ⟨RX2, "write", "(IIJ)I"⟩
abbrev cX2_count : ByteArray := prog_1_method_4_code
def yX2_count : MethodName := ⟨RX2, "count", "(IIJ)I"⟩
abbrev cX2_flag : ByteArray := prog_1_method_5_code
def yX2_flag : MethodName := ⟨RX2, "flag", "(IIIZ)I"⟩
abbrev cX2_clear : ByteArray := prog_1_method_6_code
def yX2_clear : MethodName := ⟨RX2, "clear", "(II)I"⟩
abbrev cX2_twice : ByteArray := prog_1_method_7_code
def yX2_twice : MethodName := ⟨RX2, "twice", "(IIZ)I"⟩
abbrev cX2_timed : ByteArray := prog_1_method_8_code
def yX2_timed : MethodName := ⟨RX2, "timed", "(IIIZ)I"⟩
abbrev cX2_join : ByteArray := prog_1_method_9_code
def yX2_join : MethodName := ⟨RX2, "join", "(II)I"⟩
abbrev cX2_merge : ByteArray := prog_1_method_10_code
def yX2_merge : MethodName := ⟨RX2, "merge", "(II)I"⟩
abbrev cX2_group : ByteArray := prog_1_method_11_code
def yX2_group : MethodName := ⟨RX2, "group", "(II)I"⟩
abbrev cX2_whole : ByteArray := prog_1_method_12_code
def yX2_whole : MethodName := ⟨RX2, "whole", "(I)I"⟩
abbrev cX2_deltas : ByteArray := prog_1_method_13_code
def yX2_deltas : MethodName := ⟨RX2, "deltas", "()I"⟩
abbrev cX2_has : ByteArray := prog_1_method_14_code
def yX2_has : MethodName := ⟨RX2, "has", "(III)I"⟩
abbrev cX2_values : ByteArray := prog_1_method_15_code
def yX2_values : MethodName := ⟨RX2, "values", "(II)I"⟩
abbrev cX2_value : ByteArray := prog_1_method_16_code
def yX2_value : MethodName := ⟨RX2, "value", "(III)J"⟩
abbrev cX2_sum : ByteArray := prog_1_method_17_code
def yX2_sum : MethodName := ⟨RX2, "sum", "(II)J"⟩
abbrev cX2_keys : ByteArray := prog_1_method_18_code
def yX2_keys : MethodName := ⟨RX2, "keys", "(I)I"⟩
abbrev cX2_inTwice : ByteArray := prog_1_method_19_code
def yX2_inTwice : MethodName := ⟨RX2, "inTwice", "(II)I"⟩
abbrev cX2_inTimed : ByteArray := prog_1_method_20_code
def yX2_inTimed : MethodName := ⟨RX2, "inTimed", "(III)I"⟩
abbrev cX2_seen : ByteArray := prog_1_method_21_code
def yX2_seen : MethodName := ⟨RX2, "seen", "(III)I"⟩
abbrev cX2_size : ByteArray := prog_1_method_22_code
def yX2_size : MethodName := ⟨RX2, "size", "(II)I"⟩
abbrev cX2_same : ByteArray := prog_1_method_23_code
def yX2_same : MethodName := ⟨RX2, "same", "(II)I"⟩
abbrev cX2_below : ByteArray := prog_1_method_24_code
def yX2_below : MethodName := ⟨RX2, "below", "(II)I"⟩
abbrev cX2_replicaAt : ByteArray := prog_1_method_25_code
def yX2_replicaAt : MethodName := ⟨RX2, "replicaAt", "(I)LDotStores$State;"⟩
abbrev cX2_deltaAt : ByteArray := prog_1_method_26_code
def yX2_deltaAt : MethodName := ⟨RX2, "deltaAt", "(I)LDotStores$State;"⟩
abbrev cX2_requireIndex : ByteArray := prog_1_method_27_code
def yX2_requireIndex : MethodName := ⟨RX2, "requireIndex", "(II)V"⟩
abbrev cX2_requireKind : ByteArray := prog_1_method_28_code
def yX2_requireKind : MethodName := ⟨RX2, "requireKind", "(II)V"⟩
abbrev cX2_requireTime : ByteArray := prog_1_method_29_code
def yX2_requireTime : MethodName := ⟨RX2, "requireTime", "(I)V"⟩
abbrev cX2_requireDot : ByteArray := prog_1_method_30_code
def yX2_requireDot : MethodName := ⟨RX2, "requireDot", "(I)V"⟩
abbrev cX2_openDelta : ByteArray := prog_1_method_31_code
def yX2_openDelta : MethodName := ⟨RX2, "openDelta", "()LDotStores$State;"⟩
abbrev cX2_finish : ByteArray := prog_1_method_32_code
def yX2_finish : MethodName := ⟨RX2, "finish", "(LDotStores$State;LDotStores$State;)I"⟩
abbrev cX2_turn : ByteArray := prog_1_method_33_code
def yX2_turn : MethodName := ⟨RX2, "turn", "(LDotStores$State;IIIZ)I"⟩
abbrev cX2_takeBack : ByteArray := prog_1_method_34_code
def yX2_takeBack : MethodName := ⟨RX2, "takeBack", "(LDotStores$State;LDotStores$State;III)J"⟩
abbrev cX2_orderValues : ByteArray := prog_1_method_35_code
def yX2_orderValues : MethodName := ⟨RX2, "orderValues", "(LDotStores$State;I)I"⟩
abbrev cX2_orderValue : ByteArray := prog_1_method_36_code
def yX2_orderValue : MethodName := ⟨RX2, "orderValue", "(JI)I"⟩
abbrev cX2_stamp : ByteArray := prog_1_method_37_code
def yX2_stamp : MethodName := ⟨RX2, "stamp", "(IIZ)I"⟩
abbrev cX2_stampIsIn : ByteArray := prog_1_method_38_code
def yX2_stampIsIn : MethodName := ⟨RX2, "stampIsIn", "(I)Z"⟩
abbrev cX2_stampReplica : ByteArray := prog_1_method_39_code
def yX2_stampReplica : MethodName := ⟨RX2, "stampReplica", "(I)I"⟩
abbrev cX2_stampTime : ByteArray := prog_1_method_40_code
def yX2_stampTime : MethodName := ⟨RX2, "stampTime", "(I)I"⟩
abbrev cX2_bit : ByteArray := prog_1_method_41_code
def yX2_bit : MethodName := ⟨RX2, "bit", "(Z)I"⟩
abbrev cX2_bitsIn : ByteArray := prog_1_method_42_code
def yX2_bitsIn : MethodName := ⟨RX2, "bitsIn", "([J)I"⟩
def RX3 : String := "DotStoresModel"
def TX3 : u_T := fun k => match k with
  | 0 => ("DotStoresModel", "thrown", "I", false)
  | 1 => ("DotStoresModel", "deltas", "I", false)
  | 2 => ("DotStoresModel", "seen", "[J", true)
  | 3 => ("DotStoresModel", "live", "[J", true)
  | 4 => ("DotStoresModel", "put", "[I", true)
  | 5 => ("DotStoresModel", "taken", "[I", true)
  | 6 => ("DotStoresModel", "time", "[I", true)
  | 7 => ("DotStoresModel", "by", "[I", true)
  | 8 => ("DotStoresModel", "isIn", "[Z", true)
  | 9 => ("DotStoresModel", "dotKey", "[I", true)
  | 10 => ("DotStoresModel", "dotPart", "[I", true)
  | 11 => ("DotStoresModel", "dotValue", "[J", true)
  | 12 => ("DotStoresModel", "many", "I", false)
  | _ => ("DotStoresModel", "sorted", "[J", true)
def tyX3 : Nat → FieldType := fun k => match k with
  | 0 => .int
  | 1 => .int
  | 2 => .array .long
  | 3 => .array .long
  | 4 => .array .int
  | 5 => .array .int
  | 6 => .array .int
  | 7 => .array .int
  | 8 => .array .boolean
  | 9 => .array .int
  | 10 => .array .int
  | 11 => .array .long
  | 12 => .int
  | _ => .array .long
abbrev wsX30 : List Cond := u_ws RX3 TX3 14
theorem nmX3 : ∀ a, a < 14 → ∀ b, b < 14 → a ≠ b → (TX3 a).2.1 ≠ (TX3 b).2.1 := by decide +kernel
theorem tyX3_ok : ∀ k, k < 14 → parseFieldDescriptor (TX3 k).2.2.1 = some (tyX3 k) := by decide +kernel
abbrev cX3_init : ByteArray := prog_5_method_1_code
def yX3_init : MethodName := ⟨RX3, "<init>", "()V"⟩
abbrev cX3_thrown : ByteArray := prog_5_method_2_code
def yX3_thrown : MethodName := ⟨RX3, "thrown", "()I"⟩
abbrev cX3_in : ByteArray := prog_5_method_3_code
def yX3_in : MethodName := ⟨RX3, "in", "(III)Z"⟩
abbrev cX3_goes : ByteArray := prog_5_method_4_code
def yX3_goes : MethodName := ⟨RX3, "goes", "(Z)Z"⟩
abbrev cX3_dot : ByteArray := prog_5_method_5_code
def yX3_dot : MethodName := ⟨RX3, "dot", "(II)I"⟩
abbrev cX3_isSet : ByteArray := prog_5_method_6_code
def yX3_isSet : MethodName := ⟨RX3, "isSet", "([JIII)Z"⟩
abbrev cX3_set : ByteArray := prog_5_method_7_code
def yX3_set : MethodName := ⟨RX3, "set", "([JIII)V"⟩
abbrev cX3_greatest : ByteArray := prog_5_method_8_code
def yX3_greatest : MethodName := ⟨RX3, "greatest", "(II)I"⟩
abbrev cX3_empty : ByteArray := prog_5_method_9_code
def yX3_empty : MethodName := ⟨RX3, "empty", "(I)V"⟩
abbrev cX3_copy : ByteArray := prog_5_method_10_code
def yX3_copy : MethodName := ⟨RX3, "copy", "(II)V"⟩
abbrev cX3_copyTimed : ByteArray := prog_5_method_11_code
def yX3_copyTimed : MethodName := ⟨RX3, "copyTimed", "(II)V"⟩
abbrev cX3_isAfter : ByteArray := prog_5_method_12_code
def yX3_isAfter : MethodName := ⟨RX3, "isAfter", "(II)Z"⟩
abbrev cX3_isSame : ByteArray := prog_5_method_13_code
def yX3_isSame : MethodName := ⟨RX3, "isSame", "(II)Z"⟩
abbrev cX3_joinTo : ByteArray := prog_5_method_14_code
def yX3_joinTo : MethodName := ⟨RX3, "joinTo", "(II)V"⟩
abbrev cX3_joined : ByteArray := prog_5_method_15_code
def yX3_joined : MethodName := ⟨RX3, "joined", "(II)I"⟩
abbrev cX3_fresh : ByteArray := prog_5_method_16_code
def yX3_fresh : MethodName := ⟨RX3, "fresh", "()I"⟩
abbrev cX3_done : ByteArray := prog_5_method_17_code
def yX3_done : MethodName := ⟨RX3, "done", "(II)I"⟩
abbrev cX3_isReplica : ByteArray := prog_5_method_18_code
def yX3_isReplica : MethodName := ⟨RX3, "isReplica", "(I)Z"⟩
abbrev cX3_isKey : ByteArray := prog_5_method_19_code
def yX3_isKey : MethodName := ⟨RX3, "isKey", "(I)Z"⟩
abbrev cX3_isElement : ByteArray := prog_5_method_20_code
def yX3_isElement : MethodName := ⟨RX3, "isElement", "(I)Z"⟩
abbrev cX3_takeBack : ByteArray := prog_5_method_21_code
def yX3_takeBack : MethodName := ⟨RX3, "takeBack", "(IIIII)J"⟩
abbrev cX3_newDot : ByteArray := prog_5_method_22_code
def yX3_newDot : MethodName := ⟨RX3, "newDot", "(IIIIJ)V"⟩
abbrev cX3_hasRoom : ByteArray := prog_5_method_23_code
def yX3_hasRoom : MethodName := ⟨RX3, "hasRoom", "(IZ)Z"⟩
abbrev cX3_refusal : ByteArray := prog_5_method_24_code
def yX3_refusal : MethodName := ⟨RX3, "refusal", "(IIZIZ)I"⟩
abbrev cX3_change : ByteArray := prog_5_method_25_code
def yX3_change : MethodName := ⟨RX3, "change", "(IIIZ)I"⟩
abbrev cX3_element : ByteArray := prog_5_method_26_code
def yX3_element : MethodName := ⟨RX3, "element", "(IIIZ)I"⟩
abbrev cX3_write : ByteArray := prog_5_method_27_code
def yX3_write : MethodName := ⟨RX3, "write", "(IIJ)I"⟩
abbrev cX3_count : ByteArray := prog_5_method_28_code
def yX3_count : MethodName := ⟨RX3, "count", "(IIJ)I"⟩
abbrev cX3_flag : ByteArray := prog_5_method_29_code
def yX3_flag : MethodName := ⟨RX3, "flag", "(IIIZ)I"⟩
abbrev cX3_clear : ByteArray := prog_5_method_30_code
def yX3_clear : MethodName := ⟨RX3, "clear", "(II)I"⟩
abbrev cX3_twice : ByteArray := prog_5_method_31_code
def yX3_twice : MethodName := ⟨RX3, "twice", "(IIZ)I"⟩
abbrev cX3_timed : ByteArray := prog_5_method_32_code
def yX3_timed : MethodName := ⟨RX3, "timed", "(IIIZ)I"⟩
abbrev cX3_isDelta : ByteArray := prog_5_method_33_code
def yX3_isDelta : MethodName := ⟨RX3, "isDelta", "(I)Z"⟩
abbrev cX3_join : ByteArray := prog_5_method_34_code
def yX3_join : MethodName := ⟨RX3, "join", "(II)I"⟩
abbrev cX3_merge : ByteArray := prog_5_method_35_code
def yX3_merge : MethodName := ⟨RX3, "merge", "(II)I"⟩
abbrev cX3_group : ByteArray := prog_5_method_36_code
def yX3_group : MethodName := ⟨RX3, "group", "(II)I"⟩
abbrev cX3_whole : ByteArray := prog_5_method_37_code
def yX3_whole : MethodName := ⟨RX3, "whole", "(I)I"⟩
abbrev cX3_deltas : ByteArray := prog_5_method_38_code
def yX3_deltas : MethodName := ⟨RX3, "deltas", "()I"⟩
abbrev cX3_has : ByteArray := prog_5_method_39_code
def yX3_has : MethodName := ⟨RX3, "has", "(III)I"⟩
abbrev cX3_lay : ByteArray := prog_5_method_40_code
def yX3_lay : MethodName := ⟨RX3, "lay", "(II)V"⟩
abbrev cX3_enter : ByteArray := prog_5_method_41_code
def yX3_enter : MethodName := ⟨RX3, "enter", "(J)V"⟩
abbrev cX3_values : ByteArray := prog_5_method_42_code
def yX3_values : MethodName := ⟨RX3, "values", "(II)I"⟩
abbrev cX3_value : ByteArray := prog_5_method_43_code
def yX3_value : MethodName := ⟨RX3, "value", "(III)J"⟩
abbrev cX3_sum : ByteArray := prog_5_method_44_code
def yX3_sum : MethodName := ⟨RX3, "sum", "(II)J"⟩
abbrev cX3_keys : ByteArray := prog_5_method_45_code
def yX3_keys : MethodName := ⟨RX3, "keys", "(I)I"⟩
abbrev cX3_inTwice : ByteArray := prog_5_method_46_code
def yX3_inTwice : MethodName := ⟨RX3, "inTwice", "(II)I"⟩
abbrev cX3_inTimed : ByteArray := prog_5_method_47_code
def yX3_inTimed : MethodName := ⟨RX3, "inTimed", "(III)I"⟩
abbrev cX3_countOf : ByteArray := prog_5_method_48_code
def yX3_countOf : MethodName := ⟨RX3, "countOf", "([JII)I"⟩
abbrev cX3_seen : ByteArray := prog_5_method_49_code
def yX3_seen : MethodName := ⟨RX3, "seen", "(III)I"⟩
abbrev cX3_size : ByteArray := prog_5_method_50_code
def yX3_size : MethodName := ⟨RX3, "size", "(II)I"⟩
abbrev cX3_same : ByteArray := prog_5_method_51_code
def yX3_same : MethodName := ⟨RX3, "same", "(II)I"⟩
abbrev cX3_below : ByteArray := prog_5_method_52_code
def yX3_below : MethodName := ⟨RX3, "below", "(II)I"⟩
def RJ13 : String := "java/lang/Long"
def TJ13 : u_T := fun k => match k with
  | _ => ("", "", "", false)
def tyJ13 : Nat → FieldType := fun k => match k with
  | _ => .int
abbrev wsJ130 : List Cond := u_ws RJ13 TJ13 0
theorem nmJ13 : ∀ a, a < 0 → ∀ b, b < 0 → a ≠ b → (TJ13 a).2.1 ≠ (TJ13 b).2.1 := by decide +kernel
theorem tyJ13_ok : ∀ k, k < 0 → parseFieldDescriptor (TJ13 k).2.2.1 = some (tyJ13 k) := by decide +kernel
abbrev cJ13_bitCount_95d88 : ByteArray := prog_10_method_50_code
def yJ13_bitCount_95d88 : MethodName := ⟨RJ13, "bitCount", "(J)I"⟩
def RJ0 : String := "java/lang/String"
def TJ0 : u_T := fun k => match k with
  | _ => ("", "", "", false)
def tyJ0 : Nat → FieldType := fun k => match k with
  | _ => .int
abbrev wsJ00 : List Cond := u_ws RJ0 TJ0 0
theorem nmJ0 : ∀ a, a < 0 → ∀ b, b < 0 → a ≠ b → (TJ0 a).2.1 ≠ (TJ0 b).2.1 := by decide +kernel
theorem tyJ0_ok : ∀ k, k < 0 → parseFieldDescriptor (TJ0 k).2.2.1 = some (tyJ0 k) := by decide +kernel
def RJ10 : String := "java/lang/System"
def TJ10 : u_T := fun k => match k with
  | _ => ("", "", "", false)
def tyJ10 : Nat → FieldType := fun k => match k with
  | _ => .int
abbrev wsJ100 : List Cond := u_ws RJ10 TJ10 0
theorem nmJ10 : ∀ a, a < 0 → ∀ b, b < 0 → a ≠ b → (TJ10 a).2.1 ≠ (TJ10 b).2.1 := by decide +kernel
theorem tyJ10_ok : ∀ k, k < 0 → parseFieldDescriptor (TJ10 k).2.2.1 = some (tyJ10 k) := by decide +kernel
def wsX0_init : List Cond := .code yX0_init cX0_init 1 none :: ([.methodLink RX0 3 objectInit, .instanceMethod objectInit, .code objectInit ⟨#[0xb1]⟩ 1 none, .arrayClass .int, .fieldLink RX0 9 "DotStores$Dots" "replica" "[I", .fieldLink RX0 15 "DotStores$Dots" "number" "[I", .fieldLink RX0 18 "DotStores$Dots" "key" "[I", .fieldLink RX0 21 "DotStores$Dots" "part" "[I", .arrayClass .long, .fieldLink RX0 24 "DotStores$Dots" "value" "[J", .fieldLink RX0 28 "DotStores$Dots" "greatest" "[I", .fieldLink RX0 31 "DotStores$Dots" "count" "I"] ++ wsX00)
def wsX0_canMake : List Cond := .code yX0_canMake cX0_canMake 2 (some .boolean) :: ([.fieldLink RX0 31 "DotStores$Dots" "count" "I", .fieldLink RX0 28 "DotStores$Dots" "greatest" "[I"] ++ wsX00)
def wsX0_make : List Cond := .code yX0_make cX0_make 7 (some .int) :: ([.fieldLink RX0 31 "DotStores$Dots" "count" "I", .fieldLink RX0 28 "DotStores$Dots" "greatest" "[I", .fieldLink RX0 9 "DotStores$Dots" "replica" "[I", .fieldLink RX0 15 "DotStores$Dots" "number" "[I", .fieldLink RX0 18 "DotStores$Dots" "key" "[I", .fieldLink RX0 21 "DotStores$Dots" "part" "[I", .fieldLink RX0 24 "DotStores$Dots" "value" "[J"] ++ wsX00)
def wsX0_fits : List Cond := .code yX0_fits cX0_fits 5 (some .boolean) :: ([.fieldLink RX0 18 "DotStores$Dots" "key" "[I", .fieldLink RX0 21 "DotStores$Dots" "part" "[I", .fieldLink RX0 9 "DotStores$Dots" "replica" "[I"] ++ wsX00)
def wsX1_init : List Cond := .code yX1_init cX1_init 1 none :: ([.methodLink RX1 3 objectInit, .instanceMethod objectInit, .code objectInit ⟨#[0xb1]⟩ 1 none, .arrayClass .long, .fieldLink RX1 9 "DotStores$State" "seen" "[J", .fieldLink RX1 15 "DotStores$State" "live" "[J", .arrayClass .int, .fieldLink RX1 18 "DotStores$State" "stamps" "[I", .fieldLink RX1 22 "DotStores$State" "put" "I", .fieldLink RX1 26 "DotStores$State" "taken" "I"] ++ wsX10)
def wsX1_isSeen : List Cond := .code yX1_isSeen cX1_isSeen 2 (some .boolean) :: ([.fieldLink RX1 9 "DotStores$State" "seen" "[J"] ++ wsX10)
def wsX1_isLive : List Cond := .code yX1_isLive cX1_isLive 2 (some .boolean) :: ([.fieldLink RX1 15 "DotStores$State" "live" "[J"] ++ wsX10)
def wsX1_see : List Cond := .code yX1_see cX1_see 2 none :: ([.fieldLink RX1 9 "DotStores$State" "seen" "[J"] ++ wsX10)
def wsX1_enliven : List Cond := .code yX1_enliven cX1_enliven 2 none :: ([.fieldLink RX1 15 "DotStores$State" "live" "[J", .methodLink RX1 29 yX1_see, .instanceMethod yX1_see, .selects RX1 yX1_see yX1_see, .initialized RX1, .code yX1_see cX1_see 2 none, .fieldLink RX1 9 "DotStores$State" "seen" "[J"] ++ wsX10)
def wsX1_takeDots : List Cond := .code yX1_takeDots cX1_takeDots 10 (some .boolean) :: ([.fieldLink RX1 15 "DotStores$State" "live" "[J", .fieldLink RX1 9 "DotStores$State" "seen" "[J", .constantLong RX1 43 (-1)] ++ wsX10)
def wsX1_takeTwice : List Cond := .code yX1_takeTwice cX1_takeTwice 5 (some .boolean) :: ([.fieldLink RX1 22 "DotStores$State" "put" "I", .fieldLink RX1 26 "DotStores$State" "taken" "I"] ++ wsX10)
def wsX1_takeTimed : List Cond := .code yX1_takeTimed cX1_takeTimed 4 (some .boolean) :: ([.fieldLink RX1 18 "DotStores$State" "stamps" "[I"] ++ wsX10)
def wsX1_take : List Cond := .code yX1_take cX1_take 5 (some .boolean) :: ([.methodLink RX1 33 yX1_takeDots, .instanceMethod yX1_takeDots, .selects RX1 yX1_takeDots yX1_takeDots, .initialized RX1, .code yX1_takeDots cX1_takeDots 10 (some .boolean), .fieldLink RX1 15 "DotStores$State" "live" "[J", .fieldLink RX1 9 "DotStores$State" "seen" "[J", .constantLong RX1 43 (-1), .methodLink RX1 37 yX1_takeTwice, .instanceMethod yX1_takeTwice, .selects RX1 yX1_takeTwice yX1_takeTwice, .code yX1_takeTwice cX1_takeTwice 5 (some .boolean), .fieldLink RX1 22 "DotStores$State" "put" "I", .fieldLink RX1 26 "DotStores$State" "taken" "I", .methodLink RX1 40 yX1_takeTimed, .instanceMethod yX1_takeTimed, .selects RX1 yX1_takeTimed yX1_takeTimed, .code yX1_takeTimed cX1_takeTimed 4 (some .boolean), .fieldLink RX1 18 "DotStores$State" "stamps" "[I"] ++ wsX10)
def wsX1_become : List Cond := .code yX1_become cX1_become 2 none :: ([.fieldLink RX1 9 "DotStores$State" "seen" "[J", .methodLink RX1 45 arraycopyName, .native arraycopyName, .static arraycopyName, .initialized "java/lang/System", .fieldLink RX1 15 "DotStores$State" "live" "[J", .fieldLink RX1 18 "DotStores$State" "stamps" "[I", .fieldLink RX1 22 "DotStores$State" "put" "I", .fieldLink RX1 26 "DotStores$State" "taken" "I"] ++ wsX10)
def wsX1_isLike : List Cond := .code yX1_isLike cX1_isLike 4 (some .boolean) :: ([.fieldLink RX1 22 "DotStores$State" "put" "I", .fieldLink RX1 26 "DotStores$State" "taken" "I", .fieldLink RX1 9 "DotStores$State" "seen" "[J", .fieldLink RX1 15 "DotStores$State" "live" "[J", .fieldLink RX1 18 "DotStores$State" "stamps" "[I"] ++ wsX10)
def wsX2_init_r1 : List Cond := [Cond.methodLink RX2 3 objectInit, Cond.instanceMethod objectInit, Cond.code objectInit ⟨#[0xb1]⟩ 1 none, Cond.classLink RX2 9 RX1, Cond.fieldLink RX2 11 "DotStores" "replicas" "[LDotStores$State;", Cond.fieldLink RX2 15 "DotStores" "made" "[LDotStores$State;", Cond.classLink RX2 18 RX0, Cond.instantiable RX0 7, Cond.initialized RX0, Cond.fieldLink RX2 21 "DotStores" "dots" "LDotStores$Dots;", Cond.instantiable RX1 5, Cond.initialized RX1, Cond.fieldLink RX2 26 "DotStores" "trial" "LDotStores$State;", Cond.arrayClass .long, Cond.fieldLink RX2 30 "DotStores" "ordered" "[J", Cond.fieldLink RX2 34 "DotStores" "madeCount" "I", Cond.instanceMethod yX0_init, Cond.code yX0_init cX0_init 1 none, Cond.methodLink RX0 3 objectInit, Cond.arrayClass .int, Cond.fieldLink RX0 9 "DotStores$Dots" "replica" "[I", Cond.fieldLink RX0 15 "DotStores$Dots" "number" "[I", Cond.fieldLink RX0 18 "DotStores$Dots" "key" "[I", Cond.fieldLink RX0 21 "DotStores$Dots" "part" "[I"]
def wsX2_init_r2 : List Cond := [Cond.fieldLink RX0 24 "DotStores$Dots" "value" "[J", Cond.fieldLink RX0 28 "DotStores$Dots" "greatest" "[I", Cond.fieldLink RX0 31 "DotStores$Dots" "count" "I", Cond.instanceMethod yX1_init, Cond.code yX1_init cX1_init 1 none, Cond.methodLink RX1 3 objectInit, Cond.fieldLink RX1 9 "DotStores$State" "seen" "[J", Cond.fieldLink RX1 15 "DotStores$State" "live" "[J", Cond.fieldLink RX1 18 "DotStores$State" "stamps" "[I", Cond.fieldLink RX1 22 "DotStores$State" "put" "I", Cond.fieldLink RX1 26 "DotStores$State" "taken" "I"]
def wsX2_init : List Cond := .code yX2_init cX2_init 2 none :: ((wsX2_init_r1 ++ wsX2_init_r2) ++ wsX20 ++ wsX00 ++ wsX10)
def wsX2_replicaAt : List Cond := .code yX2_replicaAt cX2_replicaAt 2 (some (.object "DotStores$State")) :: ([.classLink RX2 161 "java/lang/IndexOutOfBoundsException", .initialized "java/lang/IndexOutOfBoundsException", .fieldLink RX2 11 "DotStores" "replicas" "[LDotStores$State;"] ++ wsX20 ++ (vx_atS RX2 165 "java/lang/IndexOutOfBoundsException" ["java/lang/RuntimeException", "java/lang/Exception"]).filter goodWord)
def wsX2_requireIndex : List Cond := .code yX2_requireIndex cX2_requireIndex 2 none :: ([.classLink RX2 161 "java/lang/IndexOutOfBoundsException", .initialized "java/lang/IndexOutOfBoundsException"] ++ (vx_atS RX2 165 "java/lang/IndexOutOfBoundsException" ["java/lang/RuntimeException", "java/lang/Exception"]).filter goodWord)
def wsX2_requireKind : List Cond := .code yX2_requireKind cX2_requireKind 2 none :: ([.classLink RX2 172 "java/lang/UnsupportedOperationException", .initialized "java/lang/UnsupportedOperationException"] ++ (vx_atS RX2 176 "java/lang/UnsupportedOperationException" ["java/lang/RuntimeException", "java/lang/Exception"]).filter goodWord)
def wsX2_requireDot : List Cond := .code yX2_requireDot cX2_requireDot 2 none :: ([.classLink RX2 186 "java/lang/IllegalStateException", .initialized "java/lang/IllegalStateException", .fieldLink RX2 21 "DotStores" "dots" "LDotStores$Dots;", .methodLink RX2 183 yX0_canMake, .instanceMethod yX0_canMake, .selects RX0 yX0_canMake yX0_canMake, .initialized RX0, .code yX0_canMake cX0_canMake 2 (some .boolean), .fieldLink RX0 31 "DotStores$Dots" "count" "I", .fieldLink RX0 28 "DotStores$Dots" "greatest" "[I"] ++ wsX20 ++ wsX00 ++ (vx_atS RX2 190 "java/lang/IllegalStateException" ["java/lang/RuntimeException", "java/lang/Exception"]).filter goodWord)
def wsX2_openDelta : List Cond := .code yX2_openDelta cX2_openDelta 2 (some (.object "DotStores$State")) :: ([.classLink RX2 186 "java/lang/IllegalStateException", .initialized "java/lang/IllegalStateException", .fieldLink RX2 34 "DotStores" "madeCount" "I", .fieldLink RX2 15 "DotStores" "made" "[LDotStores$State;", .classLink RX2 9 RX1, .instantiable RX1 5, .initialized RX1, .instanceMethod yX1_init, .code yX1_init cX1_init 1 none, .methodLink RX1 3 objectInit, .instanceMethod objectInit, .code objectInit ⟨#[0xb1]⟩ 1 none, .arrayClass .long, .fieldLink RX1 9 "DotStores$State" "seen" "[J", .fieldLink RX1 15 "DotStores$State" "live" "[J", .arrayClass .int, .fieldLink RX1 18 "DotStores$State" "stamps" "[I", .fieldLink RX1 22 "DotStores$State" "put" "I", .fieldLink RX1 26 "DotStores$State" "taken" "I"] ++ wsX20 ++ wsX10 ++ (vx_atS RX2 190 "java/lang/IllegalStateException" ["java/lang/RuntimeException", "java/lang/Exception"]).filter goodWord)
def wsX2_takeBack : List Cond := .code yX2_takeBack cX2_takeBack 9 (some .long) :: ([.fieldLink RX2 21 "DotStores" "dots" "LDotStores$Dots;", .fieldLink RX2 108 "DotStores$Dots" "count" "I", .fieldLink RX2 123 "DotStores$Dots" "value" "[J", .methodLink RX2 111 yX1_isLive, .instanceMethod yX1_isLive, .selects RX1 yX1_isLive yX1_isLive, .initialized RX1, .code yX1_isLive cX1_isLive 2 (some .boolean), .fieldLink RX1 15 "DotStores$State" "live" "[J", .methodLink RX2 115 yX0_fits, .instanceMethod yX0_fits, .selects RX0 yX0_fits yX0_fits, .initialized RX0, .code yX0_fits cX0_fits 5 (some .boolean), .fieldLink RX0 18 "DotStores$Dots" "key" "[I", .fieldLink RX0 21 "DotStores$Dots" "part" "[I", .fieldLink RX0 9 "DotStores$Dots" "replica" "[I", .methodLink RX2 193 yX1_see, .instanceMethod yX1_see, .selects RX1 yX1_see yX1_see, .code yX1_see cX1_see 2 none, .fieldLink RX1 9 "DotStores$State" "seen" "[J"] ++ wsX20 ++ wsX00 ++ wsX10)
def wsX2_finish : List Cond := .code yX2_finish cX2_finish 3 (some .int) :: ([.fieldLink RX2 34 "DotStores" "madeCount" "I", .methodLink RX2 96 yX1_take, .instanceMethod yX1_take, .selects RX1 yX1_take yX1_take, .initialized RX1, .code yX1_take cX1_take 5 (some .boolean), .methodLink RX1 33 yX1_takeDots, .instanceMethod yX1_takeDots, .selects RX1 yX1_takeDots yX1_takeDots, .code yX1_takeDots cX1_takeDots 10 (some .boolean), .fieldLink RX1 15 "DotStores$State" "live" "[J", .fieldLink RX1 9 "DotStores$State" "seen" "[J", .constantLong RX1 43 (-1), .methodLink RX1 37 yX1_takeTwice, .instanceMethod yX1_takeTwice, .selects RX1 yX1_takeTwice yX1_takeTwice, .code yX1_takeTwice cX1_takeTwice 5 (some .boolean), .fieldLink RX1 22 "DotStores$State" "put" "I", .fieldLink RX1 26 "DotStores$State" "taken" "I", .methodLink RX1 40 yX1_takeTimed, .instanceMethod yX1_takeTimed, .selects RX1 yX1_takeTimed yX1_takeTimed, .code yX1_takeTimed cX1_takeTimed 4 (some .boolean), .fieldLink RX1 18 "DotStores$State" "stamps" "[I"] ++ wsX20 ++ wsX10)
def wsX2_turn_r1 : List Cond := [Cond.fieldLink RX2 21 "DotStores" "dots" "LDotStores$Dots;", Cond.methodLink RX2 53 yX2_requireDot, Cond.instanceMethod yX2_requireDot, Cond.selects RX2 yX2_requireDot yX2_requireDot, Cond.initialized RX2, Cond.code yX2_requireDot cX2_requireDot 2 none, Cond.classLink RX2 186 "java/lang/IllegalStateException", Cond.initialized "java/lang/IllegalStateException", Cond.methodLink RX2 183 yX0_canMake, Cond.instanceMethod yX0_canMake, Cond.selects RX0 yX0_canMake yX0_canMake, Cond.initialized RX0, Cond.code yX0_canMake cX0_canMake 2 (some .boolean), Cond.fieldLink RX0 31 "DotStores$Dots" "count" "I", Cond.fieldLink RX0 28 "DotStores$Dots" "greatest" "[I", Cond.methodLink RX2 57 yX2_openDelta, Cond.instanceMethod yX2_openDelta, Cond.selects RX2 yX2_openDelta yX2_openDelta, Cond.code yX2_openDelta cX2_openDelta 2 (some (.object "DotStores$State")), Cond.fieldLink RX2 34 "DotStores" "madeCount" "I", Cond.fieldLink RX2 15 "DotStores" "made" "[LDotStores$State;", Cond.classLink RX2 9 RX1, Cond.instantiable RX1 5, Cond.initialized RX1]
def wsX2_turn_r2 : List Cond := [Cond.instanceMethod yX1_init, Cond.code yX1_init cX1_init 1 none, Cond.methodLink RX1 3 objectInit, Cond.instanceMethod objectInit, Cond.code objectInit ⟨#[0xb1]⟩ 1 none, Cond.arrayClass .long, Cond.fieldLink RX1 9 "DotStores$State" "seen" "[J", Cond.fieldLink RX1 15 "DotStores$State" "live" "[J", Cond.arrayClass .int, Cond.fieldLink RX1 18 "DotStores$State" "stamps" "[I", Cond.fieldLink RX1 22 "DotStores$State" "put" "I", Cond.fieldLink RX1 26 "DotStores$State" "taken" "I", Cond.methodLink RX2 61 yX2_takeBack, Cond.instanceMethod yX2_takeBack, Cond.selects RX2 yX2_takeBack yX2_takeBack, Cond.code yX2_takeBack cX2_takeBack 9 (some .long), Cond.fieldLink RX2 108 "DotStores$Dots" "count" "I", Cond.fieldLink RX2 123 "DotStores$Dots" "value" "[J", Cond.methodLink RX2 111 yX1_isLive, Cond.instanceMethod yX1_isLive, Cond.selects RX1 yX1_isLive yX1_isLive, Cond.code yX1_isLive cX1_isLive 2 (some .boolean), Cond.methodLink RX2 115 yX0_fits, Cond.instanceMethod yX0_fits]
def wsX2_turn_r3 : List Cond := [Cond.selects RX0 yX0_fits yX0_fits, Cond.code yX0_fits cX0_fits 5 (some .boolean), Cond.fieldLink RX0 18 "DotStores$Dots" "key" "[I", Cond.fieldLink RX0 21 "DotStores$Dots" "part" "[I", Cond.fieldLink RX0 9 "DotStores$Dots" "replica" "[I", Cond.methodLink RX2 193 yX1_see, Cond.instanceMethod yX1_see, Cond.selects RX1 yX1_see yX1_see, Cond.code yX1_see cX1_see 2 none, Cond.methodLink RX2 65 yX0_make, Cond.instanceMethod yX0_make, Cond.selects RX0 yX0_make yX0_make, Cond.code yX0_make cX0_make 7 (some .int), Cond.fieldLink RX0 15 "DotStores$Dots" "number" "[I", Cond.fieldLink RX0 24 "DotStores$Dots" "value" "[J", Cond.methodLink RX2 69 yX1_enliven, Cond.instanceMethod yX1_enliven, Cond.selects RX1 yX1_enliven yX1_enliven, Cond.code yX1_enliven cX1_enliven 2 none, Cond.methodLink RX1 29 yX1_see, Cond.methodLink RX2 72 yX2_finish, Cond.instanceMethod yX2_finish, Cond.selects RX2 yX2_finish yX2_finish, Cond.code yX2_finish cX2_finish 3 (some .int)]
def wsX2_turn_r4 : List Cond := [Cond.methodLink RX2 96 yX1_take, Cond.instanceMethod yX1_take, Cond.selects RX1 yX1_take yX1_take, Cond.code yX1_take cX1_take 5 (some .boolean), Cond.methodLink RX1 33 yX1_takeDots, Cond.instanceMethod yX1_takeDots, Cond.selects RX1 yX1_takeDots yX1_takeDots, Cond.code yX1_takeDots cX1_takeDots 10 (some .boolean), Cond.constantLong RX1 43 (-1), Cond.methodLink RX1 37 yX1_takeTwice, Cond.instanceMethod yX1_takeTwice, Cond.selects RX1 yX1_takeTwice yX1_takeTwice, Cond.code yX1_takeTwice cX1_takeTwice 5 (some .boolean), Cond.methodLink RX1 40 yX1_takeTimed, Cond.instanceMethod yX1_takeTimed, Cond.selects RX1 yX1_takeTimed yX1_takeTimed, Cond.code yX1_takeTimed cX1_takeTimed 4 (some .boolean)]
def wsX2_turn : List Cond := .code yX2_turn cX2_turn 7 (some .int) :: ((wsX2_turn_r1 ++ (wsX2_turn_r2 ++ (wsX2_turn_r3 ++ wsX2_turn_r4))) ++ wsX20 ++ wsX00 ++ wsX10 ++ (vx_atS RX2 190 "java/lang/IllegalStateException" ["java/lang/RuntimeException", "java/lang/Exception"]).filter goodWord)
def wsX2_element_r1 : List Cond := [Cond.methodLink RX2 38 yX2_replicaAt, Cond.instanceMethod yX2_replicaAt, Cond.selects RX2 yX2_replicaAt yX2_replicaAt, Cond.initialized RX2, Cond.code yX2_replicaAt cX2_replicaAt 2 (some (.object "DotStores$State")), Cond.classLink RX2 161 "java/lang/IndexOutOfBoundsException", Cond.initialized "java/lang/IndexOutOfBoundsException", Cond.fieldLink RX2 11 "DotStores" "replicas" "[LDotStores$State;", Cond.methodLink RX2 42 yX2_requireIndex, Cond.static yX2_requireIndex, Cond.code yX2_requireIndex cX2_requireIndex 2 none, Cond.methodLink RX2 46 yX2_requireKind, Cond.static yX2_requireKind, Cond.code yX2_requireKind cX2_requireKind 2 none, Cond.classLink RX2 172 "java/lang/UnsupportedOperationException", Cond.initialized "java/lang/UnsupportedOperationException", Cond.methodLink RX2 49 yX2_turn, Cond.instanceMethod yX2_turn, Cond.selects RX2 yX2_turn yX2_turn, Cond.code yX2_turn cX2_turn 7 (some .int), Cond.fieldLink RX2 21 "DotStores" "dots" "LDotStores$Dots;", Cond.methodLink RX2 53 yX2_requireDot, Cond.instanceMethod yX2_requireDot, Cond.selects RX2 yX2_requireDot yX2_requireDot]
def wsX2_element_r2 : List Cond := [Cond.code yX2_requireDot cX2_requireDot 2 none, Cond.classLink RX2 186 "java/lang/IllegalStateException", Cond.initialized "java/lang/IllegalStateException", Cond.methodLink RX2 183 yX0_canMake, Cond.instanceMethod yX0_canMake, Cond.selects RX0 yX0_canMake yX0_canMake, Cond.initialized RX0, Cond.code yX0_canMake cX0_canMake 2 (some .boolean), Cond.fieldLink RX0 31 "DotStores$Dots" "count" "I", Cond.fieldLink RX0 28 "DotStores$Dots" "greatest" "[I", Cond.methodLink RX2 57 yX2_openDelta, Cond.instanceMethod yX2_openDelta, Cond.selects RX2 yX2_openDelta yX2_openDelta, Cond.code yX2_openDelta cX2_openDelta 2 (some (.object "DotStores$State")), Cond.fieldLink RX2 34 "DotStores" "madeCount" "I", Cond.fieldLink RX2 15 "DotStores" "made" "[LDotStores$State;", Cond.classLink RX2 9 RX1, Cond.instantiable RX1 5, Cond.initialized RX1, Cond.instanceMethod yX1_init, Cond.code yX1_init cX1_init 1 none, Cond.methodLink RX1 3 objectInit, Cond.instanceMethod objectInit, Cond.code objectInit ⟨#[0xb1]⟩ 1 none]
def wsX2_element_r3 : List Cond := [Cond.arrayClass .long, Cond.fieldLink RX1 9 "DotStores$State" "seen" "[J", Cond.fieldLink RX1 15 "DotStores$State" "live" "[J", Cond.arrayClass .int, Cond.fieldLink RX1 18 "DotStores$State" "stamps" "[I", Cond.fieldLink RX1 22 "DotStores$State" "put" "I", Cond.fieldLink RX1 26 "DotStores$State" "taken" "I", Cond.methodLink RX2 61 yX2_takeBack, Cond.instanceMethod yX2_takeBack, Cond.selects RX2 yX2_takeBack yX2_takeBack, Cond.code yX2_takeBack cX2_takeBack 9 (some .long), Cond.fieldLink RX2 108 "DotStores$Dots" "count" "I", Cond.fieldLink RX2 123 "DotStores$Dots" "value" "[J", Cond.methodLink RX2 111 yX1_isLive, Cond.instanceMethod yX1_isLive, Cond.selects RX1 yX1_isLive yX1_isLive, Cond.code yX1_isLive cX1_isLive 2 (some .boolean), Cond.methodLink RX2 115 yX0_fits, Cond.instanceMethod yX0_fits, Cond.selects RX0 yX0_fits yX0_fits, Cond.code yX0_fits cX0_fits 5 (some .boolean), Cond.fieldLink RX0 18 "DotStores$Dots" "key" "[I", Cond.fieldLink RX0 21 "DotStores$Dots" "part" "[I", Cond.fieldLink RX0 9 "DotStores$Dots" "replica" "[I"]
def wsX2_element_r4 : List Cond := [Cond.methodLink RX2 193 yX1_see, Cond.instanceMethod yX1_see, Cond.selects RX1 yX1_see yX1_see, Cond.code yX1_see cX1_see 2 none, Cond.methodLink RX2 65 yX0_make, Cond.instanceMethod yX0_make, Cond.selects RX0 yX0_make yX0_make, Cond.code yX0_make cX0_make 7 (some .int), Cond.fieldLink RX0 15 "DotStores$Dots" "number" "[I", Cond.fieldLink RX0 24 "DotStores$Dots" "value" "[J", Cond.methodLink RX2 69 yX1_enliven, Cond.instanceMethod yX1_enliven, Cond.selects RX1 yX1_enliven yX1_enliven, Cond.code yX1_enliven cX1_enliven 2 none, Cond.methodLink RX1 29 yX1_see, Cond.methodLink RX2 72 yX2_finish, Cond.instanceMethod yX2_finish, Cond.selects RX2 yX2_finish yX2_finish, Cond.code yX2_finish cX2_finish 3 (some .int), Cond.methodLink RX2 96 yX1_take, Cond.instanceMethod yX1_take, Cond.selects RX1 yX1_take yX1_take, Cond.code yX1_take cX1_take 5 (some .boolean), Cond.methodLink RX1 33 yX1_takeDots]
def wsX2_element_r5 : List Cond := [Cond.instanceMethod yX1_takeDots, Cond.selects RX1 yX1_takeDots yX1_takeDots, Cond.code yX1_takeDots cX1_takeDots 10 (some .boolean), Cond.constantLong RX1 43 (-1), Cond.methodLink RX1 37 yX1_takeTwice, Cond.instanceMethod yX1_takeTwice, Cond.selects RX1 yX1_takeTwice yX1_takeTwice, Cond.code yX1_takeTwice cX1_takeTwice 5 (some .boolean), Cond.methodLink RX1 40 yX1_takeTimed, Cond.instanceMethod yX1_takeTimed, Cond.selects RX1 yX1_takeTimed yX1_takeTimed, Cond.code yX1_takeTimed cX1_takeTimed 4 (some .boolean)]
def wsX2_element : List Cond := .code yX2_element cX2_element 6 (some .int) :: ((wsX2_element_r1 ++ (wsX2_element_r2 ++ (wsX2_element_r3 ++ (wsX2_element_r4 ++ wsX2_element_r5)))) ++ wsX20 ++ wsX00 ++ wsX10 ++ (vx_atS RX2 165 "java/lang/IndexOutOfBoundsException" ["java/lang/RuntimeException", "java/lang/Exception"]).filter goodWord ++ (vx_atS RX2 176 "java/lang/UnsupportedOperationException" ["java/lang/RuntimeException", "java/lang/Exception"]).filter goodWord ++ (vx_atS RX2 190 "java/lang/IllegalStateException" ["java/lang/RuntimeException", "java/lang/Exception"]).filter goodWord)
def wsX2_write_r1 : List Cond := [Cond.fieldLink RX2 21 "DotStores" "dots" "LDotStores$Dots;", Cond.methodLink RX2 38 yX2_replicaAt, Cond.instanceMethod yX2_replicaAt, Cond.selects RX2 yX2_replicaAt yX2_replicaAt, Cond.initialized RX2, Cond.code yX2_replicaAt cX2_replicaAt 2 (some (.object "DotStores$State")), Cond.classLink RX2 161 "java/lang/IndexOutOfBoundsException", Cond.initialized "java/lang/IndexOutOfBoundsException", Cond.fieldLink RX2 11 "DotStores" "replicas" "[LDotStores$State;", Cond.methodLink RX2 42 yX2_requireIndex, Cond.static yX2_requireIndex, Cond.code yX2_requireIndex cX2_requireIndex 2 none, Cond.methodLink RX2 46 yX2_requireKind, Cond.static yX2_requireKind, Cond.code yX2_requireKind cX2_requireKind 2 none, Cond.classLink RX2 172 "java/lang/UnsupportedOperationException", Cond.initialized "java/lang/UnsupportedOperationException", Cond.methodLink RX2 53 yX2_requireDot, Cond.instanceMethod yX2_requireDot, Cond.selects RX2 yX2_requireDot yX2_requireDot, Cond.code yX2_requireDot cX2_requireDot 2 none, Cond.classLink RX2 186 "java/lang/IllegalStateException", Cond.initialized "java/lang/IllegalStateException", Cond.methodLink RX2 183 yX0_canMake]
def wsX2_write_r2 : List Cond := [Cond.instanceMethod yX0_canMake, Cond.selects RX0 yX0_canMake yX0_canMake, Cond.initialized RX0, Cond.code yX0_canMake cX0_canMake 2 (some .boolean), Cond.fieldLink RX0 31 "DotStores$Dots" "count" "I", Cond.fieldLink RX0 28 "DotStores$Dots" "greatest" "[I", Cond.methodLink RX2 57 yX2_openDelta, Cond.instanceMethod yX2_openDelta, Cond.selects RX2 yX2_openDelta yX2_openDelta, Cond.code yX2_openDelta cX2_openDelta 2 (some (.object "DotStores$State")), Cond.fieldLink RX2 34 "DotStores" "madeCount" "I", Cond.fieldLink RX2 15 "DotStores" "made" "[LDotStores$State;", Cond.classLink RX2 9 RX1, Cond.instantiable RX1 5, Cond.initialized RX1, Cond.instanceMethod yX1_init, Cond.code yX1_init cX1_init 1 none, Cond.methodLink RX1 3 objectInit, Cond.instanceMethod objectInit, Cond.code objectInit ⟨#[0xb1]⟩ 1 none, Cond.arrayClass .long, Cond.fieldLink RX1 9 "DotStores$State" "seen" "[J", Cond.fieldLink RX1 15 "DotStores$State" "live" "[J", Cond.arrayClass .int]
def wsX2_write_r3 : List Cond := [Cond.fieldLink RX1 18 "DotStores$State" "stamps" "[I", Cond.fieldLink RX1 22 "DotStores$State" "put" "I", Cond.fieldLink RX1 26 "DotStores$State" "taken" "I", Cond.methodLink RX2 61 yX2_takeBack, Cond.instanceMethod yX2_takeBack, Cond.selects RX2 yX2_takeBack yX2_takeBack, Cond.code yX2_takeBack cX2_takeBack 9 (some .long), Cond.fieldLink RX2 108 "DotStores$Dots" "count" "I", Cond.fieldLink RX2 123 "DotStores$Dots" "value" "[J", Cond.methodLink RX2 111 yX1_isLive, Cond.instanceMethod yX1_isLive, Cond.selects RX1 yX1_isLive yX1_isLive, Cond.code yX1_isLive cX1_isLive 2 (some .boolean), Cond.methodLink RX2 115 yX0_fits, Cond.instanceMethod yX0_fits, Cond.selects RX0 yX0_fits yX0_fits, Cond.code yX0_fits cX0_fits 5 (some .boolean), Cond.fieldLink RX0 18 "DotStores$Dots" "key" "[I", Cond.fieldLink RX0 21 "DotStores$Dots" "part" "[I", Cond.fieldLink RX0 9 "DotStores$Dots" "replica" "[I", Cond.methodLink RX2 193 yX1_see, Cond.instanceMethod yX1_see, Cond.selects RX1 yX1_see yX1_see, Cond.code yX1_see cX1_see 2 none]
def wsX2_write_r4 : List Cond := [Cond.methodLink RX2 65 yX0_make, Cond.instanceMethod yX0_make, Cond.selects RX0 yX0_make yX0_make, Cond.code yX0_make cX0_make 7 (some .int), Cond.fieldLink RX0 15 "DotStores$Dots" "number" "[I", Cond.fieldLink RX0 24 "DotStores$Dots" "value" "[J", Cond.methodLink RX2 69 yX1_enliven, Cond.instanceMethod yX1_enliven, Cond.selects RX1 yX1_enliven yX1_enliven, Cond.code yX1_enliven cX1_enliven 2 none, Cond.methodLink RX1 29 yX1_see, Cond.methodLink RX2 72 yX2_finish, Cond.instanceMethod yX2_finish, Cond.selects RX2 yX2_finish yX2_finish, Cond.code yX2_finish cX2_finish 3 (some .int), Cond.methodLink RX2 96 yX1_take, Cond.instanceMethod yX1_take, Cond.selects RX1 yX1_take yX1_take, Cond.code yX1_take cX1_take 5 (some .boolean), Cond.methodLink RX1 33 yX1_takeDots, Cond.instanceMethod yX1_takeDots, Cond.selects RX1 yX1_takeDots yX1_takeDots, Cond.code yX1_takeDots cX1_takeDots 10 (some .boolean), Cond.constantLong RX1 43 (-1)]
def wsX2_write_r5 : List Cond := [Cond.methodLink RX1 37 yX1_takeTwice, Cond.instanceMethod yX1_takeTwice, Cond.selects RX1 yX1_takeTwice yX1_takeTwice, Cond.code yX1_takeTwice cX1_takeTwice 5 (some .boolean), Cond.methodLink RX1 40 yX1_takeTimed, Cond.instanceMethod yX1_takeTimed, Cond.selects RX1 yX1_takeTimed yX1_takeTimed, Cond.code yX1_takeTimed cX1_takeTimed 4 (some .boolean)]
def wsX2_write : List Cond := .code yX2_write cX2_write 7 (some .int) :: ((wsX2_write_r1 ++ (wsX2_write_r2 ++ (wsX2_write_r3 ++ (wsX2_write_r4 ++ wsX2_write_r5)))) ++ wsX20 ++ wsX00 ++ wsX10 ++ (vx_atS RX2 165 "java/lang/IndexOutOfBoundsException" ["java/lang/RuntimeException", "java/lang/Exception"]).filter goodWord ++ (vx_atS RX2 176 "java/lang/UnsupportedOperationException" ["java/lang/RuntimeException", "java/lang/Exception"]).filter goodWord ++ (vx_atS RX2 190 "java/lang/IllegalStateException" ["java/lang/RuntimeException", "java/lang/Exception"]).filter goodWord)
def wsX2_count_r1 : List Cond := [Cond.fieldLink RX2 21 "DotStores" "dots" "LDotStores$Dots;", Cond.methodLink RX2 38 yX2_replicaAt, Cond.instanceMethod yX2_replicaAt, Cond.selects RX2 yX2_replicaAt yX2_replicaAt, Cond.initialized RX2, Cond.code yX2_replicaAt cX2_replicaAt 2 (some (.object "DotStores$State")), Cond.classLink RX2 161 "java/lang/IndexOutOfBoundsException", Cond.initialized "java/lang/IndexOutOfBoundsException", Cond.fieldLink RX2 11 "DotStores" "replicas" "[LDotStores$State;", Cond.methodLink RX2 42 yX2_requireIndex, Cond.static yX2_requireIndex, Cond.code yX2_requireIndex cX2_requireIndex 2 none, Cond.methodLink RX2 46 yX2_requireKind, Cond.static yX2_requireKind, Cond.code yX2_requireKind cX2_requireKind 2 none, Cond.classLink RX2 172 "java/lang/UnsupportedOperationException", Cond.initialized "java/lang/UnsupportedOperationException", Cond.methodLink RX2 53 yX2_requireDot, Cond.instanceMethod yX2_requireDot, Cond.selects RX2 yX2_requireDot yX2_requireDot, Cond.code yX2_requireDot cX2_requireDot 2 none, Cond.classLink RX2 186 "java/lang/IllegalStateException", Cond.initialized "java/lang/IllegalStateException", Cond.methodLink RX2 183 yX0_canMake]
def wsX2_count_r2 : List Cond := [Cond.instanceMethod yX0_canMake, Cond.selects RX0 yX0_canMake yX0_canMake, Cond.initialized RX0, Cond.code yX0_canMake cX0_canMake 2 (some .boolean), Cond.fieldLink RX0 31 "DotStores$Dots" "count" "I", Cond.fieldLink RX0 28 "DotStores$Dots" "greatest" "[I", Cond.methodLink RX2 57 yX2_openDelta, Cond.instanceMethod yX2_openDelta, Cond.selects RX2 yX2_openDelta yX2_openDelta, Cond.code yX2_openDelta cX2_openDelta 2 (some (.object "DotStores$State")), Cond.fieldLink RX2 34 "DotStores" "madeCount" "I", Cond.fieldLink RX2 15 "DotStores" "made" "[LDotStores$State;", Cond.classLink RX2 9 RX1, Cond.instantiable RX1 5, Cond.initialized RX1, Cond.instanceMethod yX1_init, Cond.code yX1_init cX1_init 1 none, Cond.methodLink RX1 3 objectInit, Cond.instanceMethod objectInit, Cond.code objectInit ⟨#[0xb1]⟩ 1 none, Cond.arrayClass .long, Cond.fieldLink RX1 9 "DotStores$State" "seen" "[J", Cond.fieldLink RX1 15 "DotStores$State" "live" "[J", Cond.arrayClass .int]
def wsX2_count_r3 : List Cond := [Cond.fieldLink RX1 18 "DotStores$State" "stamps" "[I", Cond.fieldLink RX1 22 "DotStores$State" "put" "I", Cond.fieldLink RX1 26 "DotStores$State" "taken" "I", Cond.methodLink RX2 61 yX2_takeBack, Cond.instanceMethod yX2_takeBack, Cond.selects RX2 yX2_takeBack yX2_takeBack, Cond.code yX2_takeBack cX2_takeBack 9 (some .long), Cond.fieldLink RX2 108 "DotStores$Dots" "count" "I", Cond.fieldLink RX2 123 "DotStores$Dots" "value" "[J", Cond.methodLink RX2 111 yX1_isLive, Cond.instanceMethod yX1_isLive, Cond.selects RX1 yX1_isLive yX1_isLive, Cond.code yX1_isLive cX1_isLive 2 (some .boolean), Cond.methodLink RX2 115 yX0_fits, Cond.instanceMethod yX0_fits, Cond.selects RX0 yX0_fits yX0_fits, Cond.code yX0_fits cX0_fits 5 (some .boolean), Cond.fieldLink RX0 18 "DotStores$Dots" "key" "[I", Cond.fieldLink RX0 21 "DotStores$Dots" "part" "[I", Cond.fieldLink RX0 9 "DotStores$Dots" "replica" "[I", Cond.methodLink RX2 193 yX1_see, Cond.instanceMethod yX1_see, Cond.selects RX1 yX1_see yX1_see, Cond.code yX1_see cX1_see 2 none]
def wsX2_count_r4 : List Cond := [Cond.methodLink RX2 65 yX0_make, Cond.instanceMethod yX0_make, Cond.selects RX0 yX0_make yX0_make, Cond.code yX0_make cX0_make 7 (some .int), Cond.fieldLink RX0 15 "DotStores$Dots" "number" "[I", Cond.fieldLink RX0 24 "DotStores$Dots" "value" "[J", Cond.methodLink RX2 69 yX1_enliven, Cond.instanceMethod yX1_enliven, Cond.selects RX1 yX1_enliven yX1_enliven, Cond.code yX1_enliven cX1_enliven 2 none, Cond.methodLink RX1 29 yX1_see, Cond.methodLink RX2 72 yX2_finish, Cond.instanceMethod yX2_finish, Cond.selects RX2 yX2_finish yX2_finish, Cond.code yX2_finish cX2_finish 3 (some .int), Cond.methodLink RX2 96 yX1_take, Cond.instanceMethod yX1_take, Cond.selects RX1 yX1_take yX1_take, Cond.code yX1_take cX1_take 5 (some .boolean), Cond.methodLink RX1 33 yX1_takeDots, Cond.instanceMethod yX1_takeDots, Cond.selects RX1 yX1_takeDots yX1_takeDots, Cond.code yX1_takeDots cX1_takeDots 10 (some .boolean), Cond.constantLong RX1 43 (-1)]
def wsX2_count_r5 : List Cond := [Cond.methodLink RX1 37 yX1_takeTwice, Cond.instanceMethod yX1_takeTwice, Cond.selects RX1 yX1_takeTwice yX1_takeTwice, Cond.code yX1_takeTwice cX1_takeTwice 5 (some .boolean), Cond.methodLink RX1 40 yX1_takeTimed, Cond.instanceMethod yX1_takeTimed, Cond.selects RX1 yX1_takeTimed yX1_takeTimed, Cond.code yX1_takeTimed cX1_takeTimed 4 (some .boolean)]
def wsX2_count : List Cond := .code yX2_count cX2_count 9 (some .int) :: ((wsX2_count_r1 ++ (wsX2_count_r2 ++ (wsX2_count_r3 ++ (wsX2_count_r4 ++ wsX2_count_r5)))) ++ wsX20 ++ wsX00 ++ wsX10 ++ (vx_atS RX2 165 "java/lang/IndexOutOfBoundsException" ["java/lang/RuntimeException", "java/lang/Exception"]).filter goodWord ++ (vx_atS RX2 176 "java/lang/UnsupportedOperationException" ["java/lang/RuntimeException", "java/lang/Exception"]).filter goodWord ++ (vx_atS RX2 190 "java/lang/IllegalStateException" ["java/lang/RuntimeException", "java/lang/Exception"]).filter goodWord)
def wsX2_flag_r1 : List Cond := [Cond.methodLink RX2 38 yX2_replicaAt, Cond.instanceMethod yX2_replicaAt, Cond.selects RX2 yX2_replicaAt yX2_replicaAt, Cond.initialized RX2, Cond.code yX2_replicaAt cX2_replicaAt 2 (some (.object "DotStores$State")), Cond.classLink RX2 161 "java/lang/IndexOutOfBoundsException", Cond.initialized "java/lang/IndexOutOfBoundsException", Cond.fieldLink RX2 11 "DotStores" "replicas" "[LDotStores$State;", Cond.methodLink RX2 42 yX2_requireIndex, Cond.static yX2_requireIndex, Cond.code yX2_requireIndex cX2_requireIndex 2 none, Cond.methodLink RX2 46 yX2_requireKind, Cond.static yX2_requireKind, Cond.code yX2_requireKind cX2_requireKind 2 none, Cond.classLink RX2 172 "java/lang/UnsupportedOperationException", Cond.initialized "java/lang/UnsupportedOperationException", Cond.methodLink RX2 49 yX2_turn, Cond.instanceMethod yX2_turn, Cond.selects RX2 yX2_turn yX2_turn, Cond.code yX2_turn cX2_turn 7 (some .int), Cond.fieldLink RX2 21 "DotStores" "dots" "LDotStores$Dots;", Cond.methodLink RX2 53 yX2_requireDot, Cond.instanceMethod yX2_requireDot, Cond.selects RX2 yX2_requireDot yX2_requireDot]
def wsX2_flag_r2 : List Cond := [Cond.code yX2_requireDot cX2_requireDot 2 none, Cond.classLink RX2 186 "java/lang/IllegalStateException", Cond.initialized "java/lang/IllegalStateException", Cond.methodLink RX2 183 yX0_canMake, Cond.instanceMethod yX0_canMake, Cond.selects RX0 yX0_canMake yX0_canMake, Cond.initialized RX0, Cond.code yX0_canMake cX0_canMake 2 (some .boolean), Cond.fieldLink RX0 31 "DotStores$Dots" "count" "I", Cond.fieldLink RX0 28 "DotStores$Dots" "greatest" "[I", Cond.methodLink RX2 57 yX2_openDelta, Cond.instanceMethod yX2_openDelta, Cond.selects RX2 yX2_openDelta yX2_openDelta, Cond.code yX2_openDelta cX2_openDelta 2 (some (.object "DotStores$State")), Cond.fieldLink RX2 34 "DotStores" "madeCount" "I", Cond.fieldLink RX2 15 "DotStores" "made" "[LDotStores$State;", Cond.classLink RX2 9 RX1, Cond.instantiable RX1 5, Cond.initialized RX1, Cond.instanceMethod yX1_init, Cond.code yX1_init cX1_init 1 none, Cond.methodLink RX1 3 objectInit, Cond.instanceMethod objectInit, Cond.code objectInit ⟨#[0xb1]⟩ 1 none]
def wsX2_flag_r3 : List Cond := [Cond.arrayClass .long, Cond.fieldLink RX1 9 "DotStores$State" "seen" "[J", Cond.fieldLink RX1 15 "DotStores$State" "live" "[J", Cond.arrayClass .int, Cond.fieldLink RX1 18 "DotStores$State" "stamps" "[I", Cond.fieldLink RX1 22 "DotStores$State" "put" "I", Cond.fieldLink RX1 26 "DotStores$State" "taken" "I", Cond.methodLink RX2 61 yX2_takeBack, Cond.instanceMethod yX2_takeBack, Cond.selects RX2 yX2_takeBack yX2_takeBack, Cond.code yX2_takeBack cX2_takeBack 9 (some .long), Cond.fieldLink RX2 108 "DotStores$Dots" "count" "I", Cond.fieldLink RX2 123 "DotStores$Dots" "value" "[J", Cond.methodLink RX2 111 yX1_isLive, Cond.instanceMethod yX1_isLive, Cond.selects RX1 yX1_isLive yX1_isLive, Cond.code yX1_isLive cX1_isLive 2 (some .boolean), Cond.methodLink RX2 115 yX0_fits, Cond.instanceMethod yX0_fits, Cond.selects RX0 yX0_fits yX0_fits, Cond.code yX0_fits cX0_fits 5 (some .boolean), Cond.fieldLink RX0 18 "DotStores$Dots" "key" "[I", Cond.fieldLink RX0 21 "DotStores$Dots" "part" "[I", Cond.fieldLink RX0 9 "DotStores$Dots" "replica" "[I"]
def wsX2_flag_r4 : List Cond := [Cond.methodLink RX2 193 yX1_see, Cond.instanceMethod yX1_see, Cond.selects RX1 yX1_see yX1_see, Cond.code yX1_see cX1_see 2 none, Cond.methodLink RX2 65 yX0_make, Cond.instanceMethod yX0_make, Cond.selects RX0 yX0_make yX0_make, Cond.code yX0_make cX0_make 7 (some .int), Cond.fieldLink RX0 15 "DotStores$Dots" "number" "[I", Cond.fieldLink RX0 24 "DotStores$Dots" "value" "[J", Cond.methodLink RX2 69 yX1_enliven, Cond.instanceMethod yX1_enliven, Cond.selects RX1 yX1_enliven yX1_enliven, Cond.code yX1_enliven cX1_enliven 2 none, Cond.methodLink RX1 29 yX1_see, Cond.methodLink RX2 72 yX2_finish, Cond.instanceMethod yX2_finish, Cond.selects RX2 yX2_finish yX2_finish, Cond.code yX2_finish cX2_finish 3 (some .int), Cond.methodLink RX2 96 yX1_take, Cond.instanceMethod yX1_take, Cond.selects RX1 yX1_take yX1_take, Cond.code yX1_take cX1_take 5 (some .boolean), Cond.methodLink RX1 33 yX1_takeDots]
def wsX2_flag_r5 : List Cond := [Cond.instanceMethod yX1_takeDots, Cond.selects RX1 yX1_takeDots yX1_takeDots, Cond.code yX1_takeDots cX1_takeDots 10 (some .boolean), Cond.constantLong RX1 43 (-1), Cond.methodLink RX1 37 yX1_takeTwice, Cond.instanceMethod yX1_takeTwice, Cond.selects RX1 yX1_takeTwice yX1_takeTwice, Cond.code yX1_takeTwice cX1_takeTwice 5 (some .boolean), Cond.methodLink RX1 40 yX1_takeTimed, Cond.instanceMethod yX1_takeTimed, Cond.selects RX1 yX1_takeTimed yX1_takeTimed, Cond.code yX1_takeTimed cX1_takeTimed 4 (some .boolean)]
def wsX2_flag : List Cond := .code yX2_flag cX2_flag 6 (some .int) :: ((wsX2_flag_r1 ++ (wsX2_flag_r2 ++ (wsX2_flag_r3 ++ (wsX2_flag_r4 ++ wsX2_flag_r5)))) ++ wsX20 ++ wsX00 ++ wsX10 ++ (vx_atS RX2 165 "java/lang/IndexOutOfBoundsException" ["java/lang/RuntimeException", "java/lang/Exception"]).filter goodWord ++ (vx_atS RX2 176 "java/lang/UnsupportedOperationException" ["java/lang/RuntimeException", "java/lang/Exception"]).filter goodWord ++ (vx_atS RX2 190 "java/lang/IllegalStateException" ["java/lang/RuntimeException", "java/lang/Exception"]).filter goodWord)
def wsX2_clear_r1 : List Cond := [Cond.methodLink RX2 38 yX2_replicaAt, Cond.instanceMethod yX2_replicaAt, Cond.selects RX2 yX2_replicaAt yX2_replicaAt, Cond.initialized RX2, Cond.code yX2_replicaAt cX2_replicaAt 2 (some (.object "DotStores$State")), Cond.classLink RX2 161 "java/lang/IndexOutOfBoundsException", Cond.initialized "java/lang/IndexOutOfBoundsException", Cond.fieldLink RX2 11 "DotStores" "replicas" "[LDotStores$State;", Cond.methodLink RX2 42 yX2_requireIndex, Cond.static yX2_requireIndex, Cond.code yX2_requireIndex cX2_requireIndex 2 none, Cond.methodLink RX2 57 yX2_openDelta, Cond.instanceMethod yX2_openDelta, Cond.selects RX2 yX2_openDelta yX2_openDelta, Cond.code yX2_openDelta cX2_openDelta 2 (some (.object "DotStores$State")), Cond.classLink RX2 186 "java/lang/IllegalStateException", Cond.initialized "java/lang/IllegalStateException", Cond.fieldLink RX2 34 "DotStores" "madeCount" "I", Cond.fieldLink RX2 15 "DotStores" "made" "[LDotStores$State;", Cond.classLink RX2 9 RX1, Cond.instantiable RX1 5, Cond.initialized RX1, Cond.instanceMethod yX1_init, Cond.code yX1_init cX1_init 1 none]
def wsX2_clear_r2 : List Cond := [Cond.methodLink RX1 3 objectInit, Cond.instanceMethod objectInit, Cond.code objectInit ⟨#[0xb1]⟩ 1 none, Cond.arrayClass .long, Cond.fieldLink RX1 9 "DotStores$State" "seen" "[J", Cond.fieldLink RX1 15 "DotStores$State" "live" "[J", Cond.arrayClass .int, Cond.fieldLink RX1 18 "DotStores$State" "stamps" "[I", Cond.fieldLink RX1 22 "DotStores$State" "put" "I", Cond.fieldLink RX1 26 "DotStores$State" "taken" "I", Cond.methodLink RX2 61 yX2_takeBack, Cond.instanceMethod yX2_takeBack, Cond.selects RX2 yX2_takeBack yX2_takeBack, Cond.code yX2_takeBack cX2_takeBack 9 (some .long), Cond.fieldLink RX2 21 "DotStores" "dots" "LDotStores$Dots;", Cond.fieldLink RX2 108 "DotStores$Dots" "count" "I", Cond.fieldLink RX2 123 "DotStores$Dots" "value" "[J", Cond.methodLink RX2 111 yX1_isLive, Cond.instanceMethod yX1_isLive, Cond.selects RX1 yX1_isLive yX1_isLive, Cond.code yX1_isLive cX1_isLive 2 (some .boolean), Cond.methodLink RX2 115 yX0_fits, Cond.instanceMethod yX0_fits, Cond.selects RX0 yX0_fits yX0_fits]
def wsX2_clear_r3 : List Cond := [Cond.initialized RX0, Cond.code yX0_fits cX0_fits 5 (some .boolean), Cond.fieldLink RX0 18 "DotStores$Dots" "key" "[I", Cond.fieldLink RX0 21 "DotStores$Dots" "part" "[I", Cond.fieldLink RX0 9 "DotStores$Dots" "replica" "[I", Cond.methodLink RX2 193 yX1_see, Cond.instanceMethod yX1_see, Cond.selects RX1 yX1_see yX1_see, Cond.code yX1_see cX1_see 2 none, Cond.methodLink RX2 72 yX2_finish, Cond.instanceMethod yX2_finish, Cond.selects RX2 yX2_finish yX2_finish, Cond.code yX2_finish cX2_finish 3 (some .int), Cond.methodLink RX2 96 yX1_take, Cond.instanceMethod yX1_take, Cond.selects RX1 yX1_take yX1_take, Cond.code yX1_take cX1_take 5 (some .boolean), Cond.methodLink RX1 33 yX1_takeDots, Cond.instanceMethod yX1_takeDots, Cond.selects RX1 yX1_takeDots yX1_takeDots, Cond.code yX1_takeDots cX1_takeDots 10 (some .boolean), Cond.constantLong RX1 43 (-1), Cond.methodLink RX1 37 yX1_takeTwice, Cond.instanceMethod yX1_takeTwice]
def wsX2_clear_r4 : List Cond := [Cond.selects RX1 yX1_takeTwice yX1_takeTwice, Cond.code yX1_takeTwice cX1_takeTwice 5 (some .boolean), Cond.methodLink RX1 40 yX1_takeTimed, Cond.instanceMethod yX1_takeTimed, Cond.selects RX1 yX1_takeTimed yX1_takeTimed, Cond.code yX1_takeTimed cX1_takeTimed 4 (some .boolean)]
def wsX2_clear : List Cond := .code yX2_clear cX2_clear 5 (some .int) :: ((wsX2_clear_r1 ++ (wsX2_clear_r2 ++ (wsX2_clear_r3 ++ wsX2_clear_r4))) ++ wsX20 ++ wsX10 ++ wsX00 ++ (vx_atS RX2 165 "java/lang/IndexOutOfBoundsException" ["java/lang/RuntimeException", "java/lang/Exception"]).filter goodWord ++ (vx_atS RX2 190 "java/lang/IllegalStateException" ["java/lang/RuntimeException", "java/lang/Exception"]).filter goodWord)
def wsX2_twice_r1 : List Cond := [Cond.fieldLink RX2 76 "DotStores$State" "put" "I", Cond.fieldLink RX2 79 "DotStores$State" "taken" "I", Cond.methodLink RX2 38 yX2_replicaAt, Cond.instanceMethod yX2_replicaAt, Cond.selects RX2 yX2_replicaAt yX2_replicaAt, Cond.initialized RX2, Cond.code yX2_replicaAt cX2_replicaAt 2 (some (.object "DotStores$State")), Cond.classLink RX2 161 "java/lang/IndexOutOfBoundsException", Cond.initialized "java/lang/IndexOutOfBoundsException", Cond.fieldLink RX2 11 "DotStores" "replicas" "[LDotStores$State;", Cond.methodLink RX2 42 yX2_requireIndex, Cond.static yX2_requireIndex, Cond.code yX2_requireIndex cX2_requireIndex 2 none, Cond.methodLink RX2 57 yX2_openDelta, Cond.instanceMethod yX2_openDelta, Cond.selects RX2 yX2_openDelta yX2_openDelta, Cond.code yX2_openDelta cX2_openDelta 2 (some (.object "DotStores$State")), Cond.classLink RX2 186 "java/lang/IllegalStateException", Cond.initialized "java/lang/IllegalStateException", Cond.fieldLink RX2 34 "DotStores" "madeCount" "I", Cond.fieldLink RX2 15 "DotStores" "made" "[LDotStores$State;", Cond.classLink RX2 9 RX1, Cond.instantiable RX1 5, Cond.initialized RX1]
def wsX2_twice_r2 : List Cond := [Cond.instanceMethod yX1_init, Cond.code yX1_init cX1_init 1 none, Cond.methodLink RX1 3 objectInit, Cond.instanceMethod objectInit, Cond.code objectInit ⟨#[0xb1]⟩ 1 none, Cond.arrayClass .long, Cond.fieldLink RX1 9 "DotStores$State" "seen" "[J", Cond.fieldLink RX1 15 "DotStores$State" "live" "[J", Cond.arrayClass .int, Cond.fieldLink RX1 18 "DotStores$State" "stamps" "[I", Cond.fieldLink RX1 22 "DotStores$State" "put" "I", Cond.fieldLink RX1 26 "DotStores$State" "taken" "I", Cond.methodLink RX2 72 yX2_finish, Cond.instanceMethod yX2_finish, Cond.selects RX2 yX2_finish yX2_finish, Cond.code yX2_finish cX2_finish 3 (some .int), Cond.methodLink RX2 96 yX1_take, Cond.instanceMethod yX1_take, Cond.selects RX1 yX1_take yX1_take, Cond.code yX1_take cX1_take 5 (some .boolean), Cond.methodLink RX1 33 yX1_takeDots, Cond.instanceMethod yX1_takeDots, Cond.selects RX1 yX1_takeDots yX1_takeDots, Cond.code yX1_takeDots cX1_takeDots 10 (some .boolean)]
def wsX2_twice_r3 : List Cond := [Cond.constantLong RX1 43 (-1), Cond.methodLink RX1 37 yX1_takeTwice, Cond.instanceMethod yX1_takeTwice, Cond.selects RX1 yX1_takeTwice yX1_takeTwice, Cond.code yX1_takeTwice cX1_takeTwice 5 (some .boolean), Cond.methodLink RX1 40 yX1_takeTimed, Cond.instanceMethod yX1_takeTimed, Cond.selects RX1 yX1_takeTimed yX1_takeTimed, Cond.code yX1_takeTimed cX1_takeTimed 4 (some .boolean)]
def wsX2_twice : List Cond := .code yX2_twice cX2_twice 6 (some .int) :: ((wsX2_twice_r1 ++ (wsX2_twice_r2 ++ wsX2_twice_r3)) ++ wsX10 ++ wsX20 ++ (vx_atS RX2 165 "java/lang/IndexOutOfBoundsException" ["java/lang/RuntimeException", "java/lang/Exception"]).filter goodWord ++ (vx_atS RX2 190 "java/lang/IllegalStateException" ["java/lang/RuntimeException", "java/lang/Exception"]).filter goodWord)
def wsX2_requireTime : List Cond := .code yX2_requireTime cX2_requireTime 1 none :: ([.classLink RX2 178 "java/lang/IllegalArgumentException", .initialized "java/lang/IllegalArgumentException", .constant RX2 177 (1000000)] ++ (vx_atS RX2 182 "java/lang/IllegalArgumentException" ["java/lang/RuntimeException", "java/lang/Exception"]).filter goodWord)
def wsX2_bit : List Cond := .code yX2_bit cX2_bit 1 (some .int) :: ([])
def wsX2_stamp : List Cond := .code yX2_stamp cX2_stamp 3 (some .int) :: ([.methodLink RX2 100 yX2_bit, .static yX2_bit, .initialized RX2, .code yX2_bit cX2_bit 1 (some .int)])
def wsX2_timed_r1 : List Cond := [Cond.fieldLink RX2 85 "DotStores$State" "stamps" "[I", Cond.methodLink RX2 38 yX2_replicaAt, Cond.instanceMethod yX2_replicaAt, Cond.selects RX2 yX2_replicaAt yX2_replicaAt, Cond.initialized RX2, Cond.code yX2_replicaAt cX2_replicaAt 2 (some (.object "DotStores$State")), Cond.classLink RX2 161 "java/lang/IndexOutOfBoundsException", Cond.initialized "java/lang/IndexOutOfBoundsException", Cond.fieldLink RX2 11 "DotStores" "replicas" "[LDotStores$State;", Cond.methodLink RX2 42 yX2_requireIndex, Cond.static yX2_requireIndex, Cond.code yX2_requireIndex cX2_requireIndex 2 none, Cond.methodLink RX2 82 yX2_requireTime, Cond.static yX2_requireTime, Cond.code yX2_requireTime cX2_requireTime 1 none, Cond.classLink RX2 178 "java/lang/IllegalArgumentException", Cond.initialized "java/lang/IllegalArgumentException", Cond.constant RX2 177 (1000000), Cond.methodLink RX2 57 yX2_openDelta, Cond.instanceMethod yX2_openDelta, Cond.selects RX2 yX2_openDelta yX2_openDelta, Cond.code yX2_openDelta cX2_openDelta 2 (some (.object "DotStores$State")), Cond.classLink RX2 186 "java/lang/IllegalStateException", Cond.initialized "java/lang/IllegalStateException"]
def wsX2_timed_r2 : List Cond := [Cond.fieldLink RX2 34 "DotStores" "madeCount" "I", Cond.fieldLink RX2 15 "DotStores" "made" "[LDotStores$State;", Cond.classLink RX2 9 RX1, Cond.instantiable RX1 5, Cond.initialized RX1, Cond.instanceMethod yX1_init, Cond.code yX1_init cX1_init 1 none, Cond.methodLink RX1 3 objectInit, Cond.instanceMethod objectInit, Cond.code objectInit ⟨#[0xb1]⟩ 1 none, Cond.arrayClass .long, Cond.fieldLink RX1 9 "DotStores$State" "seen" "[J", Cond.fieldLink RX1 15 "DotStores$State" "live" "[J", Cond.arrayClass .int, Cond.fieldLink RX1 18 "DotStores$State" "stamps" "[I", Cond.fieldLink RX1 22 "DotStores$State" "put" "I", Cond.fieldLink RX1 26 "DotStores$State" "taken" "I", Cond.methodLink RX2 89 yX2_stamp, Cond.static yX2_stamp, Cond.code yX2_stamp cX2_stamp 3 (some .int), Cond.methodLink RX2 100 yX2_bit, Cond.static yX2_bit, Cond.code yX2_bit cX2_bit 1 (some .int), Cond.methodLink RX2 72 yX2_finish]
def wsX2_timed_r3 : List Cond := [Cond.instanceMethod yX2_finish, Cond.selects RX2 yX2_finish yX2_finish, Cond.code yX2_finish cX2_finish 3 (some .int), Cond.methodLink RX2 96 yX1_take, Cond.instanceMethod yX1_take, Cond.selects RX1 yX1_take yX1_take, Cond.code yX1_take cX1_take 5 (some .boolean), Cond.methodLink RX1 33 yX1_takeDots, Cond.instanceMethod yX1_takeDots, Cond.selects RX1 yX1_takeDots yX1_takeDots, Cond.code yX1_takeDots cX1_takeDots 10 (some .boolean), Cond.constantLong RX1 43 (-1), Cond.methodLink RX1 37 yX1_takeTwice, Cond.instanceMethod yX1_takeTwice, Cond.selects RX1 yX1_takeTwice yX1_takeTwice, Cond.code yX1_takeTwice cX1_takeTwice 5 (some .boolean), Cond.methodLink RX1 40 yX1_takeTimed, Cond.instanceMethod yX1_takeTimed, Cond.selects RX1 yX1_takeTimed yX1_takeTimed, Cond.code yX1_takeTimed cX1_takeTimed 4 (some .boolean)]
def wsX2_timed : List Cond := .code yX2_timed cX2_timed 7 (some .int) :: ((wsX2_timed_r1 ++ (wsX2_timed_r2 ++ wsX2_timed_r3)) ++ wsX10 ++ wsX20 ++ (vx_atS RX2 165 "java/lang/IndexOutOfBoundsException" ["java/lang/RuntimeException", "java/lang/Exception"]).filter goodWord ++ (vx_atS RX2 182 "java/lang/IllegalArgumentException" ["java/lang/RuntimeException", "java/lang/Exception"]).filter goodWord ++ (vx_atS RX2 190 "java/lang/IllegalStateException" ["java/lang/RuntimeException", "java/lang/Exception"]).filter goodWord)
def wsX2_deltaAt : List Cond := .code yX2_deltaAt cX2_deltaAt 2 (some (.object "DotStores$State")) :: ([.classLink RX2 161 "java/lang/IndexOutOfBoundsException", .initialized "java/lang/IndexOutOfBoundsException", .fieldLink RX2 15 "DotStores" "made" "[LDotStores$State;"] ++ wsX20 ++ (vx_atS RX2 165 "java/lang/IndexOutOfBoundsException" ["java/lang/RuntimeException", "java/lang/Exception"]).filter goodWord)
def wsX2_join_r1 : List Cond := [Cond.methodLink RX2 38 yX2_replicaAt, Cond.instanceMethod yX2_replicaAt, Cond.selects RX2 yX2_replicaAt yX2_replicaAt, Cond.initialized RX2, Cond.code yX2_replicaAt cX2_replicaAt 2 (some (.object "DotStores$State")), Cond.classLink RX2 161 "java/lang/IndexOutOfBoundsException", Cond.initialized "java/lang/IndexOutOfBoundsException", Cond.fieldLink RX2 11 "DotStores" "replicas" "[LDotStores$State;", Cond.methodLink RX2 93 yX2_deltaAt, Cond.instanceMethod yX2_deltaAt, Cond.selects RX2 yX2_deltaAt yX2_deltaAt, Cond.code yX2_deltaAt cX2_deltaAt 2 (some (.object "DotStores$State")), Cond.fieldLink RX2 15 "DotStores" "made" "[LDotStores$State;", Cond.methodLink RX2 96 yX1_take, Cond.instanceMethod yX1_take, Cond.selects RX1 yX1_take yX1_take, Cond.initialized RX1, Cond.code yX1_take cX1_take 5 (some .boolean), Cond.methodLink RX1 33 yX1_takeDots, Cond.instanceMethod yX1_takeDots, Cond.selects RX1 yX1_takeDots yX1_takeDots, Cond.code yX1_takeDots cX1_takeDots 10 (some .boolean), Cond.fieldLink RX1 15 "DotStores$State" "live" "[J", Cond.fieldLink RX1 9 "DotStores$State" "seen" "[J"]
def wsX2_join_r2 : List Cond := [Cond.constantLong RX1 43 (-1), Cond.methodLink RX1 37 yX1_takeTwice, Cond.instanceMethod yX1_takeTwice, Cond.selects RX1 yX1_takeTwice yX1_takeTwice, Cond.code yX1_takeTwice cX1_takeTwice 5 (some .boolean), Cond.fieldLink RX1 22 "DotStores$State" "put" "I", Cond.fieldLink RX1 26 "DotStores$State" "taken" "I", Cond.methodLink RX1 40 yX1_takeTimed, Cond.instanceMethod yX1_takeTimed, Cond.selects RX1 yX1_takeTimed yX1_takeTimed, Cond.code yX1_takeTimed cX1_takeTimed 4 (some .boolean), Cond.fieldLink RX1 18 "DotStores$State" "stamps" "[I", Cond.methodLink RX2 100 yX2_bit, Cond.static yX2_bit, Cond.code yX2_bit cX2_bit 1 (some .int)]
def wsX2_join : List Cond := .code yX2_join cX2_join 4 (some .int) :: ((wsX2_join_r1 ++ wsX2_join_r2) ++ wsX20 ++ wsX10 ++ (vx_atS RX2 165 "java/lang/IndexOutOfBoundsException" ["java/lang/RuntimeException", "java/lang/Exception"]).filter goodWord)
def wsX2_merge_r1 : List Cond := [Cond.methodLink RX2 38 yX2_replicaAt, Cond.instanceMethod yX2_replicaAt, Cond.selects RX2 yX2_replicaAt yX2_replicaAt, Cond.initialized RX2, Cond.code yX2_replicaAt cX2_replicaAt 2 (some (.object "DotStores$State")), Cond.classLink RX2 161 "java/lang/IndexOutOfBoundsException", Cond.initialized "java/lang/IndexOutOfBoundsException", Cond.fieldLink RX2 11 "DotStores" "replicas" "[LDotStores$State;", Cond.methodLink RX2 96 yX1_take, Cond.instanceMethod yX1_take, Cond.selects RX1 yX1_take yX1_take, Cond.initialized RX1, Cond.code yX1_take cX1_take 5 (some .boolean), Cond.methodLink RX1 33 yX1_takeDots, Cond.instanceMethod yX1_takeDots, Cond.selects RX1 yX1_takeDots yX1_takeDots, Cond.code yX1_takeDots cX1_takeDots 10 (some .boolean), Cond.fieldLink RX1 15 "DotStores$State" "live" "[J", Cond.fieldLink RX1 9 "DotStores$State" "seen" "[J", Cond.constantLong RX1 43 (-1), Cond.methodLink RX1 37 yX1_takeTwice, Cond.instanceMethod yX1_takeTwice, Cond.selects RX1 yX1_takeTwice yX1_takeTwice, Cond.code yX1_takeTwice cX1_takeTwice 5 (some .boolean)]
def wsX2_merge_r2 : List Cond := [Cond.fieldLink RX1 22 "DotStores$State" "put" "I", Cond.fieldLink RX1 26 "DotStores$State" "taken" "I", Cond.methodLink RX1 40 yX1_takeTimed, Cond.instanceMethod yX1_takeTimed, Cond.selects RX1 yX1_takeTimed yX1_takeTimed, Cond.code yX1_takeTimed cX1_takeTimed 4 (some .boolean), Cond.fieldLink RX1 18 "DotStores$State" "stamps" "[I", Cond.methodLink RX2 100 yX2_bit, Cond.static yX2_bit, Cond.code yX2_bit cX2_bit 1 (some .int)]
def wsX2_merge : List Cond := .code yX2_merge cX2_merge 4 (some .int) :: ((wsX2_merge_r1 ++ wsX2_merge_r2) ++ wsX20 ++ wsX10 ++ (vx_atS RX2 165 "java/lang/IndexOutOfBoundsException" ["java/lang/RuntimeException", "java/lang/Exception"]).filter goodWord)
def wsX2_group_r1 : List Cond := [Cond.fieldLink RX2 34 "DotStores" "madeCount" "I", Cond.methodLink RX2 93 yX2_deltaAt, Cond.instanceMethod yX2_deltaAt, Cond.selects RX2 yX2_deltaAt yX2_deltaAt, Cond.initialized RX2, Cond.code yX2_deltaAt cX2_deltaAt 2 (some (.object "DotStores$State")), Cond.classLink RX2 161 "java/lang/IndexOutOfBoundsException", Cond.initialized "java/lang/IndexOutOfBoundsException", Cond.fieldLink RX2 15 "DotStores" "made" "[LDotStores$State;", Cond.methodLink RX2 57 yX2_openDelta, Cond.instanceMethod yX2_openDelta, Cond.selects RX2 yX2_openDelta yX2_openDelta, Cond.code yX2_openDelta cX2_openDelta 2 (some (.object "DotStores$State")), Cond.classLink RX2 186 "java/lang/IllegalStateException", Cond.initialized "java/lang/IllegalStateException", Cond.classLink RX2 9 RX1, Cond.instantiable RX1 5, Cond.initialized RX1, Cond.instanceMethod yX1_init, Cond.code yX1_init cX1_init 1 none, Cond.methodLink RX1 3 objectInit, Cond.instanceMethod objectInit, Cond.code objectInit ⟨#[0xb1]⟩ 1 none, Cond.arrayClass .long]
def wsX2_group_r2 : List Cond := [Cond.fieldLink RX1 9 "DotStores$State" "seen" "[J", Cond.fieldLink RX1 15 "DotStores$State" "live" "[J", Cond.arrayClass .int, Cond.fieldLink RX1 18 "DotStores$State" "stamps" "[I", Cond.fieldLink RX1 22 "DotStores$State" "put" "I", Cond.fieldLink RX1 26 "DotStores$State" "taken" "I", Cond.methodLink RX2 104 yX1_become, Cond.instanceMethod yX1_become, Cond.selects RX1 yX1_become yX1_become, Cond.code yX1_become cX1_become 2 none, Cond.methodLink RX1 45 arraycopyName, Cond.native arraycopyName, Cond.static arraycopyName, Cond.initialized "java/lang/System", Cond.methodLink RX2 96 yX1_take, Cond.instanceMethod yX1_take, Cond.selects RX1 yX1_take yX1_take, Cond.code yX1_take cX1_take 5 (some .boolean), Cond.methodLink RX1 33 yX1_takeDots, Cond.instanceMethod yX1_takeDots, Cond.selects RX1 yX1_takeDots yX1_takeDots, Cond.code yX1_takeDots cX1_takeDots 10 (some .boolean), Cond.constantLong RX1 43 (-1), Cond.methodLink RX1 37 yX1_takeTwice]
def wsX2_group_r3 : List Cond := [Cond.instanceMethod yX1_takeTwice, Cond.selects RX1 yX1_takeTwice yX1_takeTwice, Cond.code yX1_takeTwice cX1_takeTwice 5 (some .boolean), Cond.methodLink RX1 40 yX1_takeTimed, Cond.instanceMethod yX1_takeTimed, Cond.selects RX1 yX1_takeTimed yX1_takeTimed, Cond.code yX1_takeTimed cX1_takeTimed 4 (some .boolean)]
def wsX2_group : List Cond := .code yX2_group cX2_group 6 (some .int) :: ((wsX2_group_r1 ++ (wsX2_group_r2 ++ wsX2_group_r3)) ++ wsX20 ++ wsX10 ++ (vx_atS RX2 165 "java/lang/IndexOutOfBoundsException" ["java/lang/RuntimeException", "java/lang/Exception"]).filter goodWord ++ (vx_atS RX2 190 "java/lang/IllegalStateException" ["java/lang/RuntimeException", "java/lang/Exception"]).filter goodWord)
def wsX2_whole_r1 : List Cond := [Cond.fieldLink RX2 34 "DotStores" "madeCount" "I", Cond.methodLink RX2 38 yX2_replicaAt, Cond.instanceMethod yX2_replicaAt, Cond.selects RX2 yX2_replicaAt yX2_replicaAt, Cond.initialized RX2, Cond.code yX2_replicaAt cX2_replicaAt 2 (some (.object "DotStores$State")), Cond.classLink RX2 161 "java/lang/IndexOutOfBoundsException", Cond.initialized "java/lang/IndexOutOfBoundsException", Cond.fieldLink RX2 11 "DotStores" "replicas" "[LDotStores$State;", Cond.methodLink RX2 57 yX2_openDelta, Cond.instanceMethod yX2_openDelta, Cond.selects RX2 yX2_openDelta yX2_openDelta, Cond.code yX2_openDelta cX2_openDelta 2 (some (.object "DotStores$State")), Cond.classLink RX2 186 "java/lang/IllegalStateException", Cond.initialized "java/lang/IllegalStateException", Cond.fieldLink RX2 15 "DotStores" "made" "[LDotStores$State;", Cond.classLink RX2 9 RX1, Cond.instantiable RX1 5, Cond.initialized RX1, Cond.instanceMethod yX1_init, Cond.code yX1_init cX1_init 1 none, Cond.methodLink RX1 3 objectInit, Cond.instanceMethod objectInit, Cond.code objectInit ⟨#[0xb1]⟩ 1 none]
def wsX2_whole_r2 : List Cond := [Cond.arrayClass .long, Cond.fieldLink RX1 9 "DotStores$State" "seen" "[J", Cond.fieldLink RX1 15 "DotStores$State" "live" "[J", Cond.arrayClass .int, Cond.fieldLink RX1 18 "DotStores$State" "stamps" "[I", Cond.fieldLink RX1 22 "DotStores$State" "put" "I", Cond.fieldLink RX1 26 "DotStores$State" "taken" "I", Cond.methodLink RX2 104 yX1_become, Cond.instanceMethod yX1_become, Cond.selects RX1 yX1_become yX1_become, Cond.code yX1_become cX1_become 2 none, Cond.methodLink RX1 45 arraycopyName, Cond.native arraycopyName, Cond.static arraycopyName, Cond.initialized "java/lang/System"]
def wsX2_whole : List Cond := .code yX2_whole cX2_whole 3 (some .int) :: ((wsX2_whole_r1 ++ wsX2_whole_r2) ++ wsX20 ++ wsX10 ++ (vx_atS RX2 165 "java/lang/IndexOutOfBoundsException" ["java/lang/RuntimeException", "java/lang/Exception"]).filter goodWord ++ (vx_atS RX2 190 "java/lang/IllegalStateException" ["java/lang/RuntimeException", "java/lang/Exception"]).filter goodWord)
def wsX2_deltas : List Cond := .code yX2_deltas cX2_deltas 1 (some .int) :: ([.fieldLink RX2 34 "DotStores" "madeCount" "I"] ++ wsX20)
def wsX2_has_r1 : List Cond := [Cond.fieldLink RX2 21 "DotStores" "dots" "LDotStores$Dots;", Cond.fieldLink RX2 108 "DotStores$Dots" "count" "I", Cond.methodLink RX2 38 yX2_replicaAt, Cond.instanceMethod yX2_replicaAt, Cond.selects RX2 yX2_replicaAt yX2_replicaAt, Cond.initialized RX2, Cond.code yX2_replicaAt cX2_replicaAt 2 (some (.object "DotStores$State")), Cond.classLink RX2 161 "java/lang/IndexOutOfBoundsException", Cond.initialized "java/lang/IndexOutOfBoundsException", Cond.fieldLink RX2 11 "DotStores" "replicas" "[LDotStores$State;", Cond.methodLink RX2 42 yX2_requireIndex, Cond.static yX2_requireIndex, Cond.code yX2_requireIndex cX2_requireIndex 2 none, Cond.methodLink RX2 111 yX1_isLive, Cond.instanceMethod yX1_isLive, Cond.selects RX1 yX1_isLive yX1_isLive, Cond.initialized RX1, Cond.code yX1_isLive cX1_isLive 2 (some .boolean), Cond.fieldLink RX1 15 "DotStores$State" "live" "[J", Cond.methodLink RX2 115 yX0_fits, Cond.instanceMethod yX0_fits, Cond.selects RX0 yX0_fits yX0_fits, Cond.initialized RX0, Cond.code yX0_fits cX0_fits 5 (some .boolean)]
def wsX2_has_r2 : List Cond := [Cond.fieldLink RX0 18 "DotStores$Dots" "key" "[I", Cond.fieldLink RX0 21 "DotStores$Dots" "part" "[I", Cond.fieldLink RX0 9 "DotStores$Dots" "replica" "[I"]
def wsX2_has : List Cond := .code yX2_has cX2_has 6 (some .int) :: ((wsX2_has_r1 ++ wsX2_has_r2) ++ wsX20 ++ wsX00 ++ wsX10 ++ (vx_atS RX2 165 "java/lang/IndexOutOfBoundsException" ["java/lang/RuntimeException", "java/lang/Exception"]).filter goodWord)
def wsX2_orderValue : List Cond := .code yX2_orderValue cX2_orderValue 6 (some .int) :: ([.fieldLink RX2 30 "DotStores" "ordered" "[J"] ++ wsX20)
def wsX2_orderValues : List Cond := .code yX2_orderValues cX2_orderValues 5 (some .int) :: ([.fieldLink RX2 21 "DotStores" "dots" "LDotStores$Dots;", .fieldLink RX2 108 "DotStores$Dots" "count" "I", .fieldLink RX2 123 "DotStores$Dots" "value" "[J", .methodLink RX2 111 yX1_isLive, .instanceMethod yX1_isLive, .selects RX1 yX1_isLive yX1_isLive, .initialized RX1, .code yX1_isLive cX1_isLive 2 (some .boolean), .fieldLink RX1 15 "DotStores$State" "live" "[J", .methodLink RX2 115 yX0_fits, .instanceMethod yX0_fits, .selects RX0 yX0_fits yX0_fits, .initialized RX0, .code yX0_fits cX0_fits 5 (some .boolean), .fieldLink RX0 18 "DotStores$Dots" "key" "[I", .fieldLink RX0 21 "DotStores$Dots" "part" "[I", .fieldLink RX0 9 "DotStores$Dots" "replica" "[I", .methodLink RX2 196 yX2_orderValue, .instanceMethod yX2_orderValue, .selects RX2 yX2_orderValue yX2_orderValue, .initialized RX2, .code yX2_orderValue cX2_orderValue 6 (some .int), .fieldLink RX2 30 "DotStores" "ordered" "[J"] ++ wsX20 ++ wsX00 ++ wsX10)
def wsX2_values_r1 : List Cond := [Cond.methodLink RX2 38 yX2_replicaAt, Cond.instanceMethod yX2_replicaAt, Cond.selects RX2 yX2_replicaAt yX2_replicaAt, Cond.initialized RX2, Cond.code yX2_replicaAt cX2_replicaAt 2 (some (.object "DotStores$State")), Cond.classLink RX2 161 "java/lang/IndexOutOfBoundsException", Cond.initialized "java/lang/IndexOutOfBoundsException", Cond.fieldLink RX2 11 "DotStores" "replicas" "[LDotStores$State;", Cond.methodLink RX2 42 yX2_requireIndex, Cond.static yX2_requireIndex, Cond.code yX2_requireIndex cX2_requireIndex 2 none, Cond.methodLink RX2 119 yX2_orderValues, Cond.instanceMethod yX2_orderValues, Cond.selects RX2 yX2_orderValues yX2_orderValues, Cond.code yX2_orderValues cX2_orderValues 5 (some .int), Cond.fieldLink RX2 21 "DotStores" "dots" "LDotStores$Dots;", Cond.fieldLink RX2 108 "DotStores$Dots" "count" "I", Cond.fieldLink RX2 123 "DotStores$Dots" "value" "[J", Cond.methodLink RX2 111 yX1_isLive, Cond.instanceMethod yX1_isLive, Cond.selects RX1 yX1_isLive yX1_isLive, Cond.initialized RX1, Cond.code yX1_isLive cX1_isLive 2 (some .boolean), Cond.fieldLink RX1 15 "DotStores$State" "live" "[J"]
def wsX2_values_r2 : List Cond := [Cond.methodLink RX2 115 yX0_fits, Cond.instanceMethod yX0_fits, Cond.selects RX0 yX0_fits yX0_fits, Cond.initialized RX0, Cond.code yX0_fits cX0_fits 5 (some .boolean), Cond.fieldLink RX0 18 "DotStores$Dots" "key" "[I", Cond.fieldLink RX0 21 "DotStores$Dots" "part" "[I", Cond.fieldLink RX0 9 "DotStores$Dots" "replica" "[I", Cond.methodLink RX2 196 yX2_orderValue, Cond.instanceMethod yX2_orderValue, Cond.selects RX2 yX2_orderValue yX2_orderValue, Cond.code yX2_orderValue cX2_orderValue 6 (some .int), Cond.fieldLink RX2 30 "DotStores" "ordered" "[J"]
def wsX2_values : List Cond := .code yX2_values cX2_values 4 (some .int) :: ((wsX2_values_r1 ++ wsX2_values_r2) ++ wsX20 ++ wsX00 ++ wsX10 ++ (vx_atS RX2 165 "java/lang/IndexOutOfBoundsException" ["java/lang/RuntimeException", "java/lang/Exception"]).filter goodWord)
def wsX2_value_r1 : List Cond := [Cond.fieldLink RX2 30 "DotStores" "ordered" "[J", Cond.methodLink RX2 38 yX2_replicaAt, Cond.instanceMethod yX2_replicaAt, Cond.selects RX2 yX2_replicaAt yX2_replicaAt, Cond.initialized RX2, Cond.code yX2_replicaAt cX2_replicaAt 2 (some (.object "DotStores$State")), Cond.classLink RX2 161 "java/lang/IndexOutOfBoundsException", Cond.initialized "java/lang/IndexOutOfBoundsException", Cond.fieldLink RX2 11 "DotStores" "replicas" "[LDotStores$State;", Cond.methodLink RX2 42 yX2_requireIndex, Cond.static yX2_requireIndex, Cond.code yX2_requireIndex cX2_requireIndex 2 none, Cond.methodLink RX2 119 yX2_orderValues, Cond.instanceMethod yX2_orderValues, Cond.selects RX2 yX2_orderValues yX2_orderValues, Cond.code yX2_orderValues cX2_orderValues 5 (some .int), Cond.fieldLink RX2 21 "DotStores" "dots" "LDotStores$Dots;", Cond.fieldLink RX2 108 "DotStores$Dots" "count" "I", Cond.fieldLink RX2 123 "DotStores$Dots" "value" "[J", Cond.methodLink RX2 111 yX1_isLive, Cond.instanceMethod yX1_isLive, Cond.selects RX1 yX1_isLive yX1_isLive, Cond.initialized RX1, Cond.code yX1_isLive cX1_isLive 2 (some .boolean)]
def wsX2_value_r2 : List Cond := [Cond.fieldLink RX1 15 "DotStores$State" "live" "[J", Cond.methodLink RX2 115 yX0_fits, Cond.instanceMethod yX0_fits, Cond.selects RX0 yX0_fits yX0_fits, Cond.initialized RX0, Cond.code yX0_fits cX0_fits 5 (some .boolean), Cond.fieldLink RX0 18 "DotStores$Dots" "key" "[I", Cond.fieldLink RX0 21 "DotStores$Dots" "part" "[I", Cond.fieldLink RX0 9 "DotStores$Dots" "replica" "[I", Cond.methodLink RX2 196 yX2_orderValue, Cond.instanceMethod yX2_orderValue, Cond.selects RX2 yX2_orderValue yX2_orderValue, Cond.code yX2_orderValue cX2_orderValue 6 (some .int)]
def wsX2_value : List Cond := .code yX2_value cX2_value 5 (some .long) :: ((wsX2_value_r1 ++ wsX2_value_r2) ++ wsX20 ++ wsX00 ++ wsX10 ++ (vx_atS RX2 165 "java/lang/IndexOutOfBoundsException" ["java/lang/RuntimeException", "java/lang/Exception"]).filter goodWord)
def wsX2_sum_r1 : List Cond := [Cond.fieldLink RX2 21 "DotStores" "dots" "LDotStores$Dots;", Cond.fieldLink RX2 108 "DotStores$Dots" "count" "I", Cond.fieldLink RX2 123 "DotStores$Dots" "value" "[J", Cond.methodLink RX2 38 yX2_replicaAt, Cond.instanceMethod yX2_replicaAt, Cond.selects RX2 yX2_replicaAt yX2_replicaAt, Cond.initialized RX2, Cond.code yX2_replicaAt cX2_replicaAt 2 (some (.object "DotStores$State")), Cond.classLink RX2 161 "java/lang/IndexOutOfBoundsException", Cond.initialized "java/lang/IndexOutOfBoundsException", Cond.fieldLink RX2 11 "DotStores" "replicas" "[LDotStores$State;", Cond.methodLink RX2 42 yX2_requireIndex, Cond.static yX2_requireIndex, Cond.code yX2_requireIndex cX2_requireIndex 2 none, Cond.methodLink RX2 111 yX1_isLive, Cond.instanceMethod yX1_isLive, Cond.selects RX1 yX1_isLive yX1_isLive, Cond.initialized RX1, Cond.code yX1_isLive cX1_isLive 2 (some .boolean), Cond.fieldLink RX1 15 "DotStores$State" "live" "[J", Cond.methodLink RX2 115 yX0_fits, Cond.instanceMethod yX0_fits, Cond.selects RX0 yX0_fits yX0_fits, Cond.initialized RX0]
def wsX2_sum_r2 : List Cond := [Cond.code yX0_fits cX0_fits 5 (some .boolean), Cond.fieldLink RX0 18 "DotStores$Dots" "key" "[I", Cond.fieldLink RX0 21 "DotStores$Dots" "part" "[I", Cond.fieldLink RX0 9 "DotStores$Dots" "replica" "[I"]
def wsX2_sum : List Cond := .code yX2_sum cX2_sum 7 (some .long) :: ((wsX2_sum_r1 ++ wsX2_sum_r2) ++ wsX20 ++ wsX00 ++ wsX10 ++ (vx_atS RX2 165 "java/lang/IndexOutOfBoundsException" ["java/lang/RuntimeException", "java/lang/Exception"]).filter goodWord)
def wsX2_keys : List Cond := .code yX2_keys cX2_keys 5 (some .int) :: ([.fieldLink RX2 21 "DotStores" "dots" "LDotStores$Dots;", .fieldLink RX2 108 "DotStores$Dots" "count" "I", .fieldLink RX2 126 "DotStores$Dots" "key" "[I", .methodLink RX2 38 yX2_replicaAt, .instanceMethod yX2_replicaAt, .selects RX2 yX2_replicaAt yX2_replicaAt, .initialized RX2, .code yX2_replicaAt cX2_replicaAt 2 (some (.object "DotStores$State")), .classLink RX2 161 "java/lang/IndexOutOfBoundsException", .initialized "java/lang/IndexOutOfBoundsException", .fieldLink RX2 11 "DotStores" "replicas" "[LDotStores$State;", .methodLink RX2 111 yX1_isLive, .instanceMethod yX1_isLive, .selects RX1 yX1_isLive yX1_isLive, .initialized RX1, .code yX1_isLive cX1_isLive 2 (some .boolean), .fieldLink RX1 15 "DotStores$State" "live" "[J"] ++ wsX20 ++ wsX00 ++ wsX10 ++ (vx_atS RX2 165 "java/lang/IndexOutOfBoundsException" ["java/lang/RuntimeException", "java/lang/Exception"]).filter goodWord)
def wsX2_inTwice : List Cond := .code yX2_inTwice cX2_inTwice 4 (some .int) :: ([.fieldLink RX2 76 "DotStores$State" "put" "I", .fieldLink RX2 79 "DotStores$State" "taken" "I", .methodLink RX2 38 yX2_replicaAt, .instanceMethod yX2_replicaAt, .selects RX2 yX2_replicaAt yX2_replicaAt, .initialized RX2, .code yX2_replicaAt cX2_replicaAt 2 (some (.object "DotStores$State")), .classLink RX2 161 "java/lang/IndexOutOfBoundsException", .initialized "java/lang/IndexOutOfBoundsException", .fieldLink RX2 11 "DotStores" "replicas" "[LDotStores$State;", .methodLink RX2 42 yX2_requireIndex, .static yX2_requireIndex, .code yX2_requireIndex cX2_requireIndex 2 none] ++ wsX10 ++ wsX20 ++ (vx_atS RX2 165 "java/lang/IndexOutOfBoundsException" ["java/lang/RuntimeException", "java/lang/Exception"]).filter goodWord)
def wsX2_stampIsIn : List Cond := .code yX2_stampIsIn cX2_stampIsIn 1 (some .boolean) :: ([])
def wsX2_stampTime : List Cond := .code yX2_stampTime cX2_stampTime 1 (some .int) :: ([])
def wsX2_stampReplica : List Cond := .code yX2_stampReplica cX2_stampReplica 1 (some .int) :: ([])
def wsX2_inTimed : List Cond := .code yX2_inTimed cX2_inTimed 6 (some .int) :: ([.fieldLink RX2 85 "DotStores$State" "stamps" "[I", .methodLink RX2 38 yX2_replicaAt, .instanceMethod yX2_replicaAt, .selects RX2 yX2_replicaAt yX2_replicaAt, .initialized RX2, .code yX2_replicaAt cX2_replicaAt 2 (some (.object "DotStores$State")), .classLink RX2 161 "java/lang/IndexOutOfBoundsException", .initialized "java/lang/IndexOutOfBoundsException", .fieldLink RX2 11 "DotStores" "replicas" "[LDotStores$State;", .methodLink RX2 42 yX2_requireIndex, .static yX2_requireIndex, .code yX2_requireIndex cX2_requireIndex 2 none, .methodLink RX2 129 yX2_stampIsIn, .static yX2_stampIsIn, .code yX2_stampIsIn cX2_stampIsIn 1 (some .boolean), .methodLink RX2 100 yX2_bit, .static yX2_bit, .code yX2_bit cX2_bit 1 (some .int), .methodLink RX2 132 yX2_stampTime, .static yX2_stampTime, .code yX2_stampTime cX2_stampTime 1 (some .int), .methodLink RX2 136 yX2_stampReplica, .static yX2_stampReplica, .code yX2_stampReplica cX2_stampReplica 1 (some .int)] ++ wsX10 ++ wsX20 ++ (vx_atS RX2 165 "java/lang/IndexOutOfBoundsException" ["java/lang/RuntimeException", "java/lang/Exception"]).filter goodWord)
def wsX2_seen : List Cond := .code yX2_seen cX2_seen 9 (some .int) :: ([.fieldLink RX2 21 "DotStores" "dots" "LDotStores$Dots;", .fieldLink RX2 108 "DotStores$Dots" "count" "I", .fieldLink RX2 139 "DotStores$Dots" "replica" "[I", .fieldLink RX2 145 "DotStores$Dots" "number" "[I", .methodLink RX2 38 yX2_replicaAt, .instanceMethod yX2_replicaAt, .selects RX2 yX2_replicaAt yX2_replicaAt, .initialized RX2, .code yX2_replicaAt cX2_replicaAt 2 (some (.object "DotStores$State")), .classLink RX2 161 "java/lang/IndexOutOfBoundsException", .initialized "java/lang/IndexOutOfBoundsException", .fieldLink RX2 11 "DotStores" "replicas" "[LDotStores$State;", .methodLink RX2 42 yX2_requireIndex, .static yX2_requireIndex, .code yX2_requireIndex cX2_requireIndex 2 none, .methodLink RX2 142 yX1_isSeen, .instanceMethod yX1_isSeen, .selects RX1 yX1_isSeen yX1_isSeen, .initialized RX1, .code yX1_isSeen cX1_isSeen 2 (some .boolean), .fieldLink RX1 9 "DotStores$State" "seen" "[J"] ++ wsX20 ++ wsX00 ++ wsX10 ++ (vx_atS RX2 165 "java/lang/IndexOutOfBoundsException" ["java/lang/RuntimeException", "java/lang/Exception"]).filter goodWord)
def wsJ13_bitCount_95d88 : List Cond := .code yJ13_bitCount_95d88 cJ13_bitCount_95d88 2 (some .int) :: ([.constantLong RJ13 314 (6148914691236517205), .constantLong RJ13 316 (3689348814741910323), .constantLong RJ13 318 (1085102592571150095)])
def wsX2_bitsIn : List Cond := .code yX2_bitsIn cX2_bitsIn 3 (some .int) :: ([.methodLink RX2 200 yJ13_bitCount_95d88, .static yJ13_bitCount_95d88, .initialized RJ13, .code yJ13_bitCount_95d88 cJ13_bitCount_95d88 2 (some .int), .constantLong RJ13 314 (6148914691236517205), .constantLong RJ13 316 (3689348814741910323), .constantLong RJ13 318 (1085102592571150095)])
def wsX2_size_r1 : List Cond := [Cond.fieldLink RX2 148 "DotStores$State" "live" "[J", Cond.fieldLink RX2 155 "DotStores$State" "seen" "[J", Cond.methodLink RX2 93 yX2_deltaAt, Cond.instanceMethod yX2_deltaAt, Cond.selects RX2 yX2_deltaAt yX2_deltaAt, Cond.initialized RX2, Cond.code yX2_deltaAt cX2_deltaAt 2 (some (.object "DotStores$State")), Cond.classLink RX2 161 "java/lang/IndexOutOfBoundsException", Cond.initialized "java/lang/IndexOutOfBoundsException", Cond.fieldLink RX2 15 "DotStores" "made" "[LDotStores$State;", Cond.methodLink RX2 38 yX2_replicaAt, Cond.instanceMethod yX2_replicaAt, Cond.selects RX2 yX2_replicaAt yX2_replicaAt, Cond.code yX2_replicaAt cX2_replicaAt 2 (some (.object "DotStores$State")), Cond.fieldLink RX2 11 "DotStores" "replicas" "[LDotStores$State;", Cond.methodLink RX2 42 yX2_requireIndex, Cond.static yX2_requireIndex, Cond.code yX2_requireIndex cX2_requireIndex 2 none, Cond.methodLink RX2 151 yX2_bitsIn, Cond.static yX2_bitsIn, Cond.code yX2_bitsIn cX2_bitsIn 3 (some .int), Cond.methodLink RX2 200 yJ13_bitCount_95d88, Cond.static yJ13_bitCount_95d88, Cond.initialized RJ13]
def wsX2_size_r2 : List Cond := [Cond.code yJ13_bitCount_95d88 cJ13_bitCount_95d88 2 (some .int), Cond.constantLong RJ13 314 (6148914691236517205), Cond.constantLong RJ13 316 (3689348814741910323), Cond.constantLong RJ13 318 (1085102592571150095)]
def wsX2_size : List Cond := .code yX2_size cX2_size 4 (some .int) :: ((wsX2_size_r1 ++ wsX2_size_r2) ++ wsX10 ++ wsX20 ++ (vx_atS RX2 165 "java/lang/IndexOutOfBoundsException" ["java/lang/RuntimeException", "java/lang/Exception"]).filter goodWord)
def wsX2_same : List Cond := .code yX2_same cX2_same 4 (some .int) :: ([.methodLink RX2 38 yX2_replicaAt, .instanceMethod yX2_replicaAt, .selects RX2 yX2_replicaAt yX2_replicaAt, .initialized RX2, .code yX2_replicaAt cX2_replicaAt 2 (some (.object "DotStores$State")), .classLink RX2 161 "java/lang/IndexOutOfBoundsException", .initialized "java/lang/IndexOutOfBoundsException", .fieldLink RX2 11 "DotStores" "replicas" "[LDotStores$State;", .methodLink RX2 158 yX1_isLike, .instanceMethod yX1_isLike, .selects RX1 yX1_isLike yX1_isLike, .initialized RX1, .code yX1_isLike cX1_isLike 4 (some .boolean), .fieldLink RX1 22 "DotStores$State" "put" "I", .fieldLink RX1 26 "DotStores$State" "taken" "I", .fieldLink RX1 9 "DotStores$State" "seen" "[J", .fieldLink RX1 15 "DotStores$State" "live" "[J", .fieldLink RX1 18 "DotStores$State" "stamps" "[I", .methodLink RX2 100 yX2_bit, .static yX2_bit, .code yX2_bit cX2_bit 1 (some .int)] ++ wsX20 ++ wsX10 ++ (vx_atS RX2 165 "java/lang/IndexOutOfBoundsException" ["java/lang/RuntimeException", "java/lang/Exception"]).filter goodWord)
def wsX2_below_r1 : List Cond := [Cond.fieldLink RX2 26 "DotStores" "trial" "LDotStores$State;", Cond.methodLink RX2 38 yX2_replicaAt, Cond.instanceMethod yX2_replicaAt, Cond.selects RX2 yX2_replicaAt yX2_replicaAt, Cond.initialized RX2, Cond.code yX2_replicaAt cX2_replicaAt 2 (some (.object "DotStores$State")), Cond.classLink RX2 161 "java/lang/IndexOutOfBoundsException", Cond.initialized "java/lang/IndexOutOfBoundsException", Cond.fieldLink RX2 11 "DotStores" "replicas" "[LDotStores$State;", Cond.methodLink RX2 104 yX1_become, Cond.instanceMethod yX1_become, Cond.selects RX1 yX1_become yX1_become, Cond.initialized RX1, Cond.code yX1_become cX1_become 2 none, Cond.fieldLink RX1 9 "DotStores$State" "seen" "[J", Cond.methodLink RX1 45 arraycopyName, Cond.native arraycopyName, Cond.static arraycopyName, Cond.initialized "java/lang/System", Cond.fieldLink RX1 15 "DotStores$State" "live" "[J", Cond.fieldLink RX1 18 "DotStores$State" "stamps" "[I", Cond.fieldLink RX1 22 "DotStores$State" "put" "I", Cond.fieldLink RX1 26 "DotStores$State" "taken" "I", Cond.methodLink RX2 96 yX1_take]
def wsX2_below_r2 : List Cond := [Cond.instanceMethod yX1_take, Cond.selects RX1 yX1_take yX1_take, Cond.code yX1_take cX1_take 5 (some .boolean), Cond.methodLink RX1 33 yX1_takeDots, Cond.instanceMethod yX1_takeDots, Cond.selects RX1 yX1_takeDots yX1_takeDots, Cond.code yX1_takeDots cX1_takeDots 10 (some .boolean), Cond.constantLong RX1 43 (-1), Cond.methodLink RX1 37 yX1_takeTwice, Cond.instanceMethod yX1_takeTwice, Cond.selects RX1 yX1_takeTwice yX1_takeTwice, Cond.code yX1_takeTwice cX1_takeTwice 5 (some .boolean), Cond.methodLink RX1 40 yX1_takeTimed, Cond.instanceMethod yX1_takeTimed, Cond.selects RX1 yX1_takeTimed yX1_takeTimed, Cond.code yX1_takeTimed cX1_takeTimed 4 (some .boolean), Cond.methodLink RX2 100 yX2_bit, Cond.static yX2_bit, Cond.code yX2_bit cX2_bit 1 (some .int)]
def wsX2_below : List Cond := .code yX2_below cX2_below 4 (some .int) :: ((wsX2_below_r1 ++ wsX2_below_r2) ++ wsX20 ++ wsX10 ++ (vx_atS RX2 165 "java/lang/IndexOutOfBoundsException" ["java/lang/RuntimeException", "java/lang/Exception"]).filter goodWord)
def wsX3_init : List Cond := .code yX3_init cX3_init 1 none :: ([.methodLink RX3 1 objectInit, .instanceMethod objectInit, .code objectInit ⟨#[0xb1]⟩ 1 none, .arrayClass .long, .fieldLink RX3 7 "DotStoresModel" "seen" "[J", .fieldLink RX3 13 "DotStoresModel" "live" "[J", .arrayClass .int, .fieldLink RX3 16 "DotStoresModel" "put" "[I", .fieldLink RX3 20 "DotStoresModel" "taken" "[I", .fieldLink RX3 23 "DotStoresModel" "time" "[I", .fieldLink RX3 26 "DotStoresModel" "by" "[I", .arrayClass .boolean, .fieldLink RX3 29 "DotStoresModel" "isIn" "[Z", .fieldLink RX3 33 "DotStoresModel" "dotKey" "[I", .fieldLink RX3 36 "DotStoresModel" "dotPart" "[I", .fieldLink RX3 39 "DotStoresModel" "dotValue" "[J", .fieldLink RX3 42 "DotStoresModel" "sorted" "[J"] ++ wsX30)
def wsX3_thrown : List Cond := .code yX3_thrown cX3_thrown 1 (some .int) :: ([.fieldLink RX3 45 "DotStoresModel" "thrown" "I"] ++ wsX30)
def wsX3_in : List Cond := .code yX3_in cX3_in 3 (some .boolean) :: ([])
def wsX3_goes : List Cond := .code yX3_goes cX3_goes 2 (some .boolean) :: ([.fieldLink RX3 45 "DotStoresModel" "thrown" "I"] ++ wsX30)
def wsX3_dot : List Cond := .code yX3_dot cX3_dot 2 (some .int) :: ([])
def wsX3_isSet : List Cond := .code yX3_isSet cX3_isSet 4 (some .boolean) :: ([])
def wsX3_set : List Cond := .code yX3_set cX3_set 5 none :: ([])
def wsX3_greatest : List Cond := .code yX3_greatest cX3_greatest 4 (some .int) :: ([.fieldLink RX3 7 "DotStoresModel" "seen" "[J", .methodLink RX3 49 yX3_isSet, .static yX3_isSet, .initialized RX3, .code yX3_isSet cX3_isSet 4 (some .boolean)] ++ wsX30)
def wsX3_empty : List Cond := .code yX3_empty cX3_empty 3 none :: ([.fieldLink RX3 7 "DotStoresModel" "seen" "[J", .fieldLink RX3 13 "DotStoresModel" "live" "[J", .fieldLink RX3 16 "DotStoresModel" "put" "[I", .fieldLink RX3 20 "DotStoresModel" "taken" "[I", .fieldLink RX3 23 "DotStoresModel" "time" "[I", .fieldLink RX3 26 "DotStoresModel" "by" "[I", .fieldLink RX3 29 "DotStoresModel" "isIn" "[Z"] ++ wsX30)
def wsX3_copyTimed : List Cond := .code yX3_copyTimed cX3_copyTimed 3 none :: ([.fieldLink RX3 23 "DotStoresModel" "time" "[I", .fieldLink RX3 26 "DotStoresModel" "by" "[I", .fieldLink RX3 29 "DotStoresModel" "isIn" "[Z"] ++ wsX30)
def wsX3_copy : List Cond := .code yX3_copy cX3_copy 4 none :: ([.fieldLink RX3 7 "DotStoresModel" "seen" "[J", .fieldLink RX3 13 "DotStoresModel" "live" "[J", .fieldLink RX3 16 "DotStoresModel" "put" "[I", .fieldLink RX3 20 "DotStoresModel" "taken" "[I", .methodLink RX3 53 yX3_copyTimed, .instanceMethod yX3_copyTimed, .selects RX3 yX3_copyTimed yX3_copyTimed, .initialized RX3, .code yX3_copyTimed cX3_copyTimed 3 none, .fieldLink RX3 23 "DotStoresModel" "time" "[I", .fieldLink RX3 26 "DotStoresModel" "by" "[I", .fieldLink RX3 29 "DotStoresModel" "isIn" "[Z"] ++ wsX30)
def wsX3_isAfter : List Cond := .code yX3_isAfter cX3_isAfter 3 (some .boolean) :: ([.fieldLink RX3 23 "DotStoresModel" "time" "[I", .fieldLink RX3 26 "DotStoresModel" "by" "[I", .fieldLink RX3 29 "DotStoresModel" "isIn" "[Z"] ++ wsX30)
def wsX3_isSame : List Cond := .code yX3_isSame cX3_isSame 7 (some .boolean) :: ([.fieldLink RX3 16 "DotStoresModel" "put" "[I", .fieldLink RX3 20 "DotStoresModel" "taken" "[I", .fieldLink RX3 7 "DotStoresModel" "seen" "[J", .fieldLink RX3 13 "DotStoresModel" "live" "[J", .fieldLink RX3 23 "DotStoresModel" "time" "[I", .fieldLink RX3 26 "DotStoresModel" "by" "[I", .fieldLink RX3 29 "DotStoresModel" "isIn" "[Z"] ++ wsX30)
def wsX3_joinTo : List Cond := .code yX3_joinTo cX3_joinTo 6 none :: ([.fieldLink RX3 13 "DotStoresModel" "live" "[J", .fieldLink RX3 7 "DotStoresModel" "seen" "[J", .constantLong RX3 57 (-1), .fieldLink RX3 16 "DotStoresModel" "put" "[I", .fieldLink RX3 20 "DotStoresModel" "taken" "[I", .methodLink RX3 59 yX3_isAfter, .instanceMethod yX3_isAfter, .selects RX3 yX3_isAfter yX3_isAfter, .initialized RX3, .code yX3_isAfter cX3_isAfter 3 (some .boolean), .fieldLink RX3 23 "DotStoresModel" "time" "[I", .fieldLink RX3 26 "DotStoresModel" "by" "[I", .fieldLink RX3 29 "DotStoresModel" "isIn" "[Z", .methodLink RX3 53 yX3_copyTimed, .instanceMethod yX3_copyTimed, .selects RX3 yX3_copyTimed yX3_copyTimed, .code yX3_copyTimed cX3_copyTimed 3 none] ++ wsX30)
def wsX3_joined_r1 : List Cond := [Cond.methodLink RX3 63 yX3_copy, Cond.instanceMethod yX3_copy, Cond.selects RX3 yX3_copy yX3_copy, Cond.initialized RX3, Cond.code yX3_copy cX3_copy 4 none, Cond.fieldLink RX3 7 "DotStoresModel" "seen" "[J", Cond.fieldLink RX3 13 "DotStoresModel" "live" "[J", Cond.fieldLink RX3 16 "DotStoresModel" "put" "[I", Cond.fieldLink RX3 20 "DotStoresModel" "taken" "[I", Cond.methodLink RX3 53 yX3_copyTimed, Cond.instanceMethod yX3_copyTimed, Cond.selects RX3 yX3_copyTimed yX3_copyTimed, Cond.code yX3_copyTimed cX3_copyTimed 3 none, Cond.fieldLink RX3 23 "DotStoresModel" "time" "[I", Cond.fieldLink RX3 26 "DotStoresModel" "by" "[I", Cond.fieldLink RX3 29 "DotStoresModel" "isIn" "[Z", Cond.methodLink RX3 66 yX3_joinTo, Cond.instanceMethod yX3_joinTo, Cond.selects RX3 yX3_joinTo yX3_joinTo, Cond.code yX3_joinTo cX3_joinTo 6 none, Cond.constantLong RX3 57 (-1), Cond.methodLink RX3 59 yX3_isAfter, Cond.instanceMethod yX3_isAfter, Cond.selects RX3 yX3_isAfter yX3_isAfter]
def wsX3_joined_r2 : List Cond := [Cond.code yX3_isAfter cX3_isAfter 3 (some .boolean), Cond.methodLink RX3 69 yX3_isSame, Cond.instanceMethod yX3_isSame, Cond.selects RX3 yX3_isSame yX3_isSame, Cond.code yX3_isSame cX3_isSame 7 (some .boolean)]
def wsX3_joined : List Cond := .code yX3_joined cX3_joined 3 (some .int) :: ((wsX3_joined_r1 ++ wsX3_joined_r2) ++ wsX30)
def wsX3_fresh : List Cond := .code yX3_fresh cX3_fresh 2 (some .int) :: ([.fieldLink RX3 72 "DotStoresModel" "deltas" "I", .methodLink RX3 75 yX3_empty, .instanceMethod yX3_empty, .selects RX3 yX3_empty yX3_empty, .initialized RX3, .code yX3_empty cX3_empty 3 none, .fieldLink RX3 7 "DotStoresModel" "seen" "[J", .fieldLink RX3 13 "DotStoresModel" "live" "[J", .fieldLink RX3 16 "DotStoresModel" "put" "[I", .fieldLink RX3 20 "DotStoresModel" "taken" "[I", .fieldLink RX3 23 "DotStoresModel" "time" "[I", .fieldLink RX3 26 "DotStoresModel" "by" "[I", .fieldLink RX3 29 "DotStoresModel" "isIn" "[Z"] ++ wsX30)
def wsX3_done : List Cond := .code yX3_done cX3_done 3 (some .int) :: ([.fieldLink RX3 72 "DotStoresModel" "deltas" "I", .methodLink RX3 66 yX3_joinTo, .instanceMethod yX3_joinTo, .selects RX3 yX3_joinTo yX3_joinTo, .initialized RX3, .code yX3_joinTo cX3_joinTo 6 none, .fieldLink RX3 13 "DotStoresModel" "live" "[J", .fieldLink RX3 7 "DotStoresModel" "seen" "[J", .constantLong RX3 57 (-1), .fieldLink RX3 16 "DotStoresModel" "put" "[I", .fieldLink RX3 20 "DotStoresModel" "taken" "[I", .methodLink RX3 59 yX3_isAfter, .instanceMethod yX3_isAfter, .selects RX3 yX3_isAfter yX3_isAfter, .code yX3_isAfter cX3_isAfter 3 (some .boolean), .fieldLink RX3 23 "DotStoresModel" "time" "[I", .fieldLink RX3 26 "DotStoresModel" "by" "[I", .fieldLink RX3 29 "DotStoresModel" "isIn" "[Z", .methodLink RX3 53 yX3_copyTimed, .instanceMethod yX3_copyTimed, .selects RX3 yX3_copyTimed yX3_copyTimed, .code yX3_copyTimed cX3_copyTimed 3 none] ++ wsX30)
def wsX3_isReplica : List Cond := .code yX3_isReplica cX3_isReplica 2 (some .boolean) :: ([.methodLink RX3 79 yX3_in, .static yX3_in, .initialized RX3, .code yX3_in cX3_in 3 (some .boolean)])
def wsX3_isKey : List Cond := .code yX3_isKey cX3_isKey 1 (some .boolean) :: ([.methodLink RX3 79 yX3_in, .static yX3_in, .initialized RX3, .code yX3_in cX3_in 3 (some .boolean)])
def wsX3_isElement : List Cond := .code yX3_isElement cX3_isElement 1 (some .boolean) :: ([.methodLink RX3 79 yX3_in, .static yX3_in, .initialized RX3, .code yX3_in cX3_in 3 (some .boolean)])
def wsX3_takeBack : List Cond := .code yX3_takeBack cX3_takeBack 12 (some .long) :: ([.fieldLink RX3 13 "DotStoresModel" "live" "[J", .fieldLink RX3 33 "DotStoresModel" "dotKey" "[I", .fieldLink RX3 36 "DotStoresModel" "dotPart" "[I", .fieldLink RX3 7 "DotStoresModel" "seen" "[J", .fieldLink RX3 39 "DotStoresModel" "dotValue" "[J", .methodLink RX3 83 yX3_dot, .static yX3_dot, .initialized RX3, .code yX3_dot cX3_dot 2 (some .int), .methodLink RX3 49 yX3_isSet, .static yX3_isSet, .code yX3_isSet cX3_isSet 4 (some .boolean), .methodLink RX3 87 yX3_set, .static yX3_set, .code yX3_set cX3_set 5 none] ++ wsX30)
def wsX3_newDot : List Cond := .code yX3_newDot cX3_newDot 9 none :: ([.fieldLink RX3 33 "DotStoresModel" "dotKey" "[I", .fieldLink RX3 36 "DotStoresModel" "dotPart" "[I", .fieldLink RX3 39 "DotStoresModel" "dotValue" "[J", .fieldLink RX3 7 "DotStoresModel" "seen" "[J", .fieldLink RX3 13 "DotStoresModel" "live" "[J", .methodLink RX3 91 yX3_greatest, .instanceMethod yX3_greatest, .selects RX3 yX3_greatest yX3_greatest, .initialized RX3, .code yX3_greatest cX3_greatest 4 (some .int), .methodLink RX3 49 yX3_isSet, .static yX3_isSet, .code yX3_isSet cX3_isSet 4 (some .boolean), .methodLink RX3 83 yX3_dot, .static yX3_dot, .code yX3_dot cX3_dot 2 (some .int), .methodLink RX3 87 yX3_set, .static yX3_set, .code yX3_set cX3_set 5 none] ++ wsX30)
def wsX3_hasRoom : List Cond := .code yX3_hasRoom cX3_hasRoom 3 (some .boolean) :: ([.fieldLink RX3 72 "DotStoresModel" "deltas" "I", .methodLink RX3 91 yX3_greatest, .instanceMethod yX3_greatest, .selects RX3 yX3_greatest yX3_greatest, .initialized RX3, .code yX3_greatest cX3_greatest 4 (some .int), .fieldLink RX3 7 "DotStoresModel" "seen" "[J", .methodLink RX3 49 yX3_isSet, .static yX3_isSet, .code yX3_isSet cX3_isSet 4 (some .boolean)] ++ wsX30)
def wsX3_refusal : List Cond := .code yX3_refusal cX3_refusal 6 (some .int) :: ([.methodLink RX3 94 yX3_isReplica, .instanceMethod yX3_isReplica, .selects RX3 yX3_isReplica yX3_isReplica, .initialized RX3, .code yX3_isReplica cX3_isReplica 2 (some .boolean), .methodLink RX3 79 yX3_in, .static yX3_in, .code yX3_in cX3_in 3 (some .boolean), .methodLink RX3 98 yX3_isKey, .static yX3_isKey, .code yX3_isKey cX3_isKey 1 (some .boolean), .methodLink RX3 101 yX3_hasRoom, .instanceMethod yX3_hasRoom, .selects RX3 yX3_hasRoom yX3_hasRoom, .code yX3_hasRoom cX3_hasRoom 3 (some .boolean), .fieldLink RX3 72 "DotStoresModel" "deltas" "I", .methodLink RX3 91 yX3_greatest, .instanceMethod yX3_greatest, .selects RX3 yX3_greatest yX3_greatest, .code yX3_greatest cX3_greatest 4 (some .int), .fieldLink RX3 7 "DotStoresModel" "seen" "[J", .methodLink RX3 49 yX3_isSet, .static yX3_isSet, .code yX3_isSet cX3_isSet 4 (some .boolean)] ++ wsX30)
def wsX3_change_r1 : List Cond := [Cond.methodLink RX3 105 yX3_fresh, Cond.instanceMethod yX3_fresh, Cond.selects RX3 yX3_fresh yX3_fresh, Cond.initialized RX3, Cond.code yX3_fresh cX3_fresh 2 (some .int), Cond.fieldLink RX3 72 "DotStoresModel" "deltas" "I", Cond.methodLink RX3 75 yX3_empty, Cond.instanceMethod yX3_empty, Cond.selects RX3 yX3_empty yX3_empty, Cond.code yX3_empty cX3_empty 3 none, Cond.fieldLink RX3 7 "DotStoresModel" "seen" "[J", Cond.fieldLink RX3 13 "DotStoresModel" "live" "[J", Cond.fieldLink RX3 16 "DotStoresModel" "put" "[I", Cond.fieldLink RX3 20 "DotStoresModel" "taken" "[I", Cond.fieldLink RX3 23 "DotStoresModel" "time" "[I", Cond.fieldLink RX3 26 "DotStoresModel" "by" "[I", Cond.fieldLink RX3 29 "DotStoresModel" "isIn" "[Z", Cond.methodLink RX3 109 yX3_takeBack, Cond.instanceMethod yX3_takeBack, Cond.selects RX3 yX3_takeBack yX3_takeBack, Cond.code yX3_takeBack cX3_takeBack 12 (some .long), Cond.fieldLink RX3 33 "DotStoresModel" "dotKey" "[I", Cond.fieldLink RX3 36 "DotStoresModel" "dotPart" "[I", Cond.fieldLink RX3 39 "DotStoresModel" "dotValue" "[J"]
def wsX3_change_r2 : List Cond := [Cond.methodLink RX3 83 yX3_dot, Cond.static yX3_dot, Cond.code yX3_dot cX3_dot 2 (some .int), Cond.methodLink RX3 49 yX3_isSet, Cond.static yX3_isSet, Cond.code yX3_isSet cX3_isSet 4 (some .boolean), Cond.methodLink RX3 87 yX3_set, Cond.static yX3_set, Cond.code yX3_set cX3_set 5 none, Cond.methodLink RX3 113 yX3_newDot, Cond.instanceMethod yX3_newDot, Cond.selects RX3 yX3_newDot yX3_newDot, Cond.code yX3_newDot cX3_newDot 9 none, Cond.methodLink RX3 91 yX3_greatest, Cond.instanceMethod yX3_greatest, Cond.selects RX3 yX3_greatest yX3_greatest, Cond.code yX3_greatest cX3_greatest 4 (some .int), Cond.methodLink RX3 117 yX3_done, Cond.instanceMethod yX3_done, Cond.selects RX3 yX3_done yX3_done, Cond.code yX3_done cX3_done 3 (some .int), Cond.methodLink RX3 66 yX3_joinTo, Cond.instanceMethod yX3_joinTo, Cond.selects RX3 yX3_joinTo yX3_joinTo]
def wsX3_change_r3 : List Cond := [Cond.code yX3_joinTo cX3_joinTo 6 none, Cond.constantLong RX3 57 (-1), Cond.methodLink RX3 59 yX3_isAfter, Cond.instanceMethod yX3_isAfter, Cond.selects RX3 yX3_isAfter yX3_isAfter, Cond.code yX3_isAfter cX3_isAfter 3 (some .boolean), Cond.methodLink RX3 53 yX3_copyTimed, Cond.instanceMethod yX3_copyTimed, Cond.selects RX3 yX3_copyTimed yX3_copyTimed, Cond.code yX3_copyTimed cX3_copyTimed 3 none]
def wsX3_change : List Cond := .code yX3_change cX3_change 6 (some .int) :: ((wsX3_change_r1 ++ (wsX3_change_r2 ++ wsX3_change_r3)) ++ wsX30)
def wsX3_element_r1 : List Cond := [Cond.fieldLink RX3 45 "DotStoresModel" "thrown" "I", Cond.methodLink RX3 120 yX3_isElement, Cond.static yX3_isElement, Cond.initialized RX3, Cond.code yX3_isElement cX3_isElement 1 (some .boolean), Cond.methodLink RX3 79 yX3_in, Cond.static yX3_in, Cond.code yX3_in cX3_in 3 (some .boolean), Cond.methodLink RX3 123 yX3_refusal, Cond.instanceMethod yX3_refusal, Cond.selects RX3 yX3_refusal yX3_refusal, Cond.code yX3_refusal cX3_refusal 6 (some .int), Cond.methodLink RX3 94 yX3_isReplica, Cond.instanceMethod yX3_isReplica, Cond.selects RX3 yX3_isReplica yX3_isReplica, Cond.code yX3_isReplica cX3_isReplica 2 (some .boolean), Cond.methodLink RX3 98 yX3_isKey, Cond.static yX3_isKey, Cond.code yX3_isKey cX3_isKey 1 (some .boolean), Cond.methodLink RX3 101 yX3_hasRoom, Cond.instanceMethod yX3_hasRoom, Cond.selects RX3 yX3_hasRoom yX3_hasRoom, Cond.code yX3_hasRoom cX3_hasRoom 3 (some .boolean), Cond.fieldLink RX3 72 "DotStoresModel" "deltas" "I"]
def wsX3_element_r2 : List Cond := [Cond.methodLink RX3 91 yX3_greatest, Cond.instanceMethod yX3_greatest, Cond.selects RX3 yX3_greatest yX3_greatest, Cond.code yX3_greatest cX3_greatest 4 (some .int), Cond.fieldLink RX3 7 "DotStoresModel" "seen" "[J", Cond.methodLink RX3 49 yX3_isSet, Cond.static yX3_isSet, Cond.code yX3_isSet cX3_isSet 4 (some .boolean), Cond.methodLink RX3 127 yX3_change, Cond.instanceMethod yX3_change, Cond.selects RX3 yX3_change yX3_change, Cond.code yX3_change cX3_change 6 (some .int), Cond.methodLink RX3 105 yX3_fresh, Cond.instanceMethod yX3_fresh, Cond.selects RX3 yX3_fresh yX3_fresh, Cond.code yX3_fresh cX3_fresh 2 (some .int), Cond.methodLink RX3 75 yX3_empty, Cond.instanceMethod yX3_empty, Cond.selects RX3 yX3_empty yX3_empty, Cond.code yX3_empty cX3_empty 3 none, Cond.fieldLink RX3 13 "DotStoresModel" "live" "[J", Cond.fieldLink RX3 16 "DotStoresModel" "put" "[I", Cond.fieldLink RX3 20 "DotStoresModel" "taken" "[I", Cond.fieldLink RX3 23 "DotStoresModel" "time" "[I"]
def wsX3_element_r3 : List Cond := [Cond.fieldLink RX3 26 "DotStoresModel" "by" "[I", Cond.fieldLink RX3 29 "DotStoresModel" "isIn" "[Z", Cond.methodLink RX3 109 yX3_takeBack, Cond.instanceMethod yX3_takeBack, Cond.selects RX3 yX3_takeBack yX3_takeBack, Cond.code yX3_takeBack cX3_takeBack 12 (some .long), Cond.fieldLink RX3 33 "DotStoresModel" "dotKey" "[I", Cond.fieldLink RX3 36 "DotStoresModel" "dotPart" "[I", Cond.fieldLink RX3 39 "DotStoresModel" "dotValue" "[J", Cond.methodLink RX3 83 yX3_dot, Cond.static yX3_dot, Cond.code yX3_dot cX3_dot 2 (some .int), Cond.methodLink RX3 87 yX3_set, Cond.static yX3_set, Cond.code yX3_set cX3_set 5 none, Cond.methodLink RX3 113 yX3_newDot, Cond.instanceMethod yX3_newDot, Cond.selects RX3 yX3_newDot yX3_newDot, Cond.code yX3_newDot cX3_newDot 9 none, Cond.methodLink RX3 117 yX3_done, Cond.instanceMethod yX3_done, Cond.selects RX3 yX3_done yX3_done, Cond.code yX3_done cX3_done 3 (some .int), Cond.methodLink RX3 66 yX3_joinTo]
def wsX3_element_r4 : List Cond := [Cond.instanceMethod yX3_joinTo, Cond.selects RX3 yX3_joinTo yX3_joinTo, Cond.code yX3_joinTo cX3_joinTo 6 none, Cond.constantLong RX3 57 (-1), Cond.methodLink RX3 59 yX3_isAfter, Cond.instanceMethod yX3_isAfter, Cond.selects RX3 yX3_isAfter yX3_isAfter, Cond.code yX3_isAfter cX3_isAfter 3 (some .boolean), Cond.methodLink RX3 53 yX3_copyTimed, Cond.instanceMethod yX3_copyTimed, Cond.selects RX3 yX3_copyTimed yX3_copyTimed, Cond.code yX3_copyTimed cX3_copyTimed 3 none]
def wsX3_element : List Cond := .code yX3_element cX3_element 5 (some .int) :: ((wsX3_element_r1 ++ (wsX3_element_r2 ++ (wsX3_element_r3 ++ wsX3_element_r4))) ++ wsX30)
def wsX3_write_r1 : List Cond := [Cond.fieldLink RX3 45 "DotStoresModel" "thrown" "I", Cond.methodLink RX3 123 yX3_refusal, Cond.instanceMethod yX3_refusal, Cond.selects RX3 yX3_refusal yX3_refusal, Cond.initialized RX3, Cond.code yX3_refusal cX3_refusal 6 (some .int), Cond.methodLink RX3 94 yX3_isReplica, Cond.instanceMethod yX3_isReplica, Cond.selects RX3 yX3_isReplica yX3_isReplica, Cond.code yX3_isReplica cX3_isReplica 2 (some .boolean), Cond.methodLink RX3 79 yX3_in, Cond.static yX3_in, Cond.code yX3_in cX3_in 3 (some .boolean), Cond.methodLink RX3 98 yX3_isKey, Cond.static yX3_isKey, Cond.code yX3_isKey cX3_isKey 1 (some .boolean), Cond.methodLink RX3 101 yX3_hasRoom, Cond.instanceMethod yX3_hasRoom, Cond.selects RX3 yX3_hasRoom yX3_hasRoom, Cond.code yX3_hasRoom cX3_hasRoom 3 (some .boolean), Cond.fieldLink RX3 72 "DotStoresModel" "deltas" "I", Cond.methodLink RX3 91 yX3_greatest, Cond.instanceMethod yX3_greatest, Cond.selects RX3 yX3_greatest yX3_greatest]
def wsX3_write_r2 : List Cond := [Cond.code yX3_greatest cX3_greatest 4 (some .int), Cond.fieldLink RX3 7 "DotStoresModel" "seen" "[J", Cond.methodLink RX3 49 yX3_isSet, Cond.static yX3_isSet, Cond.code yX3_isSet cX3_isSet 4 (some .boolean), Cond.methodLink RX3 105 yX3_fresh, Cond.instanceMethod yX3_fresh, Cond.selects RX3 yX3_fresh yX3_fresh, Cond.code yX3_fresh cX3_fresh 2 (some .int), Cond.methodLink RX3 75 yX3_empty, Cond.instanceMethod yX3_empty, Cond.selects RX3 yX3_empty yX3_empty, Cond.code yX3_empty cX3_empty 3 none, Cond.fieldLink RX3 13 "DotStoresModel" "live" "[J", Cond.fieldLink RX3 16 "DotStoresModel" "put" "[I", Cond.fieldLink RX3 20 "DotStoresModel" "taken" "[I", Cond.fieldLink RX3 23 "DotStoresModel" "time" "[I", Cond.fieldLink RX3 26 "DotStoresModel" "by" "[I", Cond.fieldLink RX3 29 "DotStoresModel" "isIn" "[Z", Cond.methodLink RX3 109 yX3_takeBack, Cond.instanceMethod yX3_takeBack, Cond.selects RX3 yX3_takeBack yX3_takeBack, Cond.code yX3_takeBack cX3_takeBack 12 (some .long), Cond.fieldLink RX3 33 "DotStoresModel" "dotKey" "[I"]
def wsX3_write_r3 : List Cond := [Cond.fieldLink RX3 36 "DotStoresModel" "dotPart" "[I", Cond.fieldLink RX3 39 "DotStoresModel" "dotValue" "[J", Cond.methodLink RX3 83 yX3_dot, Cond.static yX3_dot, Cond.code yX3_dot cX3_dot 2 (some .int), Cond.methodLink RX3 87 yX3_set, Cond.static yX3_set, Cond.code yX3_set cX3_set 5 none, Cond.methodLink RX3 113 yX3_newDot, Cond.instanceMethod yX3_newDot, Cond.selects RX3 yX3_newDot yX3_newDot, Cond.code yX3_newDot cX3_newDot 9 none, Cond.methodLink RX3 117 yX3_done, Cond.instanceMethod yX3_done, Cond.selects RX3 yX3_done yX3_done, Cond.code yX3_done cX3_done 3 (some .int), Cond.methodLink RX3 66 yX3_joinTo, Cond.instanceMethod yX3_joinTo, Cond.selects RX3 yX3_joinTo yX3_joinTo, Cond.code yX3_joinTo cX3_joinTo 6 none, Cond.constantLong RX3 57 (-1), Cond.methodLink RX3 59 yX3_isAfter, Cond.instanceMethod yX3_isAfter, Cond.selects RX3 yX3_isAfter yX3_isAfter]
def wsX3_write_r4 : List Cond := [Cond.code yX3_isAfter cX3_isAfter 3 (some .boolean), Cond.methodLink RX3 53 yX3_copyTimed, Cond.instanceMethod yX3_copyTimed, Cond.selects RX3 yX3_copyTimed yX3_copyTimed, Cond.code yX3_copyTimed cX3_copyTimed 3 none]
def wsX3_write : List Cond := .code yX3_write cX3_write 6 (some .int) :: ((wsX3_write_r1 ++ (wsX3_write_r2 ++ (wsX3_write_r3 ++ wsX3_write_r4))) ++ wsX30)
def wsX3_count_r1 : List Cond := [Cond.fieldLink RX3 45 "DotStoresModel" "thrown" "I", Cond.methodLink RX3 123 yX3_refusal, Cond.instanceMethod yX3_refusal, Cond.selects RX3 yX3_refusal yX3_refusal, Cond.initialized RX3, Cond.code yX3_refusal cX3_refusal 6 (some .int), Cond.methodLink RX3 94 yX3_isReplica, Cond.instanceMethod yX3_isReplica, Cond.selects RX3 yX3_isReplica yX3_isReplica, Cond.code yX3_isReplica cX3_isReplica 2 (some .boolean), Cond.methodLink RX3 79 yX3_in, Cond.static yX3_in, Cond.code yX3_in cX3_in 3 (some .boolean), Cond.methodLink RX3 98 yX3_isKey, Cond.static yX3_isKey, Cond.code yX3_isKey cX3_isKey 1 (some .boolean), Cond.methodLink RX3 101 yX3_hasRoom, Cond.instanceMethod yX3_hasRoom, Cond.selects RX3 yX3_hasRoom yX3_hasRoom, Cond.code yX3_hasRoom cX3_hasRoom 3 (some .boolean), Cond.fieldLink RX3 72 "DotStoresModel" "deltas" "I", Cond.methodLink RX3 91 yX3_greatest, Cond.instanceMethod yX3_greatest, Cond.selects RX3 yX3_greatest yX3_greatest]
def wsX3_count_r2 : List Cond := [Cond.code yX3_greatest cX3_greatest 4 (some .int), Cond.fieldLink RX3 7 "DotStoresModel" "seen" "[J", Cond.methodLink RX3 49 yX3_isSet, Cond.static yX3_isSet, Cond.code yX3_isSet cX3_isSet 4 (some .boolean), Cond.methodLink RX3 105 yX3_fresh, Cond.instanceMethod yX3_fresh, Cond.selects RX3 yX3_fresh yX3_fresh, Cond.code yX3_fresh cX3_fresh 2 (some .int), Cond.methodLink RX3 75 yX3_empty, Cond.instanceMethod yX3_empty, Cond.selects RX3 yX3_empty yX3_empty, Cond.code yX3_empty cX3_empty 3 none, Cond.fieldLink RX3 13 "DotStoresModel" "live" "[J", Cond.fieldLink RX3 16 "DotStoresModel" "put" "[I", Cond.fieldLink RX3 20 "DotStoresModel" "taken" "[I", Cond.fieldLink RX3 23 "DotStoresModel" "time" "[I", Cond.fieldLink RX3 26 "DotStoresModel" "by" "[I", Cond.fieldLink RX3 29 "DotStoresModel" "isIn" "[Z", Cond.methodLink RX3 109 yX3_takeBack, Cond.instanceMethod yX3_takeBack, Cond.selects RX3 yX3_takeBack yX3_takeBack, Cond.code yX3_takeBack cX3_takeBack 12 (some .long), Cond.fieldLink RX3 33 "DotStoresModel" "dotKey" "[I"]
def wsX3_count_r3 : List Cond := [Cond.fieldLink RX3 36 "DotStoresModel" "dotPart" "[I", Cond.fieldLink RX3 39 "DotStoresModel" "dotValue" "[J", Cond.methodLink RX3 83 yX3_dot, Cond.static yX3_dot, Cond.code yX3_dot cX3_dot 2 (some .int), Cond.methodLink RX3 87 yX3_set, Cond.static yX3_set, Cond.code yX3_set cX3_set 5 none, Cond.methodLink RX3 113 yX3_newDot, Cond.instanceMethod yX3_newDot, Cond.selects RX3 yX3_newDot yX3_newDot, Cond.code yX3_newDot cX3_newDot 9 none, Cond.methodLink RX3 117 yX3_done, Cond.instanceMethod yX3_done, Cond.selects RX3 yX3_done yX3_done, Cond.code yX3_done cX3_done 3 (some .int), Cond.methodLink RX3 66 yX3_joinTo, Cond.instanceMethod yX3_joinTo, Cond.selects RX3 yX3_joinTo yX3_joinTo, Cond.code yX3_joinTo cX3_joinTo 6 none, Cond.constantLong RX3 57 (-1), Cond.methodLink RX3 59 yX3_isAfter, Cond.instanceMethod yX3_isAfter, Cond.selects RX3 yX3_isAfter yX3_isAfter]
def wsX3_count_r4 : List Cond := [Cond.code yX3_isAfter cX3_isAfter 3 (some .boolean), Cond.methodLink RX3 53 yX3_copyTimed, Cond.instanceMethod yX3_copyTimed, Cond.selects RX3 yX3_copyTimed yX3_copyTimed, Cond.code yX3_copyTimed cX3_copyTimed 3 none]
def wsX3_count : List Cond := .code yX3_count cX3_count 8 (some .int) :: ((wsX3_count_r1 ++ (wsX3_count_r2 ++ (wsX3_count_r3 ++ wsX3_count_r4))) ++ wsX30)
def wsX3_flag_r1 : List Cond := [Cond.fieldLink RX3 45 "DotStoresModel" "thrown" "I", Cond.methodLink RX3 79 yX3_in, Cond.static yX3_in, Cond.initialized RX3, Cond.code yX3_in cX3_in 3 (some .boolean), Cond.methodLink RX3 123 yX3_refusal, Cond.instanceMethod yX3_refusal, Cond.selects RX3 yX3_refusal yX3_refusal, Cond.code yX3_refusal cX3_refusal 6 (some .int), Cond.methodLink RX3 94 yX3_isReplica, Cond.instanceMethod yX3_isReplica, Cond.selects RX3 yX3_isReplica yX3_isReplica, Cond.code yX3_isReplica cX3_isReplica 2 (some .boolean), Cond.methodLink RX3 98 yX3_isKey, Cond.static yX3_isKey, Cond.code yX3_isKey cX3_isKey 1 (some .boolean), Cond.methodLink RX3 101 yX3_hasRoom, Cond.instanceMethod yX3_hasRoom, Cond.selects RX3 yX3_hasRoom yX3_hasRoom, Cond.code yX3_hasRoom cX3_hasRoom 3 (some .boolean), Cond.fieldLink RX3 72 "DotStoresModel" "deltas" "I", Cond.methodLink RX3 91 yX3_greatest, Cond.instanceMethod yX3_greatest, Cond.selects RX3 yX3_greatest yX3_greatest]
def wsX3_flag_r2 : List Cond := [Cond.code yX3_greatest cX3_greatest 4 (some .int), Cond.fieldLink RX3 7 "DotStoresModel" "seen" "[J", Cond.methodLink RX3 49 yX3_isSet, Cond.static yX3_isSet, Cond.code yX3_isSet cX3_isSet 4 (some .boolean), Cond.methodLink RX3 127 yX3_change, Cond.instanceMethod yX3_change, Cond.selects RX3 yX3_change yX3_change, Cond.code yX3_change cX3_change 6 (some .int), Cond.methodLink RX3 105 yX3_fresh, Cond.instanceMethod yX3_fresh, Cond.selects RX3 yX3_fresh yX3_fresh, Cond.code yX3_fresh cX3_fresh 2 (some .int), Cond.methodLink RX3 75 yX3_empty, Cond.instanceMethod yX3_empty, Cond.selects RX3 yX3_empty yX3_empty, Cond.code yX3_empty cX3_empty 3 none, Cond.fieldLink RX3 13 "DotStoresModel" "live" "[J", Cond.fieldLink RX3 16 "DotStoresModel" "put" "[I", Cond.fieldLink RX3 20 "DotStoresModel" "taken" "[I", Cond.fieldLink RX3 23 "DotStoresModel" "time" "[I", Cond.fieldLink RX3 26 "DotStoresModel" "by" "[I", Cond.fieldLink RX3 29 "DotStoresModel" "isIn" "[Z", Cond.methodLink RX3 109 yX3_takeBack]
def wsX3_flag_r3 : List Cond := [Cond.instanceMethod yX3_takeBack, Cond.selects RX3 yX3_takeBack yX3_takeBack, Cond.code yX3_takeBack cX3_takeBack 12 (some .long), Cond.fieldLink RX3 33 "DotStoresModel" "dotKey" "[I", Cond.fieldLink RX3 36 "DotStoresModel" "dotPart" "[I", Cond.fieldLink RX3 39 "DotStoresModel" "dotValue" "[J", Cond.methodLink RX3 83 yX3_dot, Cond.static yX3_dot, Cond.code yX3_dot cX3_dot 2 (some .int), Cond.methodLink RX3 87 yX3_set, Cond.static yX3_set, Cond.code yX3_set cX3_set 5 none, Cond.methodLink RX3 113 yX3_newDot, Cond.instanceMethod yX3_newDot, Cond.selects RX3 yX3_newDot yX3_newDot, Cond.code yX3_newDot cX3_newDot 9 none, Cond.methodLink RX3 117 yX3_done, Cond.instanceMethod yX3_done, Cond.selects RX3 yX3_done yX3_done, Cond.code yX3_done cX3_done 3 (some .int), Cond.methodLink RX3 66 yX3_joinTo, Cond.instanceMethod yX3_joinTo, Cond.selects RX3 yX3_joinTo yX3_joinTo, Cond.code yX3_joinTo cX3_joinTo 6 none]
def wsX3_flag_r4 : List Cond := [Cond.constantLong RX3 57 (-1), Cond.methodLink RX3 59 yX3_isAfter, Cond.instanceMethod yX3_isAfter, Cond.selects RX3 yX3_isAfter yX3_isAfter, Cond.code yX3_isAfter cX3_isAfter 3 (some .boolean), Cond.methodLink RX3 53 yX3_copyTimed, Cond.instanceMethod yX3_copyTimed, Cond.selects RX3 yX3_copyTimed yX3_copyTimed, Cond.code yX3_copyTimed cX3_copyTimed 3 none]
def wsX3_flag : List Cond := .code yX3_flag cX3_flag 5 (some .int) :: ((wsX3_flag_r1 ++ (wsX3_flag_r2 ++ (wsX3_flag_r3 ++ wsX3_flag_r4))) ++ wsX30)
def wsX3_clear_r1 : List Cond := [Cond.fieldLink RX3 45 "DotStoresModel" "thrown" "I", Cond.methodLink RX3 94 yX3_isReplica, Cond.instanceMethod yX3_isReplica, Cond.selects RX3 yX3_isReplica yX3_isReplica, Cond.initialized RX3, Cond.code yX3_isReplica cX3_isReplica 2 (some .boolean), Cond.methodLink RX3 79 yX3_in, Cond.static yX3_in, Cond.code yX3_in cX3_in 3 (some .boolean), Cond.methodLink RX3 98 yX3_isKey, Cond.static yX3_isKey, Cond.code yX3_isKey cX3_isKey 1 (some .boolean), Cond.methodLink RX3 101 yX3_hasRoom, Cond.instanceMethod yX3_hasRoom, Cond.selects RX3 yX3_hasRoom yX3_hasRoom, Cond.code yX3_hasRoom cX3_hasRoom 3 (some .boolean), Cond.fieldLink RX3 72 "DotStoresModel" "deltas" "I", Cond.methodLink RX3 91 yX3_greatest, Cond.instanceMethod yX3_greatest, Cond.selects RX3 yX3_greatest yX3_greatest, Cond.code yX3_greatest cX3_greatest 4 (some .int), Cond.fieldLink RX3 7 "DotStoresModel" "seen" "[J", Cond.methodLink RX3 49 yX3_isSet, Cond.static yX3_isSet]
def wsX3_clear_r2 : List Cond := [Cond.code yX3_isSet cX3_isSet 4 (some .boolean), Cond.methodLink RX3 105 yX3_fresh, Cond.instanceMethod yX3_fresh, Cond.selects RX3 yX3_fresh yX3_fresh, Cond.code yX3_fresh cX3_fresh 2 (some .int), Cond.methodLink RX3 75 yX3_empty, Cond.instanceMethod yX3_empty, Cond.selects RX3 yX3_empty yX3_empty, Cond.code yX3_empty cX3_empty 3 none, Cond.fieldLink RX3 13 "DotStoresModel" "live" "[J", Cond.fieldLink RX3 16 "DotStoresModel" "put" "[I", Cond.fieldLink RX3 20 "DotStoresModel" "taken" "[I", Cond.fieldLink RX3 23 "DotStoresModel" "time" "[I", Cond.fieldLink RX3 26 "DotStoresModel" "by" "[I", Cond.fieldLink RX3 29 "DotStoresModel" "isIn" "[Z", Cond.methodLink RX3 109 yX3_takeBack, Cond.instanceMethod yX3_takeBack, Cond.selects RX3 yX3_takeBack yX3_takeBack, Cond.code yX3_takeBack cX3_takeBack 12 (some .long), Cond.fieldLink RX3 33 "DotStoresModel" "dotKey" "[I", Cond.fieldLink RX3 36 "DotStoresModel" "dotPart" "[I", Cond.fieldLink RX3 39 "DotStoresModel" "dotValue" "[J", Cond.methodLink RX3 83 yX3_dot, Cond.static yX3_dot]
def wsX3_clear_r3 : List Cond := [Cond.code yX3_dot cX3_dot 2 (some .int), Cond.methodLink RX3 87 yX3_set, Cond.static yX3_set, Cond.code yX3_set cX3_set 5 none, Cond.methodLink RX3 117 yX3_done, Cond.instanceMethod yX3_done, Cond.selects RX3 yX3_done yX3_done, Cond.code yX3_done cX3_done 3 (some .int), Cond.methodLink RX3 66 yX3_joinTo, Cond.instanceMethod yX3_joinTo, Cond.selects RX3 yX3_joinTo yX3_joinTo, Cond.code yX3_joinTo cX3_joinTo 6 none, Cond.constantLong RX3 57 (-1), Cond.methodLink RX3 59 yX3_isAfter, Cond.instanceMethod yX3_isAfter, Cond.selects RX3 yX3_isAfter yX3_isAfter, Cond.code yX3_isAfter cX3_isAfter 3 (some .boolean), Cond.methodLink RX3 53 yX3_copyTimed, Cond.instanceMethod yX3_copyTimed, Cond.selects RX3 yX3_copyTimed yX3_copyTimed, Cond.code yX3_copyTimed cX3_copyTimed 3 none]
def wsX3_clear : List Cond := .code yX3_clear cX3_clear 4 (some .int) :: ((wsX3_clear_r1 ++ (wsX3_clear_r2 ++ wsX3_clear_r3)) ++ wsX30)
def wsX3_twice_r1 : List Cond := [Cond.fieldLink RX3 45 "DotStoresModel" "thrown" "I", Cond.fieldLink RX3 16 "DotStoresModel" "put" "[I", Cond.fieldLink RX3 20 "DotStoresModel" "taken" "[I", Cond.methodLink RX3 94 yX3_isReplica, Cond.instanceMethod yX3_isReplica, Cond.selects RX3 yX3_isReplica yX3_isReplica, Cond.initialized RX3, Cond.code yX3_isReplica cX3_isReplica 2 (some .boolean), Cond.methodLink RX3 79 yX3_in, Cond.static yX3_in, Cond.code yX3_in cX3_in 3 (some .boolean), Cond.methodLink RX3 120 yX3_isElement, Cond.static yX3_isElement, Cond.code yX3_isElement cX3_isElement 1 (some .boolean), Cond.methodLink RX3 101 yX3_hasRoom, Cond.instanceMethod yX3_hasRoom, Cond.selects RX3 yX3_hasRoom yX3_hasRoom, Cond.code yX3_hasRoom cX3_hasRoom 3 (some .boolean), Cond.fieldLink RX3 72 "DotStoresModel" "deltas" "I", Cond.methodLink RX3 91 yX3_greatest, Cond.instanceMethod yX3_greatest, Cond.selects RX3 yX3_greatest yX3_greatest, Cond.code yX3_greatest cX3_greatest 4 (some .int), Cond.fieldLink RX3 7 "DotStoresModel" "seen" "[J"]
def wsX3_twice_r2 : List Cond := [Cond.methodLink RX3 49 yX3_isSet, Cond.static yX3_isSet, Cond.code yX3_isSet cX3_isSet 4 (some .boolean), Cond.methodLink RX3 105 yX3_fresh, Cond.instanceMethod yX3_fresh, Cond.selects RX3 yX3_fresh yX3_fresh, Cond.code yX3_fresh cX3_fresh 2 (some .int), Cond.methodLink RX3 75 yX3_empty, Cond.instanceMethod yX3_empty, Cond.selects RX3 yX3_empty yX3_empty, Cond.code yX3_empty cX3_empty 3 none, Cond.fieldLink RX3 13 "DotStoresModel" "live" "[J", Cond.fieldLink RX3 23 "DotStoresModel" "time" "[I", Cond.fieldLink RX3 26 "DotStoresModel" "by" "[I", Cond.fieldLink RX3 29 "DotStoresModel" "isIn" "[Z", Cond.methodLink RX3 117 yX3_done, Cond.instanceMethod yX3_done, Cond.selects RX3 yX3_done yX3_done, Cond.code yX3_done cX3_done 3 (some .int), Cond.methodLink RX3 66 yX3_joinTo, Cond.instanceMethod yX3_joinTo, Cond.selects RX3 yX3_joinTo yX3_joinTo, Cond.code yX3_joinTo cX3_joinTo 6 none, Cond.constantLong RX3 57 (-1)]
def wsX3_twice_r3 : List Cond := [Cond.methodLink RX3 59 yX3_isAfter, Cond.instanceMethod yX3_isAfter, Cond.selects RX3 yX3_isAfter yX3_isAfter, Cond.code yX3_isAfter cX3_isAfter 3 (some .boolean), Cond.methodLink RX3 53 yX3_copyTimed, Cond.instanceMethod yX3_copyTimed, Cond.selects RX3 yX3_copyTimed yX3_copyTimed, Cond.code yX3_copyTimed cX3_copyTimed 3 none]
def wsX3_twice : List Cond := .code yX3_twice cX3_twice 5 (some .int) :: ((wsX3_twice_r1 ++ (wsX3_twice_r2 ++ wsX3_twice_r3)) ++ wsX30)
def wsX3_timed_r1 : List Cond := [Cond.constant RX3 131 (1000000), Cond.fieldLink RX3 45 "DotStoresModel" "thrown" "I", Cond.fieldLink RX3 23 "DotStoresModel" "time" "[I", Cond.fieldLink RX3 26 "DotStoresModel" "by" "[I", Cond.fieldLink RX3 29 "DotStoresModel" "isIn" "[Z", Cond.methodLink RX3 94 yX3_isReplica, Cond.instanceMethod yX3_isReplica, Cond.selects RX3 yX3_isReplica yX3_isReplica, Cond.initialized RX3, Cond.code yX3_isReplica cX3_isReplica 2 (some .boolean), Cond.methodLink RX3 79 yX3_in, Cond.static yX3_in, Cond.code yX3_in cX3_in 3 (some .boolean), Cond.methodLink RX3 120 yX3_isElement, Cond.static yX3_isElement, Cond.code yX3_isElement cX3_isElement 1 (some .boolean), Cond.methodLink RX3 101 yX3_hasRoom, Cond.instanceMethod yX3_hasRoom, Cond.selects RX3 yX3_hasRoom yX3_hasRoom, Cond.code yX3_hasRoom cX3_hasRoom 3 (some .boolean), Cond.fieldLink RX3 72 "DotStoresModel" "deltas" "I", Cond.methodLink RX3 91 yX3_greatest, Cond.instanceMethod yX3_greatest, Cond.selects RX3 yX3_greatest yX3_greatest]
def wsX3_timed_r2 : List Cond := [Cond.code yX3_greatest cX3_greatest 4 (some .int), Cond.fieldLink RX3 7 "DotStoresModel" "seen" "[J", Cond.methodLink RX3 49 yX3_isSet, Cond.static yX3_isSet, Cond.code yX3_isSet cX3_isSet 4 (some .boolean), Cond.methodLink RX3 105 yX3_fresh, Cond.instanceMethod yX3_fresh, Cond.selects RX3 yX3_fresh yX3_fresh, Cond.code yX3_fresh cX3_fresh 2 (some .int), Cond.methodLink RX3 75 yX3_empty, Cond.instanceMethod yX3_empty, Cond.selects RX3 yX3_empty yX3_empty, Cond.code yX3_empty cX3_empty 3 none, Cond.fieldLink RX3 13 "DotStoresModel" "live" "[J", Cond.fieldLink RX3 16 "DotStoresModel" "put" "[I", Cond.fieldLink RX3 20 "DotStoresModel" "taken" "[I", Cond.methodLink RX3 117 yX3_done, Cond.instanceMethod yX3_done, Cond.selects RX3 yX3_done yX3_done, Cond.code yX3_done cX3_done 3 (some .int), Cond.methodLink RX3 66 yX3_joinTo, Cond.instanceMethod yX3_joinTo, Cond.selects RX3 yX3_joinTo yX3_joinTo, Cond.code yX3_joinTo cX3_joinTo 6 none]
def wsX3_timed_r3 : List Cond := [Cond.constantLong RX3 57 (-1), Cond.methodLink RX3 59 yX3_isAfter, Cond.instanceMethod yX3_isAfter, Cond.selects RX3 yX3_isAfter yX3_isAfter, Cond.code yX3_isAfter cX3_isAfter 3 (some .boolean), Cond.methodLink RX3 53 yX3_copyTimed, Cond.instanceMethod yX3_copyTimed, Cond.selects RX3 yX3_copyTimed yX3_copyTimed, Cond.code yX3_copyTimed cX3_copyTimed 3 none]
def wsX3_timed : List Cond := .code yX3_timed cX3_timed 7 (some .int) :: ((wsX3_timed_r1 ++ (wsX3_timed_r2 ++ wsX3_timed_r3)) ++ wsX30)
def wsX3_isDelta : List Cond := .code yX3_isDelta cX3_isDelta 2 (some .boolean) :: ([.fieldLink RX3 72 "DotStoresModel" "deltas" "I", .methodLink RX3 79 yX3_in, .static yX3_in, .initialized RX3, .code yX3_in cX3_in 3 (some .boolean)] ++ wsX30)
def wsX3_join_r1 : List Cond := [Cond.methodLink RX3 94 yX3_isReplica, Cond.instanceMethod yX3_isReplica, Cond.selects RX3 yX3_isReplica yX3_isReplica, Cond.initialized RX3, Cond.code yX3_isReplica cX3_isReplica 2 (some .boolean), Cond.methodLink RX3 79 yX3_in, Cond.static yX3_in, Cond.code yX3_in cX3_in 3 (some .boolean), Cond.methodLink RX3 132 yX3_isDelta, Cond.instanceMethod yX3_isDelta, Cond.selects RX3 yX3_isDelta yX3_isDelta, Cond.code yX3_isDelta cX3_isDelta 2 (some .boolean), Cond.fieldLink RX3 72 "DotStoresModel" "deltas" "I", Cond.methodLink RX3 135 yX3_goes, Cond.instanceMethod yX3_goes, Cond.selects RX3 yX3_goes yX3_goes, Cond.code yX3_goes cX3_goes 2 (some .boolean), Cond.fieldLink RX3 45 "DotStoresModel" "thrown" "I", Cond.methodLink RX3 139 yX3_joined, Cond.instanceMethod yX3_joined, Cond.selects RX3 yX3_joined yX3_joined, Cond.code yX3_joined cX3_joined 3 (some .int), Cond.methodLink RX3 63 yX3_copy, Cond.instanceMethod yX3_copy]
def wsX3_join_r2 : List Cond := [Cond.selects RX3 yX3_copy yX3_copy, Cond.code yX3_copy cX3_copy 4 none, Cond.fieldLink RX3 7 "DotStoresModel" "seen" "[J", Cond.fieldLink RX3 13 "DotStoresModel" "live" "[J", Cond.fieldLink RX3 16 "DotStoresModel" "put" "[I", Cond.fieldLink RX3 20 "DotStoresModel" "taken" "[I", Cond.methodLink RX3 53 yX3_copyTimed, Cond.instanceMethod yX3_copyTimed, Cond.selects RX3 yX3_copyTimed yX3_copyTimed, Cond.code yX3_copyTimed cX3_copyTimed 3 none, Cond.fieldLink RX3 23 "DotStoresModel" "time" "[I", Cond.fieldLink RX3 26 "DotStoresModel" "by" "[I", Cond.fieldLink RX3 29 "DotStoresModel" "isIn" "[Z", Cond.methodLink RX3 66 yX3_joinTo, Cond.instanceMethod yX3_joinTo, Cond.selects RX3 yX3_joinTo yX3_joinTo, Cond.code yX3_joinTo cX3_joinTo 6 none, Cond.constantLong RX3 57 (-1), Cond.methodLink RX3 59 yX3_isAfter, Cond.instanceMethod yX3_isAfter, Cond.selects RX3 yX3_isAfter yX3_isAfter, Cond.code yX3_isAfter cX3_isAfter 3 (some .boolean), Cond.methodLink RX3 69 yX3_isSame, Cond.instanceMethod yX3_isSame]
def wsX3_join_r3 : List Cond := [Cond.selects RX3 yX3_isSame yX3_isSame, Cond.code yX3_isSame cX3_isSame 7 (some .boolean)]
def wsX3_join : List Cond := .code yX3_join cX3_join 3 (some .int) :: ((wsX3_join_r1 ++ (wsX3_join_r2 ++ wsX3_join_r3)) ++ wsX30)
def wsX3_merge_r1 : List Cond := [Cond.methodLink RX3 94 yX3_isReplica, Cond.instanceMethod yX3_isReplica, Cond.selects RX3 yX3_isReplica yX3_isReplica, Cond.initialized RX3, Cond.code yX3_isReplica cX3_isReplica 2 (some .boolean), Cond.methodLink RX3 79 yX3_in, Cond.static yX3_in, Cond.code yX3_in cX3_in 3 (some .boolean), Cond.methodLink RX3 135 yX3_goes, Cond.instanceMethod yX3_goes, Cond.selects RX3 yX3_goes yX3_goes, Cond.code yX3_goes cX3_goes 2 (some .boolean), Cond.fieldLink RX3 45 "DotStoresModel" "thrown" "I", Cond.methodLink RX3 139 yX3_joined, Cond.instanceMethod yX3_joined, Cond.selects RX3 yX3_joined yX3_joined, Cond.code yX3_joined cX3_joined 3 (some .int), Cond.methodLink RX3 63 yX3_copy, Cond.instanceMethod yX3_copy, Cond.selects RX3 yX3_copy yX3_copy, Cond.code yX3_copy cX3_copy 4 none, Cond.fieldLink RX3 7 "DotStoresModel" "seen" "[J", Cond.fieldLink RX3 13 "DotStoresModel" "live" "[J", Cond.fieldLink RX3 16 "DotStoresModel" "put" "[I"]
def wsX3_merge_r2 : List Cond := [Cond.fieldLink RX3 20 "DotStoresModel" "taken" "[I", Cond.methodLink RX3 53 yX3_copyTimed, Cond.instanceMethod yX3_copyTimed, Cond.selects RX3 yX3_copyTimed yX3_copyTimed, Cond.code yX3_copyTimed cX3_copyTimed 3 none, Cond.fieldLink RX3 23 "DotStoresModel" "time" "[I", Cond.fieldLink RX3 26 "DotStoresModel" "by" "[I", Cond.fieldLink RX3 29 "DotStoresModel" "isIn" "[Z", Cond.methodLink RX3 66 yX3_joinTo, Cond.instanceMethod yX3_joinTo, Cond.selects RX3 yX3_joinTo yX3_joinTo, Cond.code yX3_joinTo cX3_joinTo 6 none, Cond.constantLong RX3 57 (-1), Cond.methodLink RX3 59 yX3_isAfter, Cond.instanceMethod yX3_isAfter, Cond.selects RX3 yX3_isAfter yX3_isAfter, Cond.code yX3_isAfter cX3_isAfter 3 (some .boolean), Cond.methodLink RX3 69 yX3_isSame, Cond.instanceMethod yX3_isSame, Cond.selects RX3 yX3_isSame yX3_isSame, Cond.code yX3_isSame cX3_isSame 7 (some .boolean)]
def wsX3_merge : List Cond := .code yX3_merge cX3_merge 3 (some .int) :: ((wsX3_merge_r1 ++ wsX3_merge_r2) ++ wsX30)
def wsX3_group_r1 : List Cond := [Cond.fieldLink RX3 72 "DotStoresModel" "deltas" "I", Cond.fieldLink RX3 45 "DotStoresModel" "thrown" "I", Cond.methodLink RX3 132 yX3_isDelta, Cond.instanceMethod yX3_isDelta, Cond.selects RX3 yX3_isDelta yX3_isDelta, Cond.initialized RX3, Cond.code yX3_isDelta cX3_isDelta 2 (some .boolean), Cond.methodLink RX3 79 yX3_in, Cond.static yX3_in, Cond.code yX3_in cX3_in 3 (some .boolean), Cond.methodLink RX3 105 yX3_fresh, Cond.instanceMethod yX3_fresh, Cond.selects RX3 yX3_fresh yX3_fresh, Cond.code yX3_fresh cX3_fresh 2 (some .int), Cond.methodLink RX3 75 yX3_empty, Cond.instanceMethod yX3_empty, Cond.selects RX3 yX3_empty yX3_empty, Cond.code yX3_empty cX3_empty 3 none, Cond.fieldLink RX3 7 "DotStoresModel" "seen" "[J", Cond.fieldLink RX3 13 "DotStoresModel" "live" "[J", Cond.fieldLink RX3 16 "DotStoresModel" "put" "[I", Cond.fieldLink RX3 20 "DotStoresModel" "taken" "[I", Cond.fieldLink RX3 23 "DotStoresModel" "time" "[I", Cond.fieldLink RX3 26 "DotStoresModel" "by" "[I"]
def wsX3_group_r2 : List Cond := [Cond.fieldLink RX3 29 "DotStoresModel" "isIn" "[Z", Cond.methodLink RX3 66 yX3_joinTo, Cond.instanceMethod yX3_joinTo, Cond.selects RX3 yX3_joinTo yX3_joinTo, Cond.code yX3_joinTo cX3_joinTo 6 none, Cond.constantLong RX3 57 (-1), Cond.methodLink RX3 59 yX3_isAfter, Cond.instanceMethod yX3_isAfter, Cond.selects RX3 yX3_isAfter yX3_isAfter, Cond.code yX3_isAfter cX3_isAfter 3 (some .boolean), Cond.methodLink RX3 53 yX3_copyTimed, Cond.instanceMethod yX3_copyTimed, Cond.selects RX3 yX3_copyTimed yX3_copyTimed, Cond.code yX3_copyTimed cX3_copyTimed 3 none]
def wsX3_group : List Cond := .code yX3_group cX3_group 4 (some .int) :: ((wsX3_group_r1 ++ wsX3_group_r2) ++ wsX30)
def wsX3_whole_r1 : List Cond := [Cond.fieldLink RX3 72 "DotStoresModel" "deltas" "I", Cond.fieldLink RX3 45 "DotStoresModel" "thrown" "I", Cond.methodLink RX3 94 yX3_isReplica, Cond.instanceMethod yX3_isReplica, Cond.selects RX3 yX3_isReplica yX3_isReplica, Cond.initialized RX3, Cond.code yX3_isReplica cX3_isReplica 2 (some .boolean), Cond.methodLink RX3 79 yX3_in, Cond.static yX3_in, Cond.code yX3_in cX3_in 3 (some .boolean), Cond.methodLink RX3 63 yX3_copy, Cond.instanceMethod yX3_copy, Cond.selects RX3 yX3_copy yX3_copy, Cond.code yX3_copy cX3_copy 4 none, Cond.fieldLink RX3 7 "DotStoresModel" "seen" "[J", Cond.fieldLink RX3 13 "DotStoresModel" "live" "[J", Cond.fieldLink RX3 16 "DotStoresModel" "put" "[I", Cond.fieldLink RX3 20 "DotStoresModel" "taken" "[I", Cond.methodLink RX3 53 yX3_copyTimed, Cond.instanceMethod yX3_copyTimed, Cond.selects RX3 yX3_copyTimed yX3_copyTimed, Cond.code yX3_copyTimed cX3_copyTimed 3 none, Cond.fieldLink RX3 23 "DotStoresModel" "time" "[I", Cond.fieldLink RX3 26 "DotStoresModel" "by" "[I"]
def wsX3_whole_r2 : List Cond := [Cond.fieldLink RX3 29 "DotStoresModel" "isIn" "[Z"]
def wsX3_whole : List Cond := .code yX3_whole cX3_whole 2 (some .int) :: ((wsX3_whole_r1 ++ wsX3_whole_r2) ++ wsX30)
def wsX3_deltas : List Cond := .code yX3_deltas cX3_deltas 1 (some .int) :: ([.fieldLink RX3 45 "DotStoresModel" "thrown" "I", .fieldLink RX3 72 "DotStoresModel" "deltas" "I"] ++ wsX30)
def wsX3_has_r1 : List Cond := [Cond.fieldLink RX3 13 "DotStoresModel" "live" "[J", Cond.fieldLink RX3 33 "DotStoresModel" "dotKey" "[I", Cond.fieldLink RX3 36 "DotStoresModel" "dotPart" "[I", Cond.methodLink RX3 94 yX3_isReplica, Cond.instanceMethod yX3_isReplica, Cond.selects RX3 yX3_isReplica yX3_isReplica, Cond.initialized RX3, Cond.code yX3_isReplica cX3_isReplica 2 (some .boolean), Cond.methodLink RX3 79 yX3_in, Cond.static yX3_in, Cond.code yX3_in cX3_in 3 (some .boolean), Cond.methodLink RX3 98 yX3_isKey, Cond.static yX3_isKey, Cond.code yX3_isKey cX3_isKey 1 (some .boolean), Cond.methodLink RX3 120 yX3_isElement, Cond.static yX3_isElement, Cond.code yX3_isElement cX3_isElement 1 (some .boolean), Cond.methodLink RX3 135 yX3_goes, Cond.instanceMethod yX3_goes, Cond.selects RX3 yX3_goes yX3_goes, Cond.code yX3_goes cX3_goes 2 (some .boolean), Cond.fieldLink RX3 45 "DotStoresModel" "thrown" "I", Cond.methodLink RX3 83 yX3_dot, Cond.static yX3_dot]
def wsX3_has_r2 : List Cond := [Cond.code yX3_dot cX3_dot 2 (some .int), Cond.methodLink RX3 49 yX3_isSet, Cond.static yX3_isSet, Cond.code yX3_isSet cX3_isSet 4 (some .boolean)]
def wsX3_has : List Cond := .code yX3_has cX3_has 7 (some .int) :: ((wsX3_has_r1 ++ wsX3_has_r2) ++ wsX30)
def wsX3_enter : List Cond := .code yX3_enter cX3_enter 5 none :: ([.fieldLink RX3 142 "DotStoresModel" "many" "I", .fieldLink RX3 42 "DotStoresModel" "sorted" "[J"] ++ wsX30)
def wsX3_lay : List Cond := .code yX3_lay cX3_lay 6 none :: ([.fieldLink RX3 142 "DotStoresModel" "many" "I", .fieldLink RX3 13 "DotStoresModel" "live" "[J", .fieldLink RX3 33 "DotStoresModel" "dotKey" "[I", .fieldLink RX3 39 "DotStoresModel" "dotValue" "[J", .methodLink RX3 83 yX3_dot, .static yX3_dot, .initialized RX3, .code yX3_dot cX3_dot 2 (some .int), .methodLink RX3 49 yX3_isSet, .static yX3_isSet, .code yX3_isSet cX3_isSet 4 (some .boolean), .methodLink RX3 145 yX3_enter, .instanceMethod yX3_enter, .selects RX3 yX3_enter yX3_enter, .code yX3_enter cX3_enter 5 none, .fieldLink RX3 42 "DotStoresModel" "sorted" "[J"] ++ wsX30)
def wsX3_values_r1 : List Cond := [Cond.fieldLink RX3 142 "DotStoresModel" "many" "I", Cond.methodLink RX3 94 yX3_isReplica, Cond.instanceMethod yX3_isReplica, Cond.selects RX3 yX3_isReplica yX3_isReplica, Cond.initialized RX3, Cond.code yX3_isReplica cX3_isReplica 2 (some .boolean), Cond.methodLink RX3 79 yX3_in, Cond.static yX3_in, Cond.code yX3_in cX3_in 3 (some .boolean), Cond.methodLink RX3 98 yX3_isKey, Cond.static yX3_isKey, Cond.code yX3_isKey cX3_isKey 1 (some .boolean), Cond.methodLink RX3 135 yX3_goes, Cond.instanceMethod yX3_goes, Cond.selects RX3 yX3_goes yX3_goes, Cond.code yX3_goes cX3_goes 2 (some .boolean), Cond.fieldLink RX3 45 "DotStoresModel" "thrown" "I", Cond.methodLink RX3 149 yX3_lay, Cond.instanceMethod yX3_lay, Cond.selects RX3 yX3_lay yX3_lay, Cond.code yX3_lay cX3_lay 6 none, Cond.fieldLink RX3 13 "DotStoresModel" "live" "[J", Cond.fieldLink RX3 33 "DotStoresModel" "dotKey" "[I", Cond.fieldLink RX3 39 "DotStoresModel" "dotValue" "[J"]
def wsX3_values_r2 : List Cond := [Cond.methodLink RX3 83 yX3_dot, Cond.static yX3_dot, Cond.code yX3_dot cX3_dot 2 (some .int), Cond.methodLink RX3 49 yX3_isSet, Cond.static yX3_isSet, Cond.code yX3_isSet cX3_isSet 4 (some .boolean), Cond.methodLink RX3 145 yX3_enter, Cond.instanceMethod yX3_enter, Cond.selects RX3 yX3_enter yX3_enter, Cond.code yX3_enter cX3_enter 5 none, Cond.fieldLink RX3 42 "DotStoresModel" "sorted" "[J"]
def wsX3_values : List Cond := .code yX3_values cX3_values 3 (some .int) :: ((wsX3_values_r1 ++ wsX3_values_r2) ++ wsX30)
def wsX3_value_r1 : List Cond := [Cond.fieldLink RX3 142 "DotStoresModel" "many" "I", Cond.fieldLink RX3 42 "DotStoresModel" "sorted" "[J", Cond.methodLink RX3 94 yX3_isReplica, Cond.instanceMethod yX3_isReplica, Cond.selects RX3 yX3_isReplica yX3_isReplica, Cond.initialized RX3, Cond.code yX3_isReplica cX3_isReplica 2 (some .boolean), Cond.methodLink RX3 79 yX3_in, Cond.static yX3_in, Cond.code yX3_in cX3_in 3 (some .boolean), Cond.methodLink RX3 98 yX3_isKey, Cond.static yX3_isKey, Cond.code yX3_isKey cX3_isKey 1 (some .boolean), Cond.methodLink RX3 135 yX3_goes, Cond.instanceMethod yX3_goes, Cond.selects RX3 yX3_goes yX3_goes, Cond.code yX3_goes cX3_goes 2 (some .boolean), Cond.fieldLink RX3 45 "DotStoresModel" "thrown" "I", Cond.methodLink RX3 149 yX3_lay, Cond.instanceMethod yX3_lay, Cond.selects RX3 yX3_lay yX3_lay, Cond.code yX3_lay cX3_lay 6 none, Cond.fieldLink RX3 13 "DotStoresModel" "live" "[J", Cond.fieldLink RX3 33 "DotStoresModel" "dotKey" "[I"]
def wsX3_value_r2 : List Cond := [Cond.fieldLink RX3 39 "DotStoresModel" "dotValue" "[J", Cond.methodLink RX3 83 yX3_dot, Cond.static yX3_dot, Cond.code yX3_dot cX3_dot 2 (some .int), Cond.methodLink RX3 49 yX3_isSet, Cond.static yX3_isSet, Cond.code yX3_isSet cX3_isSet 4 (some .boolean), Cond.methodLink RX3 145 yX3_enter, Cond.instanceMethod yX3_enter, Cond.selects RX3 yX3_enter yX3_enter, Cond.code yX3_enter cX3_enter 5 none]
def wsX3_value : List Cond := .code yX3_value cX3_value 4 (some .long) :: ((wsX3_value_r1 ++ wsX3_value_r2) ++ wsX30)
def wsX3_sum_r1 : List Cond := [Cond.fieldLink RX3 13 "DotStoresModel" "live" "[J", Cond.fieldLink RX3 33 "DotStoresModel" "dotKey" "[I", Cond.fieldLink RX3 39 "DotStoresModel" "dotValue" "[J", Cond.methodLink RX3 94 yX3_isReplica, Cond.instanceMethod yX3_isReplica, Cond.selects RX3 yX3_isReplica yX3_isReplica, Cond.initialized RX3, Cond.code yX3_isReplica cX3_isReplica 2 (some .boolean), Cond.methodLink RX3 79 yX3_in, Cond.static yX3_in, Cond.code yX3_in cX3_in 3 (some .boolean), Cond.methodLink RX3 98 yX3_isKey, Cond.static yX3_isKey, Cond.code yX3_isKey cX3_isKey 1 (some .boolean), Cond.methodLink RX3 135 yX3_goes, Cond.instanceMethod yX3_goes, Cond.selects RX3 yX3_goes yX3_goes, Cond.code yX3_goes cX3_goes 2 (some .boolean), Cond.fieldLink RX3 45 "DotStoresModel" "thrown" "I", Cond.methodLink RX3 83 yX3_dot, Cond.static yX3_dot, Cond.code yX3_dot cX3_dot 2 (some .int), Cond.methodLink RX3 49 yX3_isSet, Cond.static yX3_isSet]
def wsX3_sum_r2 : List Cond := [Cond.code yX3_isSet cX3_isSet 4 (some .boolean)]
def wsX3_sum : List Cond := .code yX3_sum cX3_sum 8 (some .long) :: ((wsX3_sum_r1 ++ wsX3_sum_r2) ++ wsX30)
def wsX3_keys : List Cond := .code yX3_keys cX3_keys 5 (some .int) :: ([.fieldLink RX3 13 "DotStoresModel" "live" "[J", .fieldLink RX3 33 "DotStoresModel" "dotKey" "[I", .methodLink RX3 94 yX3_isReplica, .instanceMethod yX3_isReplica, .selects RX3 yX3_isReplica yX3_isReplica, .initialized RX3, .code yX3_isReplica cX3_isReplica 2 (some .boolean), .methodLink RX3 79 yX3_in, .static yX3_in, .code yX3_in cX3_in 3 (some .boolean), .methodLink RX3 135 yX3_goes, .instanceMethod yX3_goes, .selects RX3 yX3_goes yX3_goes, .code yX3_goes cX3_goes 2 (some .boolean), .fieldLink RX3 45 "DotStoresModel" "thrown" "I", .methodLink RX3 49 yX3_isSet, .static yX3_isSet, .code yX3_isSet cX3_isSet 4 (some .boolean), .methodLink RX3 83 yX3_dot, .static yX3_dot, .code yX3_dot cX3_dot 2 (some .int)] ++ wsX30)
def wsX3_inTwice : List Cond := .code yX3_inTwice cX3_inTwice 3 (some .int) :: ([.fieldLink RX3 16 "DotStoresModel" "put" "[I", .fieldLink RX3 20 "DotStoresModel" "taken" "[I", .methodLink RX3 94 yX3_isReplica, .instanceMethod yX3_isReplica, .selects RX3 yX3_isReplica yX3_isReplica, .initialized RX3, .code yX3_isReplica cX3_isReplica 2 (some .boolean), .methodLink RX3 79 yX3_in, .static yX3_in, .code yX3_in cX3_in 3 (some .boolean), .methodLink RX3 120 yX3_isElement, .static yX3_isElement, .code yX3_isElement cX3_isElement 1 (some .boolean), .methodLink RX3 135 yX3_goes, .instanceMethod yX3_goes, .selects RX3 yX3_goes yX3_goes, .code yX3_goes cX3_goes 2 (some .boolean), .fieldLink RX3 45 "DotStoresModel" "thrown" "I"] ++ wsX30)
def wsX3_inTimed : List Cond := .code yX3_inTimed cX3_inTimed 5 (some .int) :: ([.fieldLink RX3 29 "DotStoresModel" "isIn" "[Z", .fieldLink RX3 23 "DotStoresModel" "time" "[I", .fieldLink RX3 26 "DotStoresModel" "by" "[I", .methodLink RX3 94 yX3_isReplica, .instanceMethod yX3_isReplica, .selects RX3 yX3_isReplica yX3_isReplica, .initialized RX3, .code yX3_isReplica cX3_isReplica 2 (some .boolean), .methodLink RX3 79 yX3_in, .static yX3_in, .code yX3_in cX3_in 3 (some .boolean), .methodLink RX3 120 yX3_isElement, .static yX3_isElement, .code yX3_isElement cX3_isElement 1 (some .boolean), .methodLink RX3 135 yX3_goes, .instanceMethod yX3_goes, .selects RX3 yX3_goes yX3_goes, .code yX3_goes cX3_goes 2 (some .boolean), .fieldLink RX3 45 "DotStoresModel" "thrown" "I"] ++ wsX30)
def wsX3_countOf : List Cond := .code yX3_countOf cX3_countOf 6 (some .int) :: ([.methodLink RX3 49 yX3_isSet, .static yX3_isSet, .initialized RX3, .code yX3_isSet cX3_isSet 4 (some .boolean)])
def wsX3_seen_r1 : List Cond := [Cond.fieldLink RX3 7 "DotStoresModel" "seen" "[J", Cond.methodLink RX3 94 yX3_isReplica, Cond.instanceMethod yX3_isReplica, Cond.selects RX3 yX3_isReplica yX3_isReplica, Cond.initialized RX3, Cond.code yX3_isReplica cX3_isReplica 2 (some .boolean), Cond.methodLink RX3 79 yX3_in, Cond.static yX3_in, Cond.code yX3_in cX3_in 3 (some .boolean), Cond.methodLink RX3 135 yX3_goes, Cond.instanceMethod yX3_goes, Cond.selects RX3 yX3_goes yX3_goes, Cond.code yX3_goes cX3_goes 2 (some .boolean), Cond.fieldLink RX3 45 "DotStoresModel" "thrown" "I", Cond.methodLink RX3 91 yX3_greatest, Cond.instanceMethod yX3_greatest, Cond.selects RX3 yX3_greatest yX3_greatest, Cond.code yX3_greatest cX3_greatest 4 (some .int), Cond.methodLink RX3 49 yX3_isSet, Cond.static yX3_isSet, Cond.code yX3_isSet cX3_isSet 4 (some .boolean), Cond.methodLink RX3 152 yX3_countOf, Cond.instanceMethod yX3_countOf, Cond.selects RX3 yX3_countOf yX3_countOf]
def wsX3_seen_r2 : List Cond := [Cond.code yX3_countOf cX3_countOf 6 (some .int)]
def wsX3_seen : List Cond := .code yX3_seen cX3_seen 5 (some .int) :: ((wsX3_seen_r1 ++ wsX3_seen_r2) ++ wsX30)
def wsX3_size_r1 : List Cond := [Cond.fieldLink RX3 13 "DotStoresModel" "live" "[J", Cond.fieldLink RX3 7 "DotStoresModel" "seen" "[J", Cond.methodLink RX3 94 yX3_isReplica, Cond.instanceMethod yX3_isReplica, Cond.selects RX3 yX3_isReplica yX3_isReplica, Cond.initialized RX3, Cond.code yX3_isReplica cX3_isReplica 2 (some .boolean), Cond.methodLink RX3 79 yX3_in, Cond.static yX3_in, Cond.code yX3_in cX3_in 3 (some .boolean), Cond.methodLink RX3 132 yX3_isDelta, Cond.instanceMethod yX3_isDelta, Cond.selects RX3 yX3_isDelta yX3_isDelta, Cond.code yX3_isDelta cX3_isDelta 2 (some .boolean), Cond.fieldLink RX3 72 "DotStoresModel" "deltas" "I", Cond.methodLink RX3 135 yX3_goes, Cond.instanceMethod yX3_goes, Cond.selects RX3 yX3_goes yX3_goes, Cond.code yX3_goes cX3_goes 2 (some .boolean), Cond.fieldLink RX3 45 "DotStoresModel" "thrown" "I", Cond.methodLink RX3 152 yX3_countOf, Cond.instanceMethod yX3_countOf, Cond.selects RX3 yX3_countOf yX3_countOf, Cond.code yX3_countOf cX3_countOf 6 (some .int)]
def wsX3_size_r2 : List Cond := [Cond.methodLink RX3 49 yX3_isSet, Cond.static yX3_isSet, Cond.code yX3_isSet cX3_isSet 4 (some .boolean)]
def wsX3_size : List Cond := .code yX3_size cX3_size 8 (some .int) :: ((wsX3_size_r1 ++ wsX3_size_r2) ++ wsX30)
def wsX3_same : List Cond := .code yX3_same cX3_same 3 (some .int) :: ([.methodLink RX3 94 yX3_isReplica, .instanceMethod yX3_isReplica, .selects RX3 yX3_isReplica yX3_isReplica, .initialized RX3, .code yX3_isReplica cX3_isReplica 2 (some .boolean), .methodLink RX3 79 yX3_in, .static yX3_in, .code yX3_in cX3_in 3 (some .boolean), .methodLink RX3 135 yX3_goes, .instanceMethod yX3_goes, .selects RX3 yX3_goes yX3_goes, .code yX3_goes cX3_goes 2 (some .boolean), .fieldLink RX3 45 "DotStoresModel" "thrown" "I", .methodLink RX3 69 yX3_isSame, .instanceMethod yX3_isSame, .selects RX3 yX3_isSame yX3_isSame, .code yX3_isSame cX3_isSame 7 (some .boolean), .fieldLink RX3 16 "DotStoresModel" "put" "[I", .fieldLink RX3 20 "DotStoresModel" "taken" "[I", .fieldLink RX3 7 "DotStoresModel" "seen" "[J", .fieldLink RX3 13 "DotStoresModel" "live" "[J", .fieldLink RX3 23 "DotStoresModel" "time" "[I", .fieldLink RX3 26 "DotStoresModel" "by" "[I", .fieldLink RX3 29 "DotStoresModel" "isIn" "[Z"] ++ wsX30)
def wsX3_below_r1 : List Cond := [Cond.methodLink RX3 94 yX3_isReplica, Cond.instanceMethod yX3_isReplica, Cond.selects RX3 yX3_isReplica yX3_isReplica, Cond.initialized RX3, Cond.code yX3_isReplica cX3_isReplica 2 (some .boolean), Cond.methodLink RX3 79 yX3_in, Cond.static yX3_in, Cond.code yX3_in cX3_in 3 (some .boolean), Cond.methodLink RX3 135 yX3_goes, Cond.instanceMethod yX3_goes, Cond.selects RX3 yX3_goes yX3_goes, Cond.code yX3_goes cX3_goes 2 (some .boolean), Cond.fieldLink RX3 45 "DotStoresModel" "thrown" "I", Cond.methodLink RX3 63 yX3_copy, Cond.instanceMethod yX3_copy, Cond.selects RX3 yX3_copy yX3_copy, Cond.code yX3_copy cX3_copy 4 none, Cond.fieldLink RX3 7 "DotStoresModel" "seen" "[J", Cond.fieldLink RX3 13 "DotStoresModel" "live" "[J", Cond.fieldLink RX3 16 "DotStoresModel" "put" "[I", Cond.fieldLink RX3 20 "DotStoresModel" "taken" "[I", Cond.methodLink RX3 53 yX3_copyTimed, Cond.instanceMethod yX3_copyTimed, Cond.selects RX3 yX3_copyTimed yX3_copyTimed]
def wsX3_below_r2 : List Cond := [Cond.code yX3_copyTimed cX3_copyTimed 3 none, Cond.fieldLink RX3 23 "DotStoresModel" "time" "[I", Cond.fieldLink RX3 26 "DotStoresModel" "by" "[I", Cond.fieldLink RX3 29 "DotStoresModel" "isIn" "[Z", Cond.methodLink RX3 66 yX3_joinTo, Cond.instanceMethod yX3_joinTo, Cond.selects RX3 yX3_joinTo yX3_joinTo, Cond.code yX3_joinTo cX3_joinTo 6 none, Cond.constantLong RX3 57 (-1), Cond.methodLink RX3 59 yX3_isAfter, Cond.instanceMethod yX3_isAfter, Cond.selects RX3 yX3_isAfter yX3_isAfter, Cond.code yX3_isAfter cX3_isAfter 3 (some .boolean), Cond.methodLink RX3 69 yX3_isSame, Cond.instanceMethod yX3_isSame, Cond.selects RX3 yX3_isSame yX3_isSame, Cond.code yX3_isSame cX3_isSame 7 (some .boolean)]
def wsX3_below : List Cond := .code yX3_below cX3_below 3 (some .int) :: ((wsX3_below_r1 ++ wsX3_below_r2) ++ wsX30)
theorem dX0_init_0 : decode cX0_init 0 = .ok (.aload_n 0, 1) := by decide +kernel
theorem dX0_init_1 : decode cX0_init 1 = .ok (.invokespecial 3, 3) := by decide +kernel
theorem dX0_init_4 : decode cX0_init 4 = .ok (.aload_n 0, 1) := by decide +kernel
theorem dX0_init_5 : decode cX0_init 5 = .ok (.sipush 250, 3) := by decide +kernel
theorem dX0_init_8 : decode cX0_init 8 = .ok (.newarray .int, 2) := by decide +kernel
theorem dX0_init_10 : decode cX0_init 10 = .ok (.putfield 9, 3) := by decide +kernel
theorem dX0_init_13 : decode cX0_init 13 = .ok (.aload_n 0, 1) := by decide +kernel
theorem dX0_init_14 : decode cX0_init 14 = .ok (.sipush 250, 3) := by decide +kernel
theorem dX0_init_17 : decode cX0_init 17 = .ok (.newarray .int, 2) := by decide +kernel
theorem dX0_init_19 : decode cX0_init 19 = .ok (.putfield 15, 3) := by decide +kernel
theorem dX0_init_22 : decode cX0_init 22 = .ok (.aload_n 0, 1) := by decide +kernel
theorem dX0_init_23 : decode cX0_init 23 = .ok (.sipush 250, 3) := by decide +kernel
theorem dX0_init_26 : decode cX0_init 26 = .ok (.newarray .int, 2) := by decide +kernel
theorem dX0_init_28 : decode cX0_init 28 = .ok (.putfield 18, 3) := by decide +kernel
theorem dX0_init_31 : decode cX0_init 31 = .ok (.aload_n 0, 1) := by decide +kernel
theorem dX0_init_32 : decode cX0_init 32 = .ok (.sipush 250, 3) := by decide +kernel
theorem dX0_init_35 : decode cX0_init 35 = .ok (.newarray .int, 2) := by decide +kernel
theorem dX0_init_37 : decode cX0_init 37 = .ok (.putfield 21, 3) := by decide +kernel
theorem dX0_init_40 : decode cX0_init 40 = .ok (.aload_n 0, 1) := by decide +kernel
theorem dX0_init_41 : decode cX0_init 41 = .ok (.sipush 250, 3) := by decide +kernel
theorem dX0_init_44 : decode cX0_init 44 = .ok (.newarray .long, 2) := by decide +kernel
theorem dX0_init_46 : decode cX0_init 46 = .ok (.putfield 24, 3) := by decide +kernel
theorem dX0_init_49 : decode cX0_init 49 = .ok (.aload_n 0, 1) := by decide +kernel
theorem dX0_init_50 : decode cX0_init 50 = .ok (.bipush 6, 2) := by decide +kernel
theorem dX0_init_52 : decode cX0_init 52 = .ok (.newarray .int, 2) := by decide +kernel
theorem dX0_init_54 : decode cX0_init 54 = .ok (.putfield 28, 3) := by decide +kernel
theorem dX0_init_57 : decode cX0_init 57 = .ok (.aload_n 0, 1) := by decide +kernel
theorem dX0_init_58 : decode cX0_init 58 = .ok (.iconst 0, 1) := by decide +kernel
theorem dX0_init_59 : decode cX0_init 59 = .ok (.putfield 31, 3) := by decide +kernel
theorem dX0_init_62 : decode cX0_init 62 = .ok (.return_, 1) := by decide +kernel
theorem dX0_canMake_0 : decode cX0_canMake 0 = .ok (.aload_n 0, 1) := by decide +kernel
theorem dX0_canMake_1 : decode cX0_canMake 1 = .ok (.getfield 31, 3) := by decide +kernel
theorem dX0_canMake_4 : decode cX0_canMake 4 = .ok (.sipush 250, 3) := by decide +kernel
theorem dX0_canMake_7 : decode cX0_canMake 7 = .ok (.if_icmp .ge 18, 3) := by decide +kernel
theorem dX0_canMake_10 : decode cX0_canMake 10 = .ok (.aload_n 0, 1) := by decide +kernel
theorem dX0_canMake_11 : decode cX0_canMake 11 = .ok (.getfield 28, 3) := by decide +kernel
theorem dX0_canMake_14 : decode cX0_canMake 14 = .ok (.iload_n 1, 1) := by decide +kernel
theorem dX0_canMake_15 : decode cX0_canMake 15 = .ok (.iaload, 1) := by decide +kernel
theorem dX0_canMake_16 : decode cX0_canMake 16 = .ok (.bipush 100, 2) := by decide +kernel
theorem dX0_canMake_18 : decode cX0_canMake 18 = .ok (.if_icmp .ge 7, 3) := by decide +kernel
theorem dX0_canMake_21 : decode cX0_canMake 21 = .ok (.iconst 1, 1) := by decide +kernel
theorem dX0_canMake_22 : decode cX0_canMake 22 = .ok (.goto 4, 3) := by decide +kernel
theorem dX0_canMake_25 : decode cX0_canMake 25 = .ok (.iconst 0, 1) := by decide +kernel
theorem dX0_canMake_26 : decode cX0_canMake 26 = .ok (.ireturn, 1) := by decide +kernel
theorem dX0_make_0 : decode cX0_make 0 = .ok (.aload_n 0, 1) := by decide +kernel
theorem dX0_make_1 : decode cX0_make 1 = .ok (.getfield 31, 3) := by decide +kernel
theorem dX0_make_4 : decode cX0_make 4 = .ok (.istore 6, 2) := by decide +kernel
theorem dX0_make_6 : decode cX0_make 6 = .ok (.aload_n 0, 1) := by decide +kernel
theorem dX0_make_7 : decode cX0_make 7 = .ok (.getfield 28, 3) := by decide +kernel
theorem dX0_make_10 : decode cX0_make 10 = .ok (.iload_n 1, 1) := by decide +kernel
theorem dX0_make_11 : decode cX0_make 11 = .ok (.dup2, 1) := by decide +kernel
theorem dX0_make_12 : decode cX0_make 12 = .ok (.iaload, 1) := by decide +kernel
theorem dX0_make_13 : decode cX0_make 13 = .ok (.iconst 1, 1) := by decide +kernel
theorem dX0_make_14 : decode cX0_make 14 = .ok (.iadd, 1) := by decide +kernel
theorem dX0_make_15 : decode cX0_make 15 = .ok (.iastore, 1) := by decide +kernel
theorem dX0_make_16 : decode cX0_make 16 = .ok (.aload_n 0, 1) := by decide +kernel
theorem dX0_make_17 : decode cX0_make 17 = .ok (.getfield 9, 3) := by decide +kernel
theorem dX0_make_20 : decode cX0_make 20 = .ok (.iload 6, 2) := by decide +kernel
theorem dX0_make_22 : decode cX0_make 22 = .ok (.iload_n 1, 1) := by decide +kernel
theorem dX0_make_23 : decode cX0_make 23 = .ok (.iastore, 1) := by decide +kernel
theorem dX0_make_24 : decode cX0_make 24 = .ok (.aload_n 0, 1) := by decide +kernel
theorem dX0_make_25 : decode cX0_make 25 = .ok (.getfield 15, 3) := by decide +kernel
theorem dX0_make_28 : decode cX0_make 28 = .ok (.iload 6, 2) := by decide +kernel
theorem dX0_make_30 : decode cX0_make 30 = .ok (.aload_n 0, 1) := by decide +kernel
theorem dX0_make_31 : decode cX0_make 31 = .ok (.getfield 28, 3) := by decide +kernel
theorem dX0_make_34 : decode cX0_make 34 = .ok (.iload_n 1, 1) := by decide +kernel
theorem dX0_make_35 : decode cX0_make 35 = .ok (.iaload, 1) := by decide +kernel
theorem dX0_make_36 : decode cX0_make 36 = .ok (.iastore, 1) := by decide +kernel
theorem dX0_make_37 : decode cX0_make 37 = .ok (.aload_n 0, 1) := by decide +kernel
theorem dX0_make_38 : decode cX0_make 38 = .ok (.getfield 18, 3) := by decide +kernel
theorem dX0_make_41 : decode cX0_make 41 = .ok (.iload 6, 2) := by decide +kernel
theorem dX0_make_43 : decode cX0_make 43 = .ok (.iload_n 2, 1) := by decide +kernel
theorem dX0_make_44 : decode cX0_make 44 = .ok (.iastore, 1) := by decide +kernel
theorem dX0_make_45 : decode cX0_make 45 = .ok (.aload_n 0, 1) := by decide +kernel
theorem dX0_make_46 : decode cX0_make 46 = .ok (.getfield 21, 3) := by decide +kernel
theorem dX0_make_49 : decode cX0_make 49 = .ok (.iload 6, 2) := by decide +kernel
theorem dX0_make_51 : decode cX0_make 51 = .ok (.iload_n 3, 1) := by decide +kernel
theorem dX0_make_52 : decode cX0_make 52 = .ok (.iastore, 1) := by decide +kernel
theorem dX0_make_53 : decode cX0_make 53 = .ok (.aload_n 0, 1) := by decide +kernel
theorem dX0_make_54 : decode cX0_make 54 = .ok (.getfield 24, 3) := by decide +kernel
theorem dX0_make_57 : decode cX0_make 57 = .ok (.iload 6, 2) := by decide +kernel
theorem dX0_make_59 : decode cX0_make 59 = .ok (.lload 4, 2) := by decide +kernel
theorem dX0_make_61 : decode cX0_make 61 = .ok (.lastore, 1) := by decide +kernel
theorem dX0_make_62 : decode cX0_make 62 = .ok (.aload_n 0, 1) := by decide +kernel
theorem dX0_make_63 : decode cX0_make 63 = .ok (.dup, 1) := by decide +kernel
theorem dX0_make_64 : decode cX0_make 64 = .ok (.getfield 31, 3) := by decide +kernel
theorem dX0_make_67 : decode cX0_make 67 = .ok (.iconst 1, 1) := by decide +kernel
theorem dX0_make_68 : decode cX0_make 68 = .ok (.iadd, 1) := by decide +kernel
theorem dX0_make_69 : decode cX0_make 69 = .ok (.putfield 31, 3) := by decide +kernel
theorem dX0_make_72 : decode cX0_make 72 = .ok (.iload 6, 2) := by decide +kernel
theorem dX0_make_74 : decode cX0_make 74 = .ok (.ireturn, 1) := by decide +kernel
theorem dX0_fits_0 : decode cX0_fits 0 = .ok (.aload_n 0, 1) := by decide +kernel
theorem dX0_fits_1 : decode cX0_fits 1 = .ok (.getfield 18, 3) := by decide +kernel
theorem dX0_fits_4 : decode cX0_fits 4 = .ok (.iload_n 1, 1) := by decide +kernel
theorem dX0_fits_5 : decode cX0_fits 5 = .ok (.iaload, 1) := by decide +kernel
theorem dX0_fits_6 : decode cX0_fits 6 = .ok (.iload_n 2, 1) := by decide +kernel
theorem dX0_fits_7 : decode cX0_fits 7 = .ok (.if_icmp .ne 39, 3) := by decide +kernel
theorem dX0_fits_10 : decode cX0_fits 10 = .ok (.iload_n 3, 1) := by decide +kernel
theorem dX0_fits_11 : decode cX0_fits 11 = .ok (.iconst (-1), 1) := by decide +kernel
theorem dX0_fits_12 : decode cX0_fits 12 = .ok (.if_icmp .eq 13, 3) := by decide +kernel
theorem dX0_fits_15 : decode cX0_fits 15 = .ok (.aload_n 0, 1) := by decide +kernel
theorem dX0_fits_16 : decode cX0_fits 16 = .ok (.getfield 21, 3) := by decide +kernel
theorem dX0_fits_19 : decode cX0_fits 19 = .ok (.iload_n 1, 1) := by decide +kernel
theorem dX0_fits_20 : decode cX0_fits 20 = .ok (.iaload, 1) := by decide +kernel
theorem dX0_fits_21 : decode cX0_fits 21 = .ok (.iload_n 3, 1) := by decide +kernel
theorem dX0_fits_22 : decode cX0_fits 22 = .ok (.if_icmp .ne 24, 3) := by decide +kernel
theorem dX0_fits_25 : decode cX0_fits 25 = .ok (.iload 4, 2) := by decide +kernel
theorem dX0_fits_27 : decode cX0_fits 27 = .ok (.iconst (-1), 1) := by decide +kernel
theorem dX0_fits_28 : decode cX0_fits 28 = .ok (.if_icmp .eq 14, 3) := by decide +kernel
theorem dX0_fits_31 : decode cX0_fits 31 = .ok (.aload_n 0, 1) := by decide +kernel
theorem dX0_fits_32 : decode cX0_fits 32 = .ok (.getfield 9, 3) := by decide +kernel
theorem dX0_fits_35 : decode cX0_fits 35 = .ok (.iload_n 1, 1) := by decide +kernel
theorem dX0_fits_36 : decode cX0_fits 36 = .ok (.iaload, 1) := by decide +kernel
theorem dX0_fits_37 : decode cX0_fits 37 = .ok (.iload 4, 2) := by decide +kernel
theorem dX0_fits_39 : decode cX0_fits 39 = .ok (.if_icmp .ne 7, 3) := by decide +kernel
theorem dX0_fits_42 : decode cX0_fits 42 = .ok (.iconst 1, 1) := by decide +kernel
theorem dX0_fits_43 : decode cX0_fits 43 = .ok (.goto 4, 3) := by decide +kernel
theorem dX0_fits_46 : decode cX0_fits 46 = .ok (.iconst 0, 1) := by decide +kernel
theorem dX0_fits_47 : decode cX0_fits 47 = .ok (.ireturn, 1) := by decide +kernel
theorem dX1_init_0 : decode cX1_init 0 = .ok (.aload_n 0, 1) := by decide +kernel
theorem dX1_init_1 : decode cX1_init 1 = .ok (.invokespecial 3, 3) := by decide +kernel
theorem dX1_init_4 : decode cX1_init 4 = .ok (.aload_n 0, 1) := by decide +kernel
theorem dX1_init_5 : decode cX1_init 5 = .ok (.iconst 4, 1) := by decide +kernel
theorem dX1_init_6 : decode cX1_init 6 = .ok (.newarray .long, 2) := by decide +kernel
theorem dX1_init_8 : decode cX1_init 8 = .ok (.putfield 9, 3) := by decide +kernel
theorem dX1_init_11 : decode cX1_init 11 = .ok (.aload_n 0, 1) := by decide +kernel
theorem dX1_init_12 : decode cX1_init 12 = .ok (.iconst 4, 1) := by decide +kernel
theorem dX1_init_13 : decode cX1_init 13 = .ok (.newarray .long, 2) := by decide +kernel
theorem dX1_init_15 : decode cX1_init 15 = .ok (.putfield 15, 3) := by decide +kernel
theorem dX1_init_18 : decode cX1_init 18 = .ok (.aload_n 0, 1) := by decide +kernel
theorem dX1_init_19 : decode cX1_init 19 = .ok (.bipush 32, 2) := by decide +kernel
theorem dX1_init_21 : decode cX1_init 21 = .ok (.newarray .int, 2) := by decide +kernel
theorem dX1_init_23 : decode cX1_init 23 = .ok (.putfield 18, 3) := by decide +kernel
theorem dX1_init_26 : decode cX1_init 26 = .ok (.aload_n 0, 1) := by decide +kernel
theorem dX1_init_27 : decode cX1_init 27 = .ok (.iconst 0, 1) := by decide +kernel
theorem dX1_init_28 : decode cX1_init 28 = .ok (.putfield 22, 3) := by decide +kernel
theorem dX1_init_31 : decode cX1_init 31 = .ok (.aload_n 0, 1) := by decide +kernel
theorem dX1_init_32 : decode cX1_init 32 = .ok (.iconst 0, 1) := by decide +kernel
theorem dX1_init_33 : decode cX1_init 33 = .ok (.putfield 26, 3) := by decide +kernel
theorem dX1_init_36 : decode cX1_init 36 = .ok (.return_, 1) := by decide +kernel
theorem dX1_isSeen_0 : decode cX1_isSeen 0 = .ok (.aload_n 0, 1) := by decide +kernel
theorem dX1_isSeen_1 : decode cX1_isSeen 1 = .ok (.getfield 9, 3) := by decide +kernel
theorem dX1_isSeen_4 : decode cX1_isSeen 4 = .ok (.iload_n 1, 1) := by decide +kernel
theorem dX1_isSeen_5 : decode cX1_isSeen 5 = .ok (.bipush 64, 2) := by decide +kernel
theorem dX1_isSeen_7 : decode cX1_isSeen 7 = .ok (.idiv, 1) := by decide +kernel
theorem dX1_isSeen_8 : decode cX1_isSeen 8 = .ok (.laload, 1) := by decide +kernel
theorem dX1_isSeen_9 : decode cX1_isSeen 9 = .ok (.iload_n 1, 1) := by decide +kernel
theorem dX1_isSeen_10 : decode cX1_isSeen 10 = .ok (.bipush 64, 2) := by decide +kernel
theorem dX1_isSeen_12 : decode cX1_isSeen 12 = .ok (.irem, 1) := by decide +kernel
theorem dX1_isSeen_13 : decode cX1_isSeen 13 = .ok (.lushr, 1) := by decide +kernel
theorem dX1_isSeen_14 : decode cX1_isSeen 14 = .ok (.lconst 1, 1) := by decide +kernel
theorem dX1_isSeen_15 : decode cX1_isSeen 15 = .ok (.land, 1) := by decide +kernel
theorem dX1_isSeen_16 : decode cX1_isSeen 16 = .ok (.lconst 0, 1) := by decide +kernel
theorem dX1_isSeen_17 : decode cX1_isSeen 17 = .ok (.lcmp, 1) := by decide +kernel
theorem dX1_isSeen_18 : decode cX1_isSeen 18 = .ok (.ifCond .eq 7, 3) := by decide +kernel
theorem dX1_isSeen_21 : decode cX1_isSeen 21 = .ok (.iconst 1, 1) := by decide +kernel
theorem dX1_isSeen_22 : decode cX1_isSeen 22 = .ok (.goto 4, 3) := by decide +kernel
theorem dX1_isSeen_25 : decode cX1_isSeen 25 = .ok (.iconst 0, 1) := by decide +kernel
theorem dX1_isSeen_26 : decode cX1_isSeen 26 = .ok (.ireturn, 1) := by decide +kernel
theorem dX1_isLive_0 : decode cX1_isLive 0 = .ok (.aload_n 0, 1) := by decide +kernel
theorem dX1_isLive_1 : decode cX1_isLive 1 = .ok (.getfield 15, 3) := by decide +kernel
theorem dX1_isLive_4 : decode cX1_isLive 4 = .ok (.iload_n 1, 1) := by decide +kernel
theorem dX1_isLive_5 : decode cX1_isLive 5 = .ok (.bipush 64, 2) := by decide +kernel
theorem dX1_isLive_7 : decode cX1_isLive 7 = .ok (.idiv, 1) := by decide +kernel
theorem dX1_isLive_8 : decode cX1_isLive 8 = .ok (.laload, 1) := by decide +kernel
theorem dX1_isLive_9 : decode cX1_isLive 9 = .ok (.iload_n 1, 1) := by decide +kernel
theorem dX1_isLive_10 : decode cX1_isLive 10 = .ok (.bipush 64, 2) := by decide +kernel
theorem dX1_isLive_12 : decode cX1_isLive 12 = .ok (.irem, 1) := by decide +kernel
theorem dX1_isLive_13 : decode cX1_isLive 13 = .ok (.lushr, 1) := by decide +kernel
theorem dX1_isLive_14 : decode cX1_isLive 14 = .ok (.lconst 1, 1) := by decide +kernel
theorem dX1_isLive_15 : decode cX1_isLive 15 = .ok (.land, 1) := by decide +kernel
theorem dX1_isLive_16 : decode cX1_isLive 16 = .ok (.lconst 0, 1) := by decide +kernel
theorem dX1_isLive_17 : decode cX1_isLive 17 = .ok (.lcmp, 1) := by decide +kernel
theorem dX1_isLive_18 : decode cX1_isLive 18 = .ok (.ifCond .eq 7, 3) := by decide +kernel
theorem dX1_isLive_21 : decode cX1_isLive 21 = .ok (.iconst 1, 1) := by decide +kernel
theorem dX1_isLive_22 : decode cX1_isLive 22 = .ok (.goto 4, 3) := by decide +kernel
theorem dX1_isLive_25 : decode cX1_isLive 25 = .ok (.iconst 0, 1) := by decide +kernel
theorem dX1_isLive_26 : decode cX1_isLive 26 = .ok (.ireturn, 1) := by decide +kernel
theorem dX1_see_0 : decode cX1_see 0 = .ok (.aload_n 0, 1) := by decide +kernel
theorem dX1_see_1 : decode cX1_see 1 = .ok (.getfield 9, 3) := by decide +kernel
theorem dX1_see_4 : decode cX1_see 4 = .ok (.iload_n 1, 1) := by decide +kernel
theorem dX1_see_5 : decode cX1_see 5 = .ok (.bipush 64, 2) := by decide +kernel
theorem dX1_see_7 : decode cX1_see 7 = .ok (.idiv, 1) := by decide +kernel
theorem dX1_see_8 : decode cX1_see 8 = .ok (.dup2, 1) := by decide +kernel
theorem dX1_see_9 : decode cX1_see 9 = .ok (.laload, 1) := by decide +kernel
theorem dX1_see_10 : decode cX1_see 10 = .ok (.lconst 1, 1) := by decide +kernel
theorem dX1_see_11 : decode cX1_see 11 = .ok (.iload_n 1, 1) := by decide +kernel
theorem dX1_see_12 : decode cX1_see 12 = .ok (.bipush 64, 2) := by decide +kernel
theorem dX1_see_14 : decode cX1_see 14 = .ok (.irem, 1) := by decide +kernel
theorem dX1_see_15 : decode cX1_see 15 = .ok (.lshl, 1) := by decide +kernel
theorem dX1_see_16 : decode cX1_see 16 = .ok (.lor, 1) := by decide +kernel
theorem dX1_see_17 : decode cX1_see 17 = .ok (.lastore, 1) := by decide +kernel
theorem dX1_see_18 : decode cX1_see 18 = .ok (.return_, 1) := by decide +kernel
set_option maxRecDepth 20000 in
theorem ggX1_enliven_X1_see : GoodIn wsX1_enliven wsX1_see := goodIn_r _ [6, 7, 8, 9, 10, 11, 12] (by decide +kernel) (by decide +kernel)
set_option maxRecDepth 20000 in
theorem gX1_enliven_X1_see : GoodIn wsX1_enliven (wsV RX1 29 RX1 yX1_see wsX1_see) := goodIn_app (goodIn_of _ (by decide +kernel)) ggX1_enliven_X1_see
theorem dX1_enliven_0 : decode cX1_enliven 0 = .ok (.aload_n 0, 1) := by decide +kernel
theorem dX1_enliven_1 : decode cX1_enliven 1 = .ok (.iload_n 1, 1) := by decide +kernel
theorem dX1_enliven_2 : decode cX1_enliven 2 = .ok (.invokevirtual 29, 3) := by decide +kernel
theorem dX1_enliven_5 : decode cX1_enliven 5 = .ok (.aload_n 0, 1) := by decide +kernel
theorem dX1_enliven_6 : decode cX1_enliven 6 = .ok (.getfield 15, 3) := by decide +kernel
theorem dX1_enliven_9 : decode cX1_enliven 9 = .ok (.iload_n 1, 1) := by decide +kernel
theorem dX1_enliven_10 : decode cX1_enliven 10 = .ok (.bipush 64, 2) := by decide +kernel
theorem dX1_enliven_12 : decode cX1_enliven 12 = .ok (.idiv, 1) := by decide +kernel
theorem dX1_enliven_13 : decode cX1_enliven 13 = .ok (.dup2, 1) := by decide +kernel
theorem dX1_enliven_14 : decode cX1_enliven 14 = .ok (.laload, 1) := by decide +kernel
theorem dX1_enliven_15 : decode cX1_enliven 15 = .ok (.lconst 1, 1) := by decide +kernel
theorem dX1_enliven_16 : decode cX1_enliven 16 = .ok (.iload_n 1, 1) := by decide +kernel
theorem dX1_enliven_17 : decode cX1_enliven 17 = .ok (.bipush 64, 2) := by decide +kernel
theorem dX1_enliven_19 : decode cX1_enliven 19 = .ok (.irem, 1) := by decide +kernel
theorem dX1_enliven_20 : decode cX1_enliven 20 = .ok (.lshl, 1) := by decide +kernel
theorem dX1_enliven_21 : decode cX1_enliven 21 = .ok (.lor, 1) := by decide +kernel
theorem dX1_enliven_22 : decode cX1_enliven 22 = .ok (.lastore, 1) := by decide +kernel
theorem dX1_enliven_23 : decode cX1_enliven 23 = .ok (.return_, 1) := by decide +kernel
set_option maxRecDepth 20000 in
theorem ggX1_take_X1_takeDots : GoodIn wsX1_take wsX1_takeDots := goodIn_r _ [5, 6, 7, 8, 20, 21, 22, 23, 24] (by decide +kernel) (by decide +kernel)
set_option maxRecDepth 20000 in
theorem gX1_take_X1_takeDots : GoodIn wsX1_take (wsV RX1 33 RX1 yX1_takeDots wsX1_takeDots) := goodIn_app (goodIn_of _ (by decide +kernel)) ggX1_take_X1_takeDots
set_option maxRecDepth 20000 in
theorem ggX1_take_X1_takeTwice : GoodIn wsX1_take wsX1_takeTwice := goodIn_r _ [12, 13, 14, 20, 21, 22, 23, 24] (by decide +kernel) (by decide +kernel)
set_option maxRecDepth 20000 in
theorem gX1_take_X1_takeTwice : GoodIn wsX1_take (wsV RX1 37 RX1 yX1_takeTwice wsX1_takeTwice) := goodIn_app (goodIn_of _ (by decide +kernel)) ggX1_take_X1_takeTwice
set_option maxRecDepth 20000 in
theorem ggX1_take_X1_takeTimed : GoodIn wsX1_take wsX1_takeTimed := goodIn_r _ [18, 19, 20, 21, 22, 23, 24] (by decide +kernel) (by decide +kernel)
set_option maxRecDepth 20000 in
theorem gX1_take_X1_takeTimed : GoodIn wsX1_take (wsV RX1 40 RX1 yX1_takeTimed wsX1_takeTimed) := goodIn_app (goodIn_of _ (by decide +kernel)) ggX1_take_X1_takeTimed
theorem dX1_take_0 : decode cX1_take 0 = .ok (.aload_n 0, 1) := by decide +kernel
theorem dX1_take_1 : decode cX1_take 1 = .ok (.aload_n 1, 1) := by decide +kernel
theorem dX1_take_2 : decode cX1_take 2 = .ok (.invokevirtual 33, 3) := by decide +kernel
theorem dX1_take_5 : decode cX1_take 5 = .ok (.istore_n 2, 1) := by decide +kernel
theorem dX1_take_6 : decode cX1_take 6 = .ok (.aload_n 0, 1) := by decide +kernel
theorem dX1_take_7 : decode cX1_take 7 = .ok (.aload_n 1, 1) := by decide +kernel
theorem dX1_take_8 : decode cX1_take 8 = .ok (.invokevirtual 37, 3) := by decide +kernel
theorem dX1_take_11 : decode cX1_take 11 = .ok (.istore_n 3, 1) := by decide +kernel
theorem dX1_take_12 : decode cX1_take 12 = .ok (.aload_n 0, 1) := by decide +kernel
theorem dX1_take_13 : decode cX1_take 13 = .ok (.aload_n 1, 1) := by decide +kernel
theorem dX1_take_14 : decode cX1_take 14 = .ok (.invokevirtual 40, 3) := by decide +kernel
theorem dX1_take_17 : decode cX1_take 17 = .ok (.istore 4, 2) := by decide +kernel
theorem dX1_take_19 : decode cX1_take 19 = .ok (.iload_n 2, 1) := by decide +kernel
theorem dX1_take_20 : decode cX1_take 20 = .ok (.ifCond .ne 12, 3) := by decide +kernel
theorem dX1_take_23 : decode cX1_take 23 = .ok (.iload_n 3, 1) := by decide +kernel
theorem dX1_take_24 : decode cX1_take 24 = .ok (.ifCond .ne 8, 3) := by decide +kernel
theorem dX1_take_27 : decode cX1_take 27 = .ok (.iload 4, 2) := by decide +kernel
theorem dX1_take_29 : decode cX1_take 29 = .ok (.ifCond .eq 7, 3) := by decide +kernel
theorem dX1_take_32 : decode cX1_take 32 = .ok (.iconst 1, 1) := by decide +kernel
theorem dX1_take_33 : decode cX1_take 33 = .ok (.goto 4, 3) := by decide +kernel
theorem dX1_take_36 : decode cX1_take 36 = .ok (.iconst 0, 1) := by decide +kernel
theorem dX1_take_37 : decode cX1_take 37 = .ok (.ireturn, 1) := by decide +kernel
theorem dX1_takeDots_0 : decode cX1_takeDots 0 = .ok (.iconst 0, 1) := by decide +kernel
theorem dX1_takeDots_1 : decode cX1_takeDots 1 = .ok (.istore_n 2, 1) := by decide +kernel
theorem dX1_takeDots_2 : decode cX1_takeDots 2 = .ok (.iconst 0, 1) := by decide +kernel
theorem dX1_takeDots_3 : decode cX1_takeDots 3 = .ok (.istore_n 3, 1) := by decide +kernel
theorem dX1_takeDots_4 : decode cX1_takeDots 4 = .ok (.iload_n 3, 1) := by decide +kernel
theorem dX1_takeDots_5 : decode cX1_takeDots 5 = .ok (.iconst 4, 1) := by decide +kernel
theorem dX1_takeDots_6 : decode cX1_takeDots 6 = .ok (.if_icmp .ge 114, 3) := by decide +kernel
theorem dX1_takeDots_9 : decode cX1_takeDots 9 = .ok (.aload_n 0, 1) := by decide +kernel
theorem dX1_takeDots_10 : decode cX1_takeDots 10 = .ok (.getfield 15, 3) := by decide +kernel
theorem dX1_takeDots_13 : decode cX1_takeDots 13 = .ok (.iload_n 3, 1) := by decide +kernel
theorem dX1_takeDots_14 : decode cX1_takeDots 14 = .ok (.laload, 1) := by decide +kernel
theorem dX1_takeDots_15 : decode cX1_takeDots 15 = .ok (.aload_n 1, 1) := by decide +kernel
theorem dX1_takeDots_16 : decode cX1_takeDots 16 = .ok (.getfield 15, 3) := by decide +kernel
theorem dX1_takeDots_19 : decode cX1_takeDots 19 = .ok (.iload_n 3, 1) := by decide +kernel
theorem dX1_takeDots_20 : decode cX1_takeDots 20 = .ok (.laload, 1) := by decide +kernel
theorem dX1_takeDots_21 : decode cX1_takeDots 21 = .ok (.aload_n 1, 1) := by decide +kernel
theorem dX1_takeDots_22 : decode cX1_takeDots 22 = .ok (.getfield 9, 3) := by decide +kernel
theorem dX1_takeDots_25 : decode cX1_takeDots 25 = .ok (.iload_n 3, 1) := by decide +kernel
theorem dX1_takeDots_26 : decode cX1_takeDots 26 = .ok (.laload, 1) := by decide +kernel
theorem dX1_takeDots_27 : decode cX1_takeDots 27 = .ok (.ldc2_w 43, 3) := by decide +kernel
theorem dX1_takeDots_30 : decode cX1_takeDots 30 = .ok (.lxor, 1) := by decide +kernel
theorem dX1_takeDots_31 : decode cX1_takeDots 31 = .ok (.lor, 1) := by decide +kernel
theorem dX1_takeDots_32 : decode cX1_takeDots 32 = .ok (.land, 1) := by decide +kernel
theorem dX1_takeDots_33 : decode cX1_takeDots 33 = .ok (.lstore 4, 2) := by decide +kernel
theorem dX1_takeDots_35 : decode cX1_takeDots 35 = .ok (.lload 4, 2) := by decide +kernel
theorem dX1_takeDots_37 : decode cX1_takeDots 37 = .ok (.aload_n 1, 1) := by decide +kernel
theorem dX1_takeDots_38 : decode cX1_takeDots 38 = .ok (.getfield 15, 3) := by decide +kernel
theorem dX1_takeDots_41 : decode cX1_takeDots 41 = .ok (.iload_n 3, 1) := by decide +kernel
theorem dX1_takeDots_42 : decode cX1_takeDots 42 = .ok (.laload, 1) := by decide +kernel
theorem dX1_takeDots_43 : decode cX1_takeDots 43 = .ok (.aload_n 0, 1) := by decide +kernel
theorem dX1_takeDots_44 : decode cX1_takeDots 44 = .ok (.getfield 9, 3) := by decide +kernel
theorem dX1_takeDots_47 : decode cX1_takeDots 47 = .ok (.iload_n 3, 1) := by decide +kernel
theorem dX1_takeDots_48 : decode cX1_takeDots 48 = .ok (.laload, 1) := by decide +kernel
theorem dX1_takeDots_49 : decode cX1_takeDots 49 = .ok (.ldc2_w 43, 3) := by decide +kernel
theorem dX1_takeDots_52 : decode cX1_takeDots 52 = .ok (.lxor, 1) := by decide +kernel
theorem dX1_takeDots_53 : decode cX1_takeDots 53 = .ok (.land, 1) := by decide +kernel
theorem dX1_takeDots_54 : decode cX1_takeDots 54 = .ok (.lor, 1) := by decide +kernel
theorem dX1_takeDots_55 : decode cX1_takeDots 55 = .ok (.lstore 6, 2) := by decide +kernel
theorem dX1_takeDots_57 : decode cX1_takeDots 57 = .ok (.aload_n 0, 1) := by decide +kernel
theorem dX1_takeDots_58 : decode cX1_takeDots 58 = .ok (.getfield 9, 3) := by decide +kernel
theorem dX1_takeDots_61 : decode cX1_takeDots 61 = .ok (.iload_n 3, 1) := by decide +kernel
theorem dX1_takeDots_62 : decode cX1_takeDots 62 = .ok (.laload, 1) := by decide +kernel
theorem dX1_takeDots_63 : decode cX1_takeDots 63 = .ok (.aload_n 1, 1) := by decide +kernel
theorem dX1_takeDots_64 : decode cX1_takeDots 64 = .ok (.getfield 9, 3) := by decide +kernel
theorem dX1_takeDots_67 : decode cX1_takeDots 67 = .ok (.iload_n 3, 1) := by decide +kernel
theorem dX1_takeDots_68 : decode cX1_takeDots 68 = .ok (.laload, 1) := by decide +kernel
theorem dX1_takeDots_69 : decode cX1_takeDots 69 = .ok (.lor, 1) := by decide +kernel
theorem dX1_takeDots_70 : decode cX1_takeDots 70 = .ok (.lstore 8, 2) := by decide +kernel
theorem dX1_takeDots_72 : decode cX1_takeDots 72 = .ok (.lload 6, 2) := by decide +kernel
theorem dX1_takeDots_74 : decode cX1_takeDots 74 = .ok (.aload_n 0, 1) := by decide +kernel
theorem dX1_takeDots_75 : decode cX1_takeDots 75 = .ok (.getfield 15, 3) := by decide +kernel
theorem dX1_takeDots_78 : decode cX1_takeDots 78 = .ok (.iload_n 3, 1) := by decide +kernel
theorem dX1_takeDots_79 : decode cX1_takeDots 79 = .ok (.laload, 1) := by decide +kernel
theorem dX1_takeDots_80 : decode cX1_takeDots 80 = .ok (.lcmp, 1) := by decide +kernel
theorem dX1_takeDots_81 : decode cX1_takeDots 81 = .ok (.ifCond .ne 15, 3) := by decide +kernel
theorem dX1_takeDots_84 : decode cX1_takeDots 84 = .ok (.lload 8, 2) := by decide +kernel
theorem dX1_takeDots_86 : decode cX1_takeDots 86 = .ok (.aload_n 0, 1) := by decide +kernel
theorem dX1_takeDots_87 : decode cX1_takeDots 87 = .ok (.getfield 9, 3) := by decide +kernel
theorem dX1_takeDots_90 : decode cX1_takeDots 90 = .ok (.iload_n 3, 1) := by decide +kernel
theorem dX1_takeDots_91 : decode cX1_takeDots 91 = .ok (.laload, 1) := by decide +kernel
theorem dX1_takeDots_92 : decode cX1_takeDots 92 = .ok (.lcmp, 1) := by decide +kernel
theorem dX1_takeDots_93 : decode cX1_takeDots 93 = .ok (.ifCond .eq 5, 3) := by decide +kernel
theorem dX1_takeDots_96 : decode cX1_takeDots 96 = .ok (.iconst 1, 1) := by decide +kernel
theorem dX1_takeDots_97 : decode cX1_takeDots 97 = .ok (.istore_n 2, 1) := by decide +kernel
theorem dX1_takeDots_98 : decode cX1_takeDots 98 = .ok (.aload_n 0, 1) := by decide +kernel
theorem dX1_takeDots_99 : decode cX1_takeDots 99 = .ok (.getfield 15, 3) := by decide +kernel
theorem dX1_takeDots_102 : decode cX1_takeDots 102 = .ok (.iload_n 3, 1) := by decide +kernel
theorem dX1_takeDots_103 : decode cX1_takeDots 103 = .ok (.lload 6, 2) := by decide +kernel
theorem dX1_takeDots_105 : decode cX1_takeDots 105 = .ok (.lastore, 1) := by decide +kernel
theorem dX1_takeDots_106 : decode cX1_takeDots 106 = .ok (.aload_n 0, 1) := by decide +kernel
theorem dX1_takeDots_107 : decode cX1_takeDots 107 = .ok (.getfield 9, 3) := by decide +kernel
theorem dX1_takeDots_110 : decode cX1_takeDots 110 = .ok (.iload_n 3, 1) := by decide +kernel
theorem dX1_takeDots_111 : decode cX1_takeDots 111 = .ok (.lload 8, 2) := by decide +kernel
theorem dX1_takeDots_113 : decode cX1_takeDots 113 = .ok (.lastore, 1) := by decide +kernel
theorem dX1_takeDots_114 : decode cX1_takeDots 114 = .ok (.iinc 3 1, 3) := by decide +kernel
theorem dX1_takeDots_117 : decode cX1_takeDots 117 = .ok (.goto (-113), 3) := by decide +kernel
theorem dX1_takeDots_120 : decode cX1_takeDots 120 = .ok (.iload_n 2, 1) := by decide +kernel
theorem dX1_takeDots_121 : decode cX1_takeDots 121 = .ok (.ireturn, 1) := by decide +kernel
theorem dX1_takeTwice_0 : decode cX1_takeTwice 0 = .ok (.aload_n 0, 1) := by decide +kernel
theorem dX1_takeTwice_1 : decode cX1_takeTwice 1 = .ok (.getfield 22, 3) := by decide +kernel
theorem dX1_takeTwice_4 : decode cX1_takeTwice 4 = .ok (.aload_n 1, 1) := by decide +kernel
theorem dX1_takeTwice_5 : decode cX1_takeTwice 5 = .ok (.getfield 22, 3) := by decide +kernel
theorem dX1_takeTwice_8 : decode cX1_takeTwice 8 = .ok (.ior, 1) := by decide +kernel
theorem dX1_takeTwice_9 : decode cX1_takeTwice 9 = .ok (.istore_n 2, 1) := by decide +kernel
theorem dX1_takeTwice_10 : decode cX1_takeTwice 10 = .ok (.aload_n 0, 1) := by decide +kernel
theorem dX1_takeTwice_11 : decode cX1_takeTwice 11 = .ok (.getfield 26, 3) := by decide +kernel
theorem dX1_takeTwice_14 : decode cX1_takeTwice 14 = .ok (.aload_n 1, 1) := by decide +kernel
theorem dX1_takeTwice_15 : decode cX1_takeTwice 15 = .ok (.getfield 26, 3) := by decide +kernel
theorem dX1_takeTwice_18 : decode cX1_takeTwice 18 = .ok (.ior, 1) := by decide +kernel
theorem dX1_takeTwice_19 : decode cX1_takeTwice 19 = .ok (.istore_n 3, 1) := by decide +kernel
theorem dX1_takeTwice_20 : decode cX1_takeTwice 20 = .ok (.iload_n 2, 1) := by decide +kernel
theorem dX1_takeTwice_21 : decode cX1_takeTwice 21 = .ok (.aload_n 0, 1) := by decide +kernel
theorem dX1_takeTwice_22 : decode cX1_takeTwice 22 = .ok (.getfield 22, 3) := by decide +kernel
theorem dX1_takeTwice_25 : decode cX1_takeTwice 25 = .ok (.if_icmp .ne 11, 3) := by decide +kernel
theorem dX1_takeTwice_28 : decode cX1_takeTwice 28 = .ok (.iload_n 3, 1) := by decide +kernel
theorem dX1_takeTwice_29 : decode cX1_takeTwice 29 = .ok (.aload_n 0, 1) := by decide +kernel
theorem dX1_takeTwice_30 : decode cX1_takeTwice 30 = .ok (.getfield 26, 3) := by decide +kernel
theorem dX1_takeTwice_33 : decode cX1_takeTwice 33 = .ok (.if_icmp .eq 7, 3) := by decide +kernel
theorem dX1_takeTwice_36 : decode cX1_takeTwice 36 = .ok (.iconst 1, 1) := by decide +kernel
theorem dX1_takeTwice_37 : decode cX1_takeTwice 37 = .ok (.goto 4, 3) := by decide +kernel
theorem dX1_takeTwice_40 : decode cX1_takeTwice 40 = .ok (.iconst 0, 1) := by decide +kernel
theorem dX1_takeTwice_41 : decode cX1_takeTwice 41 = .ok (.istore 4, 2) := by decide +kernel
theorem dX1_takeTwice_43 : decode cX1_takeTwice 43 = .ok (.aload_n 0, 1) := by decide +kernel
theorem dX1_takeTwice_44 : decode cX1_takeTwice 44 = .ok (.iload_n 2, 1) := by decide +kernel
theorem dX1_takeTwice_45 : decode cX1_takeTwice 45 = .ok (.putfield 22, 3) := by decide +kernel
theorem dX1_takeTwice_48 : decode cX1_takeTwice 48 = .ok (.aload_n 0, 1) := by decide +kernel
theorem dX1_takeTwice_49 : decode cX1_takeTwice 49 = .ok (.iload_n 3, 1) := by decide +kernel
theorem dX1_takeTwice_50 : decode cX1_takeTwice 50 = .ok (.putfield 26, 3) := by decide +kernel
theorem dX1_takeTwice_53 : decode cX1_takeTwice 53 = .ok (.iload 4, 2) := by decide +kernel
theorem dX1_takeTwice_55 : decode cX1_takeTwice 55 = .ok (.ireturn, 1) := by decide +kernel
theorem dX1_takeTimed_0 : decode cX1_takeTimed 0 = .ok (.iconst 0, 1) := by decide +kernel
theorem dX1_takeTimed_1 : decode cX1_takeTimed 1 = .ok (.istore_n 2, 1) := by decide +kernel
theorem dX1_takeTimed_2 : decode cX1_takeTimed 2 = .ok (.iconst 0, 1) := by decide +kernel
theorem dX1_takeTimed_3 : decode cX1_takeTimed 3 = .ok (.istore_n 3, 1) := by decide +kernel
theorem dX1_takeTimed_4 : decode cX1_takeTimed 4 = .ok (.iload_n 3, 1) := by decide +kernel
theorem dX1_takeTimed_5 : decode cX1_takeTimed 5 = .ok (.bipush 32, 2) := by decide +kernel
theorem dX1_takeTimed_7 : decode cX1_takeTimed 7 = .ok (.if_icmp .ge 38, 3) := by decide +kernel
theorem dX1_takeTimed_10 : decode cX1_takeTimed 10 = .ok (.aload_n 1, 1) := by decide +kernel
theorem dX1_takeTimed_11 : decode cX1_takeTimed 11 = .ok (.getfield 18, 3) := by decide +kernel
theorem dX1_takeTimed_14 : decode cX1_takeTimed 14 = .ok (.iload_n 3, 1) := by decide +kernel
theorem dX1_takeTimed_15 : decode cX1_takeTimed 15 = .ok (.iaload, 1) := by decide +kernel
theorem dX1_takeTimed_16 : decode cX1_takeTimed 16 = .ok (.aload_n 0, 1) := by decide +kernel
theorem dX1_takeTimed_17 : decode cX1_takeTimed 17 = .ok (.getfield 18, 3) := by decide +kernel
theorem dX1_takeTimed_20 : decode cX1_takeTimed 20 = .ok (.iload_n 3, 1) := by decide +kernel
theorem dX1_takeTimed_21 : decode cX1_takeTimed 21 = .ok (.iaload, 1) := by decide +kernel
theorem dX1_takeTimed_22 : decode cX1_takeTimed 22 = .ok (.if_icmp .le 17, 3) := by decide +kernel
theorem dX1_takeTimed_25 : decode cX1_takeTimed 25 = .ok (.aload_n 0, 1) := by decide +kernel
theorem dX1_takeTimed_26 : decode cX1_takeTimed 26 = .ok (.getfield 18, 3) := by decide +kernel
theorem dX1_takeTimed_29 : decode cX1_takeTimed 29 = .ok (.iload_n 3, 1) := by decide +kernel
theorem dX1_takeTimed_30 : decode cX1_takeTimed 30 = .ok (.aload_n 1, 1) := by decide +kernel
theorem dX1_takeTimed_31 : decode cX1_takeTimed 31 = .ok (.getfield 18, 3) := by decide +kernel
theorem dX1_takeTimed_34 : decode cX1_takeTimed 34 = .ok (.iload_n 3, 1) := by decide +kernel
theorem dX1_takeTimed_35 : decode cX1_takeTimed 35 = .ok (.iaload, 1) := by decide +kernel
theorem dX1_takeTimed_36 : decode cX1_takeTimed 36 = .ok (.iastore, 1) := by decide +kernel
theorem dX1_takeTimed_37 : decode cX1_takeTimed 37 = .ok (.iconst 1, 1) := by decide +kernel
theorem dX1_takeTimed_38 : decode cX1_takeTimed 38 = .ok (.istore_n 2, 1) := by decide +kernel
theorem dX1_takeTimed_39 : decode cX1_takeTimed 39 = .ok (.iinc 3 1, 3) := by decide +kernel
theorem dX1_takeTimed_42 : decode cX1_takeTimed 42 = .ok (.goto (-38), 3) := by decide +kernel
theorem dX1_takeTimed_45 : decode cX1_takeTimed 45 = .ok (.iload_n 2, 1) := by decide +kernel
theorem dX1_takeTimed_46 : decode cX1_takeTimed 46 = .ok (.ireturn, 1) := by decide +kernel
theorem dX1_become_0 : decode cX1_become 0 = .ok (.aload_n 1, 1) := by decide +kernel
theorem dX1_become_1 : decode cX1_become 1 = .ok (.getfield 9, 3) := by decide +kernel
theorem dX1_become_4 : decode cX1_become 4 = .ok (.iconst 0, 1) := by decide +kernel
theorem dX1_become_5 : decode cX1_become 5 = .ok (.aload_n 0, 1) := by decide +kernel
theorem dX1_become_6 : decode cX1_become 6 = .ok (.getfield 9, 3) := by decide +kernel
theorem dX1_become_9 : decode cX1_become 9 = .ok (.iconst 0, 1) := by decide +kernel
theorem dX1_become_10 : decode cX1_become 10 = .ok (.iconst 4, 1) := by decide +kernel
theorem dX1_become_11 : decode cX1_become 11 = .ok (.invokestatic 45, 3) := by decide +kernel
theorem dX1_become_14 : decode cX1_become 14 = .ok (.aload_n 1, 1) := by decide +kernel
theorem dX1_become_15 : decode cX1_become 15 = .ok (.getfield 15, 3) := by decide +kernel
theorem dX1_become_18 : decode cX1_become 18 = .ok (.iconst 0, 1) := by decide +kernel
theorem dX1_become_19 : decode cX1_become 19 = .ok (.aload_n 0, 1) := by decide +kernel
theorem dX1_become_20 : decode cX1_become 20 = .ok (.getfield 15, 3) := by decide +kernel
theorem dX1_become_23 : decode cX1_become 23 = .ok (.iconst 0, 1) := by decide +kernel
theorem dX1_become_24 : decode cX1_become 24 = .ok (.iconst 4, 1) := by decide +kernel
theorem dX1_become_25 : decode cX1_become 25 = .ok (.invokestatic 45, 3) := by decide +kernel
theorem dX1_become_28 : decode cX1_become 28 = .ok (.aload_n 1, 1) := by decide +kernel
theorem dX1_become_29 : decode cX1_become 29 = .ok (.getfield 18, 3) := by decide +kernel
theorem dX1_become_32 : decode cX1_become 32 = .ok (.iconst 0, 1) := by decide +kernel
theorem dX1_become_33 : decode cX1_become 33 = .ok (.aload_n 0, 1) := by decide +kernel
theorem dX1_become_34 : decode cX1_become 34 = .ok (.getfield 18, 3) := by decide +kernel
theorem dX1_become_37 : decode cX1_become 37 = .ok (.iconst 0, 1) := by decide +kernel
theorem dX1_become_38 : decode cX1_become 38 = .ok (.bipush 32, 2) := by decide +kernel
theorem dX1_become_40 : decode cX1_become 40 = .ok (.invokestatic 45, 3) := by decide +kernel
theorem dX1_become_43 : decode cX1_become 43 = .ok (.aload_n 0, 1) := by decide +kernel
theorem dX1_become_44 : decode cX1_become 44 = .ok (.aload_n 1, 1) := by decide +kernel
theorem dX1_become_45 : decode cX1_become 45 = .ok (.getfield 22, 3) := by decide +kernel
theorem dX1_become_48 : decode cX1_become 48 = .ok (.putfield 22, 3) := by decide +kernel
theorem dX1_become_51 : decode cX1_become 51 = .ok (.aload_n 0, 1) := by decide +kernel
theorem dX1_become_52 : decode cX1_become 52 = .ok (.aload_n 1, 1) := by decide +kernel
theorem dX1_become_53 : decode cX1_become 53 = .ok (.getfield 26, 3) := by decide +kernel
theorem dX1_become_56 : decode cX1_become 56 = .ok (.putfield 26, 3) := by decide +kernel
theorem dX1_become_59 : decode cX1_become 59 = .ok (.return_, 1) := by decide +kernel
theorem dX1_isLike_0 : decode cX1_isLike 0 = .ok (.aload_n 0, 1) := by decide +kernel
theorem dX1_isLike_1 : decode cX1_isLike 1 = .ok (.getfield 22, 3) := by decide +kernel
theorem dX1_isLike_4 : decode cX1_isLike 4 = .ok (.aload_n 1, 1) := by decide +kernel
theorem dX1_isLike_5 : decode cX1_isLike 5 = .ok (.getfield 22, 3) := by decide +kernel
theorem dX1_isLike_8 : decode cX1_isLike 8 = .ok (.if_icmp .ne 18, 3) := by decide +kernel
theorem dX1_isLike_11 : decode cX1_isLike 11 = .ok (.aload_n 0, 1) := by decide +kernel
theorem dX1_isLike_12 : decode cX1_isLike 12 = .ok (.getfield 26, 3) := by decide +kernel
theorem dX1_isLike_15 : decode cX1_isLike 15 = .ok (.aload_n 1, 1) := by decide +kernel
theorem dX1_isLike_16 : decode cX1_isLike 16 = .ok (.getfield 26, 3) := by decide +kernel
theorem dX1_isLike_19 : decode cX1_isLike 19 = .ok (.if_icmp .ne 7, 3) := by decide +kernel
theorem dX1_isLike_22 : decode cX1_isLike 22 = .ok (.iconst 1, 1) := by decide +kernel
theorem dX1_isLike_23 : decode cX1_isLike 23 = .ok (.goto 4, 3) := by decide +kernel
theorem dX1_isLike_26 : decode cX1_isLike 26 = .ok (.iconst 0, 1) := by decide +kernel
theorem dX1_isLike_27 : decode cX1_isLike 27 = .ok (.istore_n 2, 1) := by decide +kernel
theorem dX1_isLike_28 : decode cX1_isLike 28 = .ok (.iconst 0, 1) := by decide +kernel
theorem dX1_isLike_29 : decode cX1_isLike 29 = .ok (.istore_n 3, 1) := by decide +kernel
theorem dX1_isLike_30 : decode cX1_isLike 30 = .ok (.iload_n 3, 1) := by decide +kernel
theorem dX1_isLike_31 : decode cX1_isLike 31 = .ok (.iconst 4, 1) := by decide +kernel
theorem dX1_isLike_32 : decode cX1_isLike 32 = .ok (.if_icmp .ge 51, 3) := by decide +kernel
theorem dX1_isLike_35 : decode cX1_isLike 35 = .ok (.iload_n 2, 1) := by decide +kernel
theorem dX1_isLike_36 : decode cX1_isLike 36 = .ok (.ifCond .eq 39, 3) := by decide +kernel
theorem dX1_isLike_39 : decode cX1_isLike 39 = .ok (.aload_n 0, 1) := by decide +kernel
theorem dX1_isLike_40 : decode cX1_isLike 40 = .ok (.getfield 9, 3) := by decide +kernel
theorem dX1_isLike_43 : decode cX1_isLike 43 = .ok (.iload_n 3, 1) := by decide +kernel
theorem dX1_isLike_44 : decode cX1_isLike 44 = .ok (.laload, 1) := by decide +kernel
theorem dX1_isLike_45 : decode cX1_isLike 45 = .ok (.aload_n 1, 1) := by decide +kernel
theorem dX1_isLike_46 : decode cX1_isLike 46 = .ok (.getfield 9, 3) := by decide +kernel
theorem dX1_isLike_49 : decode cX1_isLike 49 = .ok (.iload_n 3, 1) := by decide +kernel
theorem dX1_isLike_50 : decode cX1_isLike 50 = .ok (.laload, 1) := by decide +kernel
theorem dX1_isLike_51 : decode cX1_isLike 51 = .ok (.lcmp, 1) := by decide +kernel
theorem dX1_isLike_52 : decode cX1_isLike 52 = .ok (.ifCond .ne 23, 3) := by decide +kernel
theorem dX1_isLike_55 : decode cX1_isLike 55 = .ok (.aload_n 0, 1) := by decide +kernel
theorem dX1_isLike_56 : decode cX1_isLike 56 = .ok (.getfield 15, 3) := by decide +kernel
theorem dX1_isLike_59 : decode cX1_isLike 59 = .ok (.iload_n 3, 1) := by decide +kernel
theorem dX1_isLike_60 : decode cX1_isLike 60 = .ok (.laload, 1) := by decide +kernel
theorem dX1_isLike_61 : decode cX1_isLike 61 = .ok (.aload_n 1, 1) := by decide +kernel
theorem dX1_isLike_62 : decode cX1_isLike 62 = .ok (.getfield 15, 3) := by decide +kernel
theorem dX1_isLike_65 : decode cX1_isLike 65 = .ok (.iload_n 3, 1) := by decide +kernel
theorem dX1_isLike_66 : decode cX1_isLike 66 = .ok (.laload, 1) := by decide +kernel
theorem dX1_isLike_67 : decode cX1_isLike 67 = .ok (.lcmp, 1) := by decide +kernel
theorem dX1_isLike_68 : decode cX1_isLike 68 = .ok (.ifCond .ne 7, 3) := by decide +kernel
theorem dX1_isLike_71 : decode cX1_isLike 71 = .ok (.iconst 1, 1) := by decide +kernel
theorem dX1_isLike_72 : decode cX1_isLike 72 = .ok (.goto 4, 3) := by decide +kernel
theorem dX1_isLike_75 : decode cX1_isLike 75 = .ok (.iconst 0, 1) := by decide +kernel
theorem dX1_isLike_76 : decode cX1_isLike 76 = .ok (.istore_n 2, 1) := by decide +kernel
theorem dX1_isLike_77 : decode cX1_isLike 77 = .ok (.iinc 3 1, 3) := by decide +kernel
theorem dX1_isLike_80 : decode cX1_isLike 80 = .ok (.goto (-50), 3) := by decide +kernel
theorem dX1_isLike_83 : decode cX1_isLike 83 = .ok (.iconst 0, 1) := by decide +kernel
theorem dX1_isLike_84 : decode cX1_isLike 84 = .ok (.istore_n 3, 1) := by decide +kernel
theorem dX1_isLike_85 : decode cX1_isLike 85 = .ok (.iload_n 3, 1) := by decide +kernel
theorem dX1_isLike_86 : decode cX1_isLike 86 = .ok (.bipush 32, 2) := by decide +kernel
theorem dX1_isLike_88 : decode cX1_isLike 88 = .ok (.if_icmp .ge 34, 3) := by decide +kernel
theorem dX1_isLike_91 : decode cX1_isLike 91 = .ok (.iload_n 2, 1) := by decide +kernel
theorem dX1_isLike_92 : decode cX1_isLike 92 = .ok (.ifCond .eq 22, 3) := by decide +kernel
theorem dX1_isLike_95 : decode cX1_isLike 95 = .ok (.aload_n 0, 1) := by decide +kernel
theorem dX1_isLike_96 : decode cX1_isLike 96 = .ok (.getfield 18, 3) := by decide +kernel
theorem dX1_isLike_99 : decode cX1_isLike 99 = .ok (.iload_n 3, 1) := by decide +kernel
theorem dX1_isLike_100 : decode cX1_isLike 100 = .ok (.iaload, 1) := by decide +kernel
theorem dX1_isLike_101 : decode cX1_isLike 101 = .ok (.aload_n 1, 1) := by decide +kernel
theorem dX1_isLike_102 : decode cX1_isLike 102 = .ok (.getfield 18, 3) := by decide +kernel
theorem dX1_isLike_105 : decode cX1_isLike 105 = .ok (.iload_n 3, 1) := by decide +kernel
theorem dX1_isLike_106 : decode cX1_isLike 106 = .ok (.iaload, 1) := by decide +kernel
theorem dX1_isLike_107 : decode cX1_isLike 107 = .ok (.if_icmp .ne 7, 3) := by decide +kernel
theorem dX1_isLike_110 : decode cX1_isLike 110 = .ok (.iconst 1, 1) := by decide +kernel
theorem dX1_isLike_111 : decode cX1_isLike 111 = .ok (.goto 4, 3) := by decide +kernel
theorem dX1_isLike_114 : decode cX1_isLike 114 = .ok (.iconst 0, 1) := by decide +kernel
theorem dX1_isLike_115 : decode cX1_isLike 115 = .ok (.istore_n 2, 1) := by decide +kernel
theorem dX1_isLike_116 : decode cX1_isLike 116 = .ok (.iinc 3 1, 3) := by decide +kernel
theorem dX1_isLike_119 : decode cX1_isLike 119 = .ok (.goto (-34), 3) := by decide +kernel
theorem dX1_isLike_122 : decode cX1_isLike 122 = .ok (.iload_n 2, 1) := by decide +kernel
theorem dX1_isLike_123 : decode cX1_isLike 123 = .ok (.ireturn, 1) := by decide +kernel
set_option maxRecDepth 20000 in
theorem ggX2_init_X0_init : GoodIn wsX2_init wsX0_init := goodIn_r _ [18, 19, 2, 3, 20, 21, 22, 23, 24, 14, 25, 26, 27, 42, 43, 44, 45, 46, 47, 48] (by decide +kernel) (by decide +kernel)
set_option maxRecDepth 20000 in
theorem gX2_init_X0_init_n20 : GoodIn wsX2_init (wsX0_init) := ggX2_init_X0_init
set_option maxRecDepth 20000 in
theorem ggX2_init_X1_init : GoodIn wsX2_init wsX1_init := goodIn_r _ [29, 30, 2, 3, 14, 31, 32, 20, 33, 34, 35, 49, 50, 51, 52, 53] (by decide +kernel) (by decide +kernel)
set_option maxRecDepth 20000 in
theorem gX2_init_X1_init_n25 : GoodIn wsX2_init (wsX1_init) := ggX2_init_X1_init
theorem dX2_init_0 : decode cX2_init 0 = .ok (.aload_n 0, 1) := by decide +kernel
theorem dX2_init_1 : decode cX2_init 1 = .ok (.invokespecial 3, 3) := by decide +kernel
theorem dX2_init_4 : decode cX2_init 4 = .ok (.aload_n 0, 1) := by decide +kernel
theorem dX2_init_5 : decode cX2_init 5 = .ok (.bipush 6, 2) := by decide +kernel
theorem dX2_init_7 : decode cX2_init 7 = .ok (.anewarray 9, 3) := by decide +kernel
theorem dX2_init_10 : decode cX2_init 10 = .ok (.putfield 11, 3) := by decide +kernel
theorem dX2_init_13 : decode cX2_init 13 = .ok (.aload_n 0, 1) := by decide +kernel
theorem dX2_init_14 : decode cX2_init 14 = .ok (.sipush 250, 3) := by decide +kernel
theorem dX2_init_17 : decode cX2_init 17 = .ok (.anewarray 9, 3) := by decide +kernel
theorem dX2_init_20 : decode cX2_init 20 = .ok (.putfield 15, 3) := by decide +kernel
theorem dX2_init_23 : decode cX2_init 23 = .ok (.aload_n 0, 1) := by decide +kernel
theorem dX2_init_24 : decode cX2_init 24 = .ok (.new 18, 3) := by decide +kernel
theorem dX2_init_27 : decode cX2_init 27 = .ok (.dup, 1) := by decide +kernel
theorem dX2_init_28 : decode cX2_init 28 = .ok (.invokespecial 20, 3) := by decide +kernel
theorem dX2_init_31 : decode cX2_init 31 = .ok (.putfield 21, 3) := by decide +kernel
theorem dX2_init_34 : decode cX2_init 34 = .ok (.aload_n 0, 1) := by decide +kernel
theorem dX2_init_35 : decode cX2_init 35 = .ok (.new 9, 3) := by decide +kernel
theorem dX2_init_38 : decode cX2_init 38 = .ok (.dup, 1) := by decide +kernel
theorem dX2_init_39 : decode cX2_init 39 = .ok (.invokespecial 25, 3) := by decide +kernel
theorem dX2_init_42 : decode cX2_init 42 = .ok (.putfield 26, 3) := by decide +kernel
theorem dX2_init_45 : decode cX2_init 45 = .ok (.aload_n 0, 1) := by decide +kernel
theorem dX2_init_46 : decode cX2_init 46 = .ok (.sipush 250, 3) := by decide +kernel
theorem dX2_init_49 : decode cX2_init 49 = .ok (.newarray .long, 2) := by decide +kernel
theorem dX2_init_51 : decode cX2_init 51 = .ok (.putfield 30, 3) := by decide +kernel
theorem dX2_init_54 : decode cX2_init 54 = .ok (.aload_n 0, 1) := by decide +kernel
theorem dX2_init_55 : decode cX2_init 55 = .ok (.iconst 0, 1) := by decide +kernel
theorem dX2_init_56 : decode cX2_init 56 = .ok (.putfield 34, 3) := by decide +kernel
theorem dX2_init_59 : decode cX2_init 59 = .ok (.iconst 0, 1) := by decide +kernel
theorem dX2_init_60 : decode cX2_init 60 = .ok (.istore_n 1, 1) := by decide +kernel
theorem dX2_init_61 : decode cX2_init 61 = .ok (.iload_n 1, 1) := by decide +kernel
theorem dX2_init_62 : decode cX2_init 62 = .ok (.bipush 6, 2) := by decide +kernel
theorem dX2_init_64 : decode cX2_init 64 = .ok (.if_icmp .ge 22, 3) := by decide +kernel
theorem dX2_init_67 : decode cX2_init 67 = .ok (.aload_n 0, 1) := by decide +kernel
theorem dX2_init_68 : decode cX2_init 68 = .ok (.getfield 11, 3) := by decide +kernel
theorem dX2_init_71 : decode cX2_init 71 = .ok (.iload_n 1, 1) := by decide +kernel
theorem dX2_init_72 : decode cX2_init 72 = .ok (.new 9, 3) := by decide +kernel
theorem dX2_init_75 : decode cX2_init 75 = .ok (.dup, 1) := by decide +kernel
theorem dX2_init_76 : decode cX2_init 76 = .ok (.invokespecial 25, 3) := by decide +kernel
theorem dX2_init_79 : decode cX2_init 79 = .ok (.aastore, 1) := by decide +kernel
theorem dX2_init_80 : decode cX2_init 80 = .ok (.iinc 1 1, 3) := by decide +kernel
theorem dX2_init_83 : decode cX2_init 83 = .ok (.goto (-22), 3) := by decide +kernel
theorem dX2_init_86 : decode cX2_init 86 = .ok (.return_, 1) := by decide +kernel
set_option maxRecDepth 20000 in
theorem ggX2_element_X2_replicaAt : GoodIn wsX2_element wsX2_replicaAt := goodIn_ca (goodIn_r _ [5, 6, 7, 8, 109, 110, 111, 112, 113, 114] (by decide +kernel) (by decide +kernel)) (goodIn_sub (fun _ h => List.mem_cons_of_mem _ (List.mem_append_left _ (List.mem_append_left _ (List.mem_append_right _ h)))) (by decide +kernel))
set_option maxRecDepth 20000 in
theorem gX2_element_X2_replicaAt : GoodIn wsX2_element (wsV RX2 38 RX2 yX2_replicaAt wsX2_replicaAt) := goodIn_app (goodIn_of _ (by decide +kernel)) ggX2_element_X2_replicaAt
set_option maxRecDepth 20000 in
theorem ggX2_element_X2_requireIndex : GoodIn wsX2_element wsX2_requireIndex := goodIn_ca (goodIn_r _ [11, 6, 7] (by decide +kernel) (by decide +kernel)) (goodIn_sub (fun _ h => List.mem_cons_of_mem _ (List.mem_append_left _ (List.mem_append_left _ (List.mem_append_right _ h)))) (by decide +kernel))
set_option maxRecDepth 20000 in
theorem gX2_element_X2_requireIndex : GoodIn wsX2_element (va_wsS RX2 42 yX2_requireIndex wsX2_requireIndex) := goodIn_app (goodIn_of _ (by decide +kernel)) ggX2_element_X2_requireIndex
set_option maxRecDepth 20000 in
theorem ggX2_element_X2_requireKind : GoodIn wsX2_element wsX2_requireKind := goodIn_ca (goodIn_r _ [14, 15, 16] (by decide +kernel) (by decide +kernel)) (goodIn_sub (fun _ h => List.mem_cons_of_mem _ (List.mem_append_left _ (List.mem_append_right _ h))) (by decide +kernel))
set_option maxRecDepth 20000 in
theorem gX2_element_X2_requireKind : GoodIn wsX2_element (va_wsS RX2 46 yX2_requireKind wsX2_requireKind) := goodIn_app (goodIn_of _ (by decide +kernel)) ggX2_element_X2_requireKind
set_option maxRecDepth 20000 in
theorem ggX2_element_X2_turn : GoodIn wsX2_element wsX2_turn := goodIn_ca (goodIn_r _ [20, 21, 22, 23, 24, 4, 25, 26, 27, 28, 29, 30, 31, 32, 33, 34, 35, 36, 37, 38, 39, 40, 41, 42, 43, 44, 45, 46, 47, 48, 49, 50, 51, 52, 53, 54, 55, 56, 57, 58, 59, 60, 61, 62, 63, 64, 65, 66, 67, 68, 69, 70, 71, 72, 73, 74, 75, 76, 77, 78, 79, 80, 81, 82, 83, 84, 85, 86, 87, 88, 89, 90, 91, 92, 93, 94, 95, 96, 97, 98, 99, 100, 101, 102, 103, 104, 105, 106, 107, 108, 109, 110, 111, 112, 113, 114, 115, 116, 117, 118, 119, 120, 121, 122, 123, 124, 125, 126] (by decide +kernel) (by decide +kernel)) (goodIn_sub (fun _ h => List.mem_cons_of_mem _ (List.mem_append_right _ h)) (by decide +kernel))
set_option maxRecDepth 20000 in
theorem gX2_element_X2_turn : GoodIn wsX2_element (wsV RX2 49 RX2 yX2_turn wsX2_turn) := goodIn_app (goodIn_of _ (by decide +kernel)) ggX2_element_X2_turn
theorem dX2_element_0 : decode cX2_element 0 = .ok (.aload_n 0, 1) := by decide +kernel
theorem dX2_element_1 : decode cX2_element 1 = .ok (.iload_n 1, 1) := by decide +kernel
theorem dX2_element_2 : decode cX2_element 2 = .ok (.invokevirtual 38, 3) := by decide +kernel
theorem dX2_element_5 : decode cX2_element 5 = .ok (.astore 5, 2) := by decide +kernel
theorem dX2_element_7 : decode cX2_element 7 = .ok (.iload_n 2, 1) := by decide +kernel
theorem dX2_element_8 : decode cX2_element 8 = .ok (.bipush 16, 2) := by decide +kernel
theorem dX2_element_10 : decode cX2_element 10 = .ok (.invokestatic 42, 3) := by decide +kernel
theorem dX2_element_13 : decode cX2_element 13 = .ok (.iload_n 3, 1) := by decide +kernel
theorem dX2_element_14 : decode cX2_element 14 = .ok (.bipush 32, 2) := by decide +kernel
theorem dX2_element_16 : decode cX2_element 16 = .ok (.invokestatic 42, 3) := by decide +kernel
theorem dX2_element_19 : decode cX2_element 19 = .ok (.iload_n 2, 1) := by decide +kernel
theorem dX2_element_20 : decode cX2_element 20 = .ok (.iconst 0, 1) := by decide +kernel
theorem dX2_element_21 : decode cX2_element 21 = .ok (.invokestatic 46, 3) := by decide +kernel
theorem dX2_element_24 : decode cX2_element 24 = .ok (.aload_n 0, 1) := by decide +kernel
theorem dX2_element_25 : decode cX2_element 25 = .ok (.aload 5, 2) := by decide +kernel
theorem dX2_element_27 : decode cX2_element 27 = .ok (.iload_n 1, 1) := by decide +kernel
theorem dX2_element_28 : decode cX2_element 28 = .ok (.iload_n 2, 1) := by decide +kernel
theorem dX2_element_29 : decode cX2_element 29 = .ok (.iload_n 3, 1) := by decide +kernel
theorem dX2_element_30 : decode cX2_element 30 = .ok (.iload 4, 2) := by decide +kernel
theorem dX2_element_32 : decode cX2_element 32 = .ok (.invokevirtual 49, 3) := by decide +kernel
theorem dX2_element_35 : decode cX2_element 35 = .ok (.ireturn, 1) := by decide +kernel
set_option maxRecDepth 20000 in
theorem ggX2_write_X2_replicaAt : GoodIn wsX2_write wsX2_replicaAt := goodIn_ca (goodIn_r _ [6, 7, 8, 9, 105, 106, 107, 108, 109, 110] (by decide +kernel) (by decide +kernel)) (goodIn_sub (fun _ h => List.mem_cons_of_mem _ (List.mem_append_left _ (List.mem_append_left _ (List.mem_append_right _ h)))) (by decide +kernel))
set_option maxRecDepth 20000 in
theorem gX2_write_X2_replicaAt : GoodIn wsX2_write (wsV RX2 38 RX2 yX2_replicaAt wsX2_replicaAt) := goodIn_app (goodIn_of _ (by decide +kernel)) ggX2_write_X2_replicaAt
set_option maxRecDepth 20000 in
theorem ggX2_write_X2_requireIndex : GoodIn wsX2_write wsX2_requireIndex := goodIn_ca (goodIn_r _ [12, 7, 8] (by decide +kernel) (by decide +kernel)) (goodIn_sub (fun _ h => List.mem_cons_of_mem _ (List.mem_append_left _ (List.mem_append_left _ (List.mem_append_right _ h)))) (by decide +kernel))
set_option maxRecDepth 20000 in
theorem gX2_write_X2_requireIndex : GoodIn wsX2_write (va_wsS RX2 42 yX2_requireIndex wsX2_requireIndex) := goodIn_app (goodIn_of _ (by decide +kernel)) ggX2_write_X2_requireIndex
set_option maxRecDepth 20000 in
theorem ggX2_write_X2_requireKind : GoodIn wsX2_write wsX2_requireKind := goodIn_ca (goodIn_r _ [15, 16, 17] (by decide +kernel) (by decide +kernel)) (goodIn_sub (fun _ h => List.mem_cons_of_mem _ (List.mem_append_left _ (List.mem_append_right _ h))) (by decide +kernel))
set_option maxRecDepth 20000 in
theorem gX2_write_X2_requireKind : GoodIn wsX2_write (va_wsS RX2 46 yX2_requireKind wsX2_requireKind) := goodIn_app (goodIn_of _ (by decide +kernel)) ggX2_write_X2_requireKind
set_option maxRecDepth 20000 in
theorem ggX2_write_X2_requireDot : GoodIn wsX2_write wsX2_requireDot := goodIn_ca (goodIn_r _ [21, 22, 23, 1, 24, 25, 26, 27, 28, 29, 30, 105, 106, 107, 108, 109, 110, 111, 112, 113, 114, 115, 116, 117] (by decide +kernel) (by decide +kernel)) (goodIn_sub (fun _ h => List.mem_cons_of_mem _ (List.mem_append_right _ h)) (by decide +kernel))
set_option maxRecDepth 20000 in
theorem gX2_write_X2_requireDot : GoodIn wsX2_write (wsV RX2 53 RX2 yX2_requireDot wsX2_requireDot) := goodIn_app (goodIn_of _ (by decide +kernel)) ggX2_write_X2_requireDot
set_option maxRecDepth 20000 in
theorem ggX2_write_X2_openDelta : GoodIn wsX2_write wsX2_openDelta := goodIn_ca (goodIn_r _ [34, 22, 23, 35, 36, 37, 38, 39, 40, 41, 42, 43, 44, 45, 46, 47, 48, 49, 50, 51, 105, 106, 107, 108, 109, 110, 118, 119, 120, 121, 122] (by decide +kernel) (by decide +kernel)) (goodIn_sub (fun _ h => List.mem_cons_of_mem _ (List.mem_append_right _ h)) (by decide +kernel))
set_option maxRecDepth 20000 in
theorem gX2_write_X2_openDelta : GoodIn wsX2_write (wsV RX2 57 RX2 yX2_openDelta wsX2_openDelta) := goodIn_app (goodIn_of _ (by decide +kernel)) ggX2_write_X2_openDelta
set_option maxRecDepth 20000 in
theorem ggX2_write_X2_takeBack : GoodIn wsX2_write wsX2_takeBack := goodIn_r _ [55, 1, 56, 57, 58, 59, 60, 39, 61, 47, 62, 63, 64, 27, 65, 66, 67, 68, 69, 70, 71, 72, 46, 105, 106, 107, 108, 109, 110, 111, 112, 113, 114, 115, 116, 117, 118, 119, 120, 121, 122] (by decide +kernel) (by decide +kernel)
set_option maxRecDepth 20000 in
theorem gX2_write_X2_takeBack : GoodIn wsX2_write (wsV RX2 61 RX2 yX2_takeBack wsX2_takeBack) := goodIn_app (goodIn_of _ (by decide +kernel)) ggX2_write_X2_takeBack
set_option maxRecDepth 20000 in
theorem ggX2_write_X0_make : GoodIn wsX2_write wsX0_make := goodIn_r _ [76, 29, 30, 68, 77, 66, 67, 78, 111, 112, 113, 114, 115, 116, 117] (by decide +kernel) (by decide +kernel)
set_option maxRecDepth 20000 in
theorem gX2_write_X0_make : GoodIn wsX2_write (wsV RX2 65 RX0 yX0_make wsX0_make) := goodIn_app (goodIn_of _ (by decide +kernel)) ggX2_write_X0_make
set_option maxRecDepth 20000 in
theorem ggX2_write_X1_enliven : GoodIn wsX2_write wsX1_enliven := goodIn_r _ [82, 47, 83, 70, 71, 39, 72, 46, 118, 119, 120, 121, 122] (by decide +kernel) (by decide +kernel)
set_option maxRecDepth 20000 in
theorem gX2_write_X1_enliven : GoodIn wsX2_write (wsV RX2 69 RX1 yX1_enliven wsX1_enliven) := goodIn_app (goodIn_of _ (by decide +kernel)) ggX2_write_X1_enliven
set_option maxRecDepth 20000 in
theorem ggX2_write_X2_finish : GoodIn wsX2_write wsX2_finish := goodIn_r _ [87, 35, 88, 89, 90, 39, 91, 92, 93, 94, 95, 47, 46, 96, 97, 98, 99, 100, 50, 51, 101, 102, 103, 104, 49, 105, 106, 107, 108, 109, 110, 118, 119, 120, 121, 122] (by decide +kernel) (by decide +kernel)
set_option maxRecDepth 20000 in
theorem gX2_write_X2_finish : GoodIn wsX2_write (wsV RX2 72 RX2 yX2_finish wsX2_finish) := goodIn_app (goodIn_of _ (by decide +kernel)) ggX2_write_X2_finish
theorem dX2_write_0 : decode cX2_write 0 = .ok (.aload_n 0, 1) := by decide +kernel
theorem dX2_write_1 : decode cX2_write 1 = .ok (.iload_n 1, 1) := by decide +kernel
theorem dX2_write_2 : decode cX2_write 2 = .ok (.invokevirtual 38, 3) := by decide +kernel
theorem dX2_write_5 : decode cX2_write 5 = .ok (.astore 5, 2) := by decide +kernel
theorem dX2_write_7 : decode cX2_write 7 = .ok (.iload_n 2, 1) := by decide +kernel
theorem dX2_write_8 : decode cX2_write 8 = .ok (.bipush 16, 2) := by decide +kernel
theorem dX2_write_10 : decode cX2_write 10 = .ok (.invokestatic 42, 3) := by decide +kernel
theorem dX2_write_13 : decode cX2_write 13 = .ok (.iload_n 2, 1) := by decide +kernel
theorem dX2_write_14 : decode cX2_write 14 = .ok (.iconst 1, 1) := by decide +kernel
theorem dX2_write_15 : decode cX2_write 15 = .ok (.invokestatic 46, 3) := by decide +kernel
theorem dX2_write_18 : decode cX2_write 18 = .ok (.aload_n 0, 1) := by decide +kernel
theorem dX2_write_19 : decode cX2_write 19 = .ok (.iload_n 1, 1) := by decide +kernel
theorem dX2_write_20 : decode cX2_write 20 = .ok (.invokevirtual 53, 3) := by decide +kernel
theorem dX2_write_23 : decode cX2_write 23 = .ok (.aload_n 0, 1) := by decide +kernel
theorem dX2_write_24 : decode cX2_write 24 = .ok (.invokevirtual 57, 3) := by decide +kernel
theorem dX2_write_27 : decode cX2_write 27 = .ok (.astore 6, 2) := by decide +kernel
theorem dX2_write_29 : decode cX2_write 29 = .ok (.aload_n 0, 1) := by decide +kernel
theorem dX2_write_30 : decode cX2_write 30 = .ok (.aload 5, 2) := by decide +kernel
theorem dX2_write_32 : decode cX2_write 32 = .ok (.aload 6, 2) := by decide +kernel
theorem dX2_write_34 : decode cX2_write 34 = .ok (.iload_n 2, 1) := by decide +kernel
theorem dX2_write_35 : decode cX2_write 35 = .ok (.iconst (-1), 1) := by decide +kernel
theorem dX2_write_36 : decode cX2_write 36 = .ok (.iconst (-1), 1) := by decide +kernel
theorem dX2_write_37 : decode cX2_write 37 = .ok (.invokevirtual 61, 3) := by decide +kernel
theorem dX2_write_40 : decode cX2_write 40 = .ok (.pop2, 1) := by decide +kernel
theorem dX2_write_41 : decode cX2_write 41 = .ok (.aload 6, 2) := by decide +kernel
theorem dX2_write_43 : decode cX2_write 43 = .ok (.aload_n 0, 1) := by decide +kernel
theorem dX2_write_44 : decode cX2_write 44 = .ok (.getfield 21, 3) := by decide +kernel
theorem dX2_write_47 : decode cX2_write 47 = .ok (.iload_n 1, 1) := by decide +kernel
theorem dX2_write_48 : decode cX2_write 48 = .ok (.iload_n 2, 1) := by decide +kernel
theorem dX2_write_49 : decode cX2_write 49 = .ok (.iconst 0, 1) := by decide +kernel
theorem dX2_write_50 : decode cX2_write 50 = .ok (.lload_n 3, 1) := by decide +kernel
theorem dX2_write_51 : decode cX2_write 51 = .ok (.invokevirtual 65, 3) := by decide +kernel
theorem dX2_write_54 : decode cX2_write 54 = .ok (.invokevirtual 69, 3) := by decide +kernel
theorem dX2_write_57 : decode cX2_write 57 = .ok (.aload_n 0, 1) := by decide +kernel
theorem dX2_write_58 : decode cX2_write 58 = .ok (.aload 5, 2) := by decide +kernel
theorem dX2_write_60 : decode cX2_write 60 = .ok (.aload 6, 2) := by decide +kernel
theorem dX2_write_62 : decode cX2_write 62 = .ok (.invokevirtual 72, 3) := by decide +kernel
theorem dX2_write_65 : decode cX2_write 65 = .ok (.ireturn, 1) := by decide +kernel
set_option maxRecDepth 20000 in
theorem ggX2_count_X2_replicaAt : GoodIn wsX2_count wsX2_replicaAt := goodIn_ca (goodIn_r _ [6, 7, 8, 9, 105, 106, 107, 108, 109, 110] (by decide +kernel) (by decide +kernel)) (goodIn_sub (fun _ h => List.mem_cons_of_mem _ (List.mem_append_left _ (List.mem_append_left _ (List.mem_append_right _ h)))) (by decide +kernel))
set_option maxRecDepth 20000 in
theorem gX2_count_X2_replicaAt : GoodIn wsX2_count (wsV RX2 38 RX2 yX2_replicaAt wsX2_replicaAt) := goodIn_app (goodIn_of _ (by decide +kernel)) ggX2_count_X2_replicaAt
set_option maxRecDepth 20000 in
theorem ggX2_count_X2_requireIndex : GoodIn wsX2_count wsX2_requireIndex := goodIn_ca (goodIn_r _ [12, 7, 8] (by decide +kernel) (by decide +kernel)) (goodIn_sub (fun _ h => List.mem_cons_of_mem _ (List.mem_append_left _ (List.mem_append_left _ (List.mem_append_right _ h)))) (by decide +kernel))
set_option maxRecDepth 20000 in
theorem gX2_count_X2_requireIndex : GoodIn wsX2_count (va_wsS RX2 42 yX2_requireIndex wsX2_requireIndex) := goodIn_app (goodIn_of _ (by decide +kernel)) ggX2_count_X2_requireIndex
set_option maxRecDepth 20000 in
theorem ggX2_count_X2_requireKind : GoodIn wsX2_count wsX2_requireKind := goodIn_ca (goodIn_r _ [15, 16, 17] (by decide +kernel) (by decide +kernel)) (goodIn_sub (fun _ h => List.mem_cons_of_mem _ (List.mem_append_left _ (List.mem_append_right _ h))) (by decide +kernel))
set_option maxRecDepth 20000 in
theorem gX2_count_X2_requireKind : GoodIn wsX2_count (va_wsS RX2 46 yX2_requireKind wsX2_requireKind) := goodIn_app (goodIn_of _ (by decide +kernel)) ggX2_count_X2_requireKind
set_option maxRecDepth 20000 in
theorem ggX2_count_X2_requireDot : GoodIn wsX2_count wsX2_requireDot := goodIn_ca (goodIn_r _ [21, 22, 23, 1, 24, 25, 26, 27, 28, 29, 30, 105, 106, 107, 108, 109, 110, 111, 112, 113, 114, 115, 116, 117] (by decide +kernel) (by decide +kernel)) (goodIn_sub (fun _ h => List.mem_cons_of_mem _ (List.mem_append_right _ h)) (by decide +kernel))
set_option maxRecDepth 20000 in
theorem gX2_count_X2_requireDot : GoodIn wsX2_count (wsV RX2 53 RX2 yX2_requireDot wsX2_requireDot) := goodIn_app (goodIn_of _ (by decide +kernel)) ggX2_count_X2_requireDot
set_option maxRecDepth 20000 in
theorem ggX2_count_X2_openDelta : GoodIn wsX2_count wsX2_openDelta := goodIn_ca (goodIn_r _ [34, 22, 23, 35, 36, 37, 38, 39, 40, 41, 42, 43, 44, 45, 46, 47, 48, 49, 50, 51, 105, 106, 107, 108, 109, 110, 118, 119, 120, 121, 122] (by decide +kernel) (by decide +kernel)) (goodIn_sub (fun _ h => List.mem_cons_of_mem _ (List.mem_append_right _ h)) (by decide +kernel))
set_option maxRecDepth 20000 in
theorem gX2_count_X2_openDelta : GoodIn wsX2_count (wsV RX2 57 RX2 yX2_openDelta wsX2_openDelta) := goodIn_app (goodIn_of _ (by decide +kernel)) ggX2_count_X2_openDelta
set_option maxRecDepth 20000 in
theorem ggX2_count_X2_takeBack : GoodIn wsX2_count wsX2_takeBack := goodIn_r _ [55, 1, 56, 57, 58, 59, 60, 39, 61, 47, 62, 63, 64, 27, 65, 66, 67, 68, 69, 70, 71, 72, 46, 105, 106, 107, 108, 109, 110, 111, 112, 113, 114, 115, 116, 117, 118, 119, 120, 121, 122] (by decide +kernel) (by decide +kernel)
set_option maxRecDepth 20000 in
theorem gX2_count_X2_takeBack : GoodIn wsX2_count (wsV RX2 61 RX2 yX2_takeBack wsX2_takeBack) := goodIn_app (goodIn_of _ (by decide +kernel)) ggX2_count_X2_takeBack
set_option maxRecDepth 20000 in
theorem ggX2_count_X0_make : GoodIn wsX2_count wsX0_make := goodIn_r _ [76, 29, 30, 68, 77, 66, 67, 78, 111, 112, 113, 114, 115, 116, 117] (by decide +kernel) (by decide +kernel)
set_option maxRecDepth 20000 in
theorem gX2_count_X0_make : GoodIn wsX2_count (wsV RX2 65 RX0 yX0_make wsX0_make) := goodIn_app (goodIn_of _ (by decide +kernel)) ggX2_count_X0_make
set_option maxRecDepth 20000 in
theorem ggX2_count_X1_enliven : GoodIn wsX2_count wsX1_enliven := goodIn_r _ [82, 47, 83, 70, 71, 39, 72, 46, 118, 119, 120, 121, 122] (by decide +kernel) (by decide +kernel)
set_option maxRecDepth 20000 in
theorem gX2_count_X1_enliven : GoodIn wsX2_count (wsV RX2 69 RX1 yX1_enliven wsX1_enliven) := goodIn_app (goodIn_of _ (by decide +kernel)) ggX2_count_X1_enliven
set_option maxRecDepth 20000 in
theorem ggX2_count_X2_finish : GoodIn wsX2_count wsX2_finish := goodIn_r _ [87, 35, 88, 89, 90, 39, 91, 92, 93, 94, 95, 47, 46, 96, 97, 98, 99, 100, 50, 51, 101, 102, 103, 104, 49, 105, 106, 107, 108, 109, 110, 118, 119, 120, 121, 122] (by decide +kernel) (by decide +kernel)
set_option maxRecDepth 20000 in
theorem gX2_count_X2_finish : GoodIn wsX2_count (wsV RX2 72 RX2 yX2_finish wsX2_finish) := goodIn_app (goodIn_of _ (by decide +kernel)) ggX2_count_X2_finish
theorem dX2_count_0 : decode cX2_count 0 = .ok (.aload_n 0, 1) := by decide +kernel
theorem dX2_count_1 : decode cX2_count 1 = .ok (.iload_n 1, 1) := by decide +kernel
theorem dX2_count_2 : decode cX2_count 2 = .ok (.invokevirtual 38, 3) := by decide +kernel
theorem dX2_count_5 : decode cX2_count 5 = .ok (.astore 5, 2) := by decide +kernel
theorem dX2_count_7 : decode cX2_count 7 = .ok (.iload_n 2, 1) := by decide +kernel
theorem dX2_count_8 : decode cX2_count 8 = .ok (.bipush 16, 2) := by decide +kernel
theorem dX2_count_10 : decode cX2_count 10 = .ok (.invokestatic 42, 3) := by decide +kernel
theorem dX2_count_13 : decode cX2_count 13 = .ok (.iload_n 2, 1) := by decide +kernel
theorem dX2_count_14 : decode cX2_count 14 = .ok (.iconst 2, 1) := by decide +kernel
theorem dX2_count_15 : decode cX2_count 15 = .ok (.invokestatic 46, 3) := by decide +kernel
theorem dX2_count_18 : decode cX2_count 18 = .ok (.aload_n 0, 1) := by decide +kernel
theorem dX2_count_19 : decode cX2_count 19 = .ok (.iload_n 1, 1) := by decide +kernel
theorem dX2_count_20 : decode cX2_count 20 = .ok (.invokevirtual 53, 3) := by decide +kernel
theorem dX2_count_23 : decode cX2_count 23 = .ok (.aload_n 0, 1) := by decide +kernel
theorem dX2_count_24 : decode cX2_count 24 = .ok (.invokevirtual 57, 3) := by decide +kernel
theorem dX2_count_27 : decode cX2_count 27 = .ok (.astore 6, 2) := by decide +kernel
theorem dX2_count_29 : decode cX2_count 29 = .ok (.aload_n 0, 1) := by decide +kernel
theorem dX2_count_30 : decode cX2_count 30 = .ok (.aload 5, 2) := by decide +kernel
theorem dX2_count_32 : decode cX2_count 32 = .ok (.aload 6, 2) := by decide +kernel
theorem dX2_count_34 : decode cX2_count 34 = .ok (.iload_n 2, 1) := by decide +kernel
theorem dX2_count_35 : decode cX2_count 35 = .ok (.iconst (-1), 1) := by decide +kernel
theorem dX2_count_36 : decode cX2_count 36 = .ok (.iload_n 1, 1) := by decide +kernel
theorem dX2_count_37 : decode cX2_count 37 = .ok (.invokevirtual 61, 3) := by decide +kernel
theorem dX2_count_40 : decode cX2_count 40 = .ok (.lstore 7, 2) := by decide +kernel
theorem dX2_count_42 : decode cX2_count 42 = .ok (.aload 6, 2) := by decide +kernel
theorem dX2_count_44 : decode cX2_count 44 = .ok (.aload_n 0, 1) := by decide +kernel
theorem dX2_count_45 : decode cX2_count 45 = .ok (.getfield 21, 3) := by decide +kernel
theorem dX2_count_48 : decode cX2_count 48 = .ok (.iload_n 1, 1) := by decide +kernel
theorem dX2_count_49 : decode cX2_count 49 = .ok (.iload_n 2, 1) := by decide +kernel
theorem dX2_count_50 : decode cX2_count 50 = .ok (.iconst 0, 1) := by decide +kernel
theorem dX2_count_51 : decode cX2_count 51 = .ok (.lload 7, 2) := by decide +kernel
theorem dX2_count_53 : decode cX2_count 53 = .ok (.lload_n 3, 1) := by decide +kernel
theorem dX2_count_54 : decode cX2_count 54 = .ok (.ladd, 1) := by decide +kernel
theorem dX2_count_55 : decode cX2_count 55 = .ok (.invokevirtual 65, 3) := by decide +kernel
theorem dX2_count_58 : decode cX2_count 58 = .ok (.invokevirtual 69, 3) := by decide +kernel
theorem dX2_count_61 : decode cX2_count 61 = .ok (.aload_n 0, 1) := by decide +kernel
theorem dX2_count_62 : decode cX2_count 62 = .ok (.aload 5, 2) := by decide +kernel
theorem dX2_count_64 : decode cX2_count 64 = .ok (.aload 6, 2) := by decide +kernel
theorem dX2_count_66 : decode cX2_count 66 = .ok (.invokevirtual 72, 3) := by decide +kernel
theorem dX2_count_69 : decode cX2_count 69 = .ok (.ireturn, 1) := by decide +kernel
set_option maxRecDepth 20000 in
theorem ggX2_flag_X2_replicaAt : GoodIn wsX2_flag wsX2_replicaAt := goodIn_ca (goodIn_r _ [5, 6, 7, 8, 109, 110, 111, 112, 113, 114] (by decide +kernel) (by decide +kernel)) (goodIn_sub (fun _ h => List.mem_cons_of_mem _ (List.mem_append_left _ (List.mem_append_left _ (List.mem_append_right _ h)))) (by decide +kernel))
set_option maxRecDepth 20000 in
theorem gX2_flag_X2_replicaAt : GoodIn wsX2_flag (wsV RX2 38 RX2 yX2_replicaAt wsX2_replicaAt) := goodIn_app (goodIn_of _ (by decide +kernel)) ggX2_flag_X2_replicaAt
set_option maxRecDepth 20000 in
theorem ggX2_flag_X2_requireIndex : GoodIn wsX2_flag wsX2_requireIndex := goodIn_ca (goodIn_r _ [11, 6, 7] (by decide +kernel) (by decide +kernel)) (goodIn_sub (fun _ h => List.mem_cons_of_mem _ (List.mem_append_left _ (List.mem_append_left _ (List.mem_append_right _ h)))) (by decide +kernel))
set_option maxRecDepth 20000 in
theorem gX2_flag_X2_requireIndex : GoodIn wsX2_flag (va_wsS RX2 42 yX2_requireIndex wsX2_requireIndex) := goodIn_app (goodIn_of _ (by decide +kernel)) ggX2_flag_X2_requireIndex
set_option maxRecDepth 20000 in
theorem ggX2_flag_X2_requireKind : GoodIn wsX2_flag wsX2_requireKind := goodIn_ca (goodIn_r _ [14, 15, 16] (by decide +kernel) (by decide +kernel)) (goodIn_sub (fun _ h => List.mem_cons_of_mem _ (List.mem_append_left _ (List.mem_append_right _ h))) (by decide +kernel))
set_option maxRecDepth 20000 in
theorem gX2_flag_X2_requireKind : GoodIn wsX2_flag (va_wsS RX2 46 yX2_requireKind wsX2_requireKind) := goodIn_app (goodIn_of _ (by decide +kernel)) ggX2_flag_X2_requireKind
set_option maxRecDepth 20000 in
theorem ggX2_flag_X2_turn : GoodIn wsX2_flag wsX2_turn := goodIn_ca (goodIn_r _ [20, 21, 22, 23, 24, 4, 25, 26, 27, 28, 29, 30, 31, 32, 33, 34, 35, 36, 37, 38, 39, 40, 41, 42, 43, 44, 45, 46, 47, 48, 49, 50, 51, 52, 53, 54, 55, 56, 57, 58, 59, 60, 61, 62, 63, 64, 65, 66, 67, 68, 69, 70, 71, 72, 73, 74, 75, 76, 77, 78, 79, 80, 81, 82, 83, 84, 85, 86, 87, 88, 89, 90, 91, 92, 93, 94, 95, 96, 97, 98, 99, 100, 101, 102, 103, 104, 105, 106, 107, 108, 109, 110, 111, 112, 113, 114, 115, 116, 117, 118, 119, 120, 121, 122, 123, 124, 125, 126] (by decide +kernel) (by decide +kernel)) (goodIn_sub (fun _ h => List.mem_cons_of_mem _ (List.mem_append_right _ h)) (by decide +kernel))
set_option maxRecDepth 20000 in
theorem gX2_flag_X2_turn : GoodIn wsX2_flag (wsV RX2 49 RX2 yX2_turn wsX2_turn) := goodIn_app (goodIn_of _ (by decide +kernel)) ggX2_flag_X2_turn
theorem dX2_flag_0 : decode cX2_flag 0 = .ok (.aload_n 0, 1) := by decide +kernel
theorem dX2_flag_1 : decode cX2_flag 1 = .ok (.iload_n 1, 1) := by decide +kernel
theorem dX2_flag_2 : decode cX2_flag 2 = .ok (.invokevirtual 38, 3) := by decide +kernel
theorem dX2_flag_5 : decode cX2_flag 5 = .ok (.astore 5, 2) := by decide +kernel
theorem dX2_flag_7 : decode cX2_flag 7 = .ok (.iload_n 2, 1) := by decide +kernel
theorem dX2_flag_8 : decode cX2_flag 8 = .ok (.bipush 16, 2) := by decide +kernel
theorem dX2_flag_10 : decode cX2_flag 10 = .ok (.invokestatic 42, 3) := by decide +kernel
theorem dX2_flag_13 : decode cX2_flag 13 = .ok (.iload_n 3, 1) := by decide +kernel
theorem dX2_flag_14 : decode cX2_flag 14 = .ok (.bipush 8, 2) := by decide +kernel
theorem dX2_flag_16 : decode cX2_flag 16 = .ok (.invokestatic 42, 3) := by decide +kernel
theorem dX2_flag_19 : decode cX2_flag 19 = .ok (.iload_n 2, 1) := by decide +kernel
theorem dX2_flag_20 : decode cX2_flag 20 = .ok (.iconst 3, 1) := by decide +kernel
theorem dX2_flag_21 : decode cX2_flag 21 = .ok (.invokestatic 46, 3) := by decide +kernel
theorem dX2_flag_24 : decode cX2_flag 24 = .ok (.aload_n 0, 1) := by decide +kernel
theorem dX2_flag_25 : decode cX2_flag 25 = .ok (.aload 5, 2) := by decide +kernel
theorem dX2_flag_27 : decode cX2_flag 27 = .ok (.iload_n 1, 1) := by decide +kernel
theorem dX2_flag_28 : decode cX2_flag 28 = .ok (.iload_n 2, 1) := by decide +kernel
theorem dX2_flag_29 : decode cX2_flag 29 = .ok (.iload_n 3, 1) := by decide +kernel
theorem dX2_flag_30 : decode cX2_flag 30 = .ok (.iload 4, 2) := by decide +kernel
theorem dX2_flag_32 : decode cX2_flag 32 = .ok (.invokevirtual 49, 3) := by decide +kernel
theorem dX2_flag_35 : decode cX2_flag 35 = .ok (.ireturn, 1) := by decide +kernel
set_option maxRecDepth 20000 in
theorem ggX2_clear_X2_replicaAt : GoodIn wsX2_clear wsX2_replicaAt := goodIn_ca (goodIn_r _ [5, 6, 7, 8, 79, 80, 81, 82, 83, 84] (by decide +kernel) (by decide +kernel)) (goodIn_sub (fun _ h => List.mem_cons_of_mem _ (List.mem_append_left _ (List.mem_append_right _ h))) (by decide +kernel))
set_option maxRecDepth 20000 in
theorem gX2_clear_X2_replicaAt : GoodIn wsX2_clear (wsV RX2 38 RX2 yX2_replicaAt wsX2_replicaAt) := goodIn_app (goodIn_of _ (by decide +kernel)) ggX2_clear_X2_replicaAt
set_option maxRecDepth 20000 in
theorem ggX2_clear_X2_requireIndex : GoodIn wsX2_clear wsX2_requireIndex := goodIn_ca (goodIn_r _ [11, 6, 7] (by decide +kernel) (by decide +kernel)) (goodIn_sub (fun _ h => List.mem_cons_of_mem _ (List.mem_append_left _ (List.mem_append_right _ h))) (by decide +kernel))
set_option maxRecDepth 20000 in
theorem gX2_clear_X2_requireIndex : GoodIn wsX2_clear (va_wsS RX2 42 yX2_requireIndex wsX2_requireIndex) := goodIn_app (goodIn_of _ (by decide +kernel)) ggX2_clear_X2_requireIndex
set_option maxRecDepth 20000 in
theorem ggX2_clear_X2_openDelta : GoodIn wsX2_clear wsX2_openDelta := goodIn_ca (goodIn_r _ [15, 16, 17, 18, 19, 20, 21, 22, 23, 24, 25, 26, 27, 28, 29, 30, 31, 32, 33, 34, 79, 80, 81, 82, 83, 84, 85, 86, 87, 88, 89] (by decide +kernel) (by decide +kernel)) (goodIn_sub (fun _ h => List.mem_cons_of_mem _ (List.mem_append_right _ h)) (by decide +kernel))
set_option maxRecDepth 20000 in
theorem gX2_clear_X2_openDelta : GoodIn wsX2_clear (wsV RX2 57 RX2 yX2_openDelta wsX2_openDelta) := goodIn_app (goodIn_of _ (by decide +kernel)) ggX2_clear_X2_openDelta
set_option maxRecDepth 20000 in
theorem ggX2_clear_X2_takeBack : GoodIn wsX2_clear wsX2_takeBack := goodIn_r _ [38, 39, 40, 41, 42, 43, 44, 22, 45, 30, 46, 47, 48, 49, 50, 51, 52, 53, 54, 55, 56, 57, 29, 79, 80, 81, 82, 83, 84, 90, 91, 92, 93, 94, 95, 96, 85, 86, 87, 88, 89] (by decide +kernel) (by decide +kernel)
set_option maxRecDepth 20000 in
theorem gX2_clear_X2_takeBack : GoodIn wsX2_clear (wsV RX2 61 RX2 yX2_takeBack wsX2_takeBack) := goodIn_app (goodIn_of _ (by decide +kernel)) ggX2_clear_X2_takeBack
set_option maxRecDepth 20000 in
theorem ggX2_clear_X2_finish : GoodIn wsX2_clear wsX2_finish := goodIn_r _ [61, 18, 62, 63, 64, 22, 65, 66, 67, 68, 69, 30, 29, 70, 71, 72, 73, 74, 33, 34, 75, 76, 77, 78, 32, 79, 80, 81, 82, 83, 84, 85, 86, 87, 88, 89] (by decide +kernel) (by decide +kernel)
set_option maxRecDepth 20000 in
theorem gX2_clear_X2_finish : GoodIn wsX2_clear (wsV RX2 72 RX2 yX2_finish wsX2_finish) := goodIn_app (goodIn_of _ (by decide +kernel)) ggX2_clear_X2_finish
theorem dX2_clear_0 : decode cX2_clear 0 = .ok (.aload_n 0, 1) := by decide +kernel
theorem dX2_clear_1 : decode cX2_clear 1 = .ok (.iload_n 1, 1) := by decide +kernel
theorem dX2_clear_2 : decode cX2_clear 2 = .ok (.invokevirtual 38, 3) := by decide +kernel
theorem dX2_clear_5 : decode cX2_clear 5 = .ok (.astore_n 3, 1) := by decide +kernel
theorem dX2_clear_6 : decode cX2_clear 6 = .ok (.iload_n 2, 1) := by decide +kernel
theorem dX2_clear_7 : decode cX2_clear 7 = .ok (.bipush 16, 2) := by decide +kernel
theorem dX2_clear_9 : decode cX2_clear 9 = .ok (.invokestatic 42, 3) := by decide +kernel
theorem dX2_clear_12 : decode cX2_clear 12 = .ok (.aload_n 0, 1) := by decide +kernel
theorem dX2_clear_13 : decode cX2_clear 13 = .ok (.invokevirtual 57, 3) := by decide +kernel
theorem dX2_clear_16 : decode cX2_clear 16 = .ok (.astore 4, 2) := by decide +kernel
theorem dX2_clear_18 : decode cX2_clear 18 = .ok (.aload_n 0, 1) := by decide +kernel
theorem dX2_clear_19 : decode cX2_clear 19 = .ok (.aload_n 3, 1) := by decide +kernel
theorem dX2_clear_20 : decode cX2_clear 20 = .ok (.aload 4, 2) := by decide +kernel
theorem dX2_clear_22 : decode cX2_clear 22 = .ok (.iload_n 2, 1) := by decide +kernel
theorem dX2_clear_23 : decode cX2_clear 23 = .ok (.iconst (-1), 1) := by decide +kernel
theorem dX2_clear_24 : decode cX2_clear 24 = .ok (.iconst (-1), 1) := by decide +kernel
theorem dX2_clear_25 : decode cX2_clear 25 = .ok (.invokevirtual 61, 3) := by decide +kernel
theorem dX2_clear_28 : decode cX2_clear 28 = .ok (.pop2, 1) := by decide +kernel
theorem dX2_clear_29 : decode cX2_clear 29 = .ok (.aload_n 0, 1) := by decide +kernel
theorem dX2_clear_30 : decode cX2_clear 30 = .ok (.aload_n 3, 1) := by decide +kernel
theorem dX2_clear_31 : decode cX2_clear 31 = .ok (.aload 4, 2) := by decide +kernel
theorem dX2_clear_33 : decode cX2_clear 33 = .ok (.invokevirtual 72, 3) := by decide +kernel
theorem dX2_clear_36 : decode cX2_clear 36 = .ok (.ireturn, 1) := by decide +kernel
set_option maxRecDepth 20000 in
theorem ggX2_twice_X2_replicaAt : GoodIn wsX2_twice wsX2_replicaAt := goodIn_ca (goodIn_r _ [7, 8, 9, 10, 63, 64, 65, 66, 67, 68] (by decide +kernel) (by decide +kernel)) (goodIn_sub (fun _ h => List.mem_cons_of_mem _ (List.mem_append_left _ (List.mem_append_right _ h))) (by decide +kernel))
set_option maxRecDepth 20000 in
theorem gX2_twice_X2_replicaAt : GoodIn wsX2_twice (wsV RX2 38 RX2 yX2_replicaAt wsX2_replicaAt) := goodIn_app (goodIn_of _ (by decide +kernel)) ggX2_twice_X2_replicaAt
set_option maxRecDepth 20000 in
theorem ggX2_twice_X2_requireIndex : GoodIn wsX2_twice wsX2_requireIndex := goodIn_ca (goodIn_r _ [13, 8, 9] (by decide +kernel) (by decide +kernel)) (goodIn_sub (fun _ h => List.mem_cons_of_mem _ (List.mem_append_left _ (List.mem_append_right _ h))) (by decide +kernel))
set_option maxRecDepth 20000 in
theorem gX2_twice_X2_requireIndex : GoodIn wsX2_twice (va_wsS RX2 42 yX2_requireIndex wsX2_requireIndex) := goodIn_app (goodIn_of _ (by decide +kernel)) ggX2_twice_X2_requireIndex
set_option maxRecDepth 20000 in
theorem ggX2_twice_X2_openDelta : GoodIn wsX2_twice wsX2_openDelta := goodIn_ca (goodIn_r _ [17, 18, 19, 20, 21, 22, 23, 24, 25, 26, 27, 28, 29, 30, 31, 32, 33, 34, 35, 36, 63, 64, 65, 66, 67, 68, 58, 59, 60, 61, 62] (by decide +kernel) (by decide +kernel)) (goodIn_sub (fun _ h => List.mem_cons_of_mem _ (List.mem_append_right _ h)) (by decide +kernel))
set_option maxRecDepth 20000 in
theorem gX2_twice_X2_openDelta : GoodIn wsX2_twice (wsV RX2 57 RX2 yX2_openDelta wsX2_openDelta) := goodIn_app (goodIn_of _ (by decide +kernel)) ggX2_twice_X2_openDelta
set_option maxRecDepth 20000 in
theorem ggX2_twice_X2_finish : GoodIn wsX2_twice wsX2_finish := goodIn_r _ [40, 20, 41, 42, 43, 24, 44, 45, 46, 47, 48, 32, 31, 49, 50, 51, 52, 53, 35, 36, 54, 55, 56, 57, 34, 63, 64, 65, 66, 67, 68, 58, 59, 60, 61, 62] (by decide +kernel) (by decide +kernel)
set_option maxRecDepth 20000 in
theorem gX2_twice_X2_finish : GoodIn wsX2_twice (wsV RX2 72 RX2 yX2_finish wsX2_finish) := goodIn_app (goodIn_of _ (by decide +kernel)) ggX2_twice_X2_finish
theorem dX2_twice_0 : decode cX2_twice 0 = .ok (.aload_n 0, 1) := by decide +kernel
theorem dX2_twice_1 : decode cX2_twice 1 = .ok (.iload_n 1, 1) := by decide +kernel
theorem dX2_twice_2 : decode cX2_twice 2 = .ok (.invokevirtual 38, 3) := by decide +kernel
theorem dX2_twice_5 : decode cX2_twice 5 = .ok (.astore 4, 2) := by decide +kernel
theorem dX2_twice_7 : decode cX2_twice 7 = .ok (.iload_n 2, 1) := by decide +kernel
theorem dX2_twice_8 : decode cX2_twice 8 = .ok (.bipush 32, 2) := by decide +kernel
theorem dX2_twice_10 : decode cX2_twice 10 = .ok (.invokestatic 42, 3) := by decide +kernel
theorem dX2_twice_13 : decode cX2_twice 13 = .ok (.aload_n 0, 1) := by decide +kernel
theorem dX2_twice_14 : decode cX2_twice 14 = .ok (.invokevirtual 57, 3) := by decide +kernel
theorem dX2_twice_17 : decode cX2_twice 17 = .ok (.astore 5, 2) := by decide +kernel
theorem dX2_twice_19 : decode cX2_twice 19 = .ok (.iload_n 3, 1) := by decide +kernel
theorem dX2_twice_20 : decode cX2_twice 20 = .ok (.ifCond .eq 14, 3) := by decide +kernel
theorem dX2_twice_23 : decode cX2_twice 23 = .ok (.aload 5, 2) := by decide +kernel
theorem dX2_twice_25 : decode cX2_twice 25 = .ok (.iconst 1, 1) := by decide +kernel
theorem dX2_twice_26 : decode cX2_twice 26 = .ok (.iload_n 2, 1) := by decide +kernel
theorem dX2_twice_27 : decode cX2_twice 27 = .ok (.ishl, 1) := by decide +kernel
theorem dX2_twice_28 : decode cX2_twice 28 = .ok (.putfield 76, 3) := by decide +kernel
theorem dX2_twice_31 : decode cX2_twice 31 = .ok (.goto 11, 3) := by decide +kernel
theorem dX2_twice_34 : decode cX2_twice 34 = .ok (.aload 5, 2) := by decide +kernel
theorem dX2_twice_36 : decode cX2_twice 36 = .ok (.iconst 1, 1) := by decide +kernel
theorem dX2_twice_37 : decode cX2_twice 37 = .ok (.iload_n 2, 1) := by decide +kernel
theorem dX2_twice_38 : decode cX2_twice 38 = .ok (.ishl, 1) := by decide +kernel
theorem dX2_twice_39 : decode cX2_twice 39 = .ok (.putfield 79, 3) := by decide +kernel
theorem dX2_twice_42 : decode cX2_twice 42 = .ok (.aload_n 0, 1) := by decide +kernel
theorem dX2_twice_43 : decode cX2_twice 43 = .ok (.aload 4, 2) := by decide +kernel
theorem dX2_twice_45 : decode cX2_twice 45 = .ok (.aload 5, 2) := by decide +kernel
theorem dX2_twice_47 : decode cX2_twice 47 = .ok (.invokevirtual 72, 3) := by decide +kernel
theorem dX2_twice_50 : decode cX2_twice 50 = .ok (.ireturn, 1) := by decide +kernel
set_option maxRecDepth 20000 in
theorem ggX2_timed_X2_replicaAt : GoodIn wsX2_timed wsX2_replicaAt := goodIn_ca (goodIn_r _ [6, 7, 8, 9, 74, 75, 76, 77, 78, 79] (by decide +kernel) (by decide +kernel)) (goodIn_sub (fun _ h => List.mem_cons_of_mem _ (List.mem_append_left _ (List.mem_append_left _ (List.mem_append_right _ h)))) (by decide +kernel))
set_option maxRecDepth 20000 in
theorem gX2_timed_X2_replicaAt : GoodIn wsX2_timed (wsV RX2 38 RX2 yX2_replicaAt wsX2_replicaAt) := goodIn_app (goodIn_of _ (by decide +kernel)) ggX2_timed_X2_replicaAt
set_option maxRecDepth 20000 in
theorem ggX2_timed_X2_requireIndex : GoodIn wsX2_timed wsX2_requireIndex := goodIn_ca (goodIn_r _ [12, 7, 8] (by decide +kernel) (by decide +kernel)) (goodIn_sub (fun _ h => List.mem_cons_of_mem _ (List.mem_append_left _ (List.mem_append_left _ (List.mem_append_right _ h)))) (by decide +kernel))
set_option maxRecDepth 20000 in
theorem gX2_timed_X2_requireIndex : GoodIn wsX2_timed (va_wsS RX2 42 yX2_requireIndex wsX2_requireIndex) := goodIn_app (goodIn_of _ (by decide +kernel)) ggX2_timed_X2_requireIndex
set_option maxRecDepth 20000 in
theorem ggX2_timed_X2_requireTime : GoodIn wsX2_timed wsX2_requireTime := goodIn_ca (goodIn_r _ [15, 16, 17, 18] (by decide +kernel) (by decide +kernel)) (goodIn_sub (fun _ h => List.mem_cons_of_mem _ (List.mem_append_left _ (List.mem_append_right _ h))) (by decide +kernel))
set_option maxRecDepth 20000 in
theorem gX2_timed_X2_requireTime : GoodIn wsX2_timed (va_wsS RX2 82 yX2_requireTime wsX2_requireTime) := goodIn_app (goodIn_of _ (by decide +kernel)) ggX2_timed_X2_requireTime
set_option maxRecDepth 20000 in
theorem ggX2_timed_X2_openDelta : GoodIn wsX2_timed wsX2_openDelta := goodIn_ca (goodIn_r _ [22, 23, 24, 25, 26, 27, 28, 29, 30, 31, 32, 33, 34, 35, 36, 37, 38, 39, 40, 41, 74, 75, 76, 77, 78, 79, 69, 70, 71, 72, 73] (by decide +kernel) (by decide +kernel)) (goodIn_sub (fun _ h => List.mem_cons_of_mem _ (List.mem_append_right _ h)) (by decide +kernel))
set_option maxRecDepth 20000 in
theorem gX2_timed_X2_openDelta : GoodIn wsX2_timed (wsV RX2 57 RX2 yX2_openDelta wsX2_openDelta) := goodIn_app (goodIn_of _ (by decide +kernel)) ggX2_timed_X2_openDelta
set_option maxRecDepth 20000 in
theorem ggX2_timed_X2_stamp : GoodIn wsX2_timed wsX2_stamp := goodIn_r _ [44, 45, 46, 5, 47] (by decide +kernel) (by decide +kernel)
set_option maxRecDepth 20000 in
theorem gX2_timed_X2_stamp : GoodIn wsX2_timed (va_wsS RX2 89 yX2_stamp wsX2_stamp) := goodIn_app (goodIn_of _ (by decide +kernel)) ggX2_timed_X2_stamp
set_option maxRecDepth 20000 in
theorem ggX2_timed_X2_finish : GoodIn wsX2_timed wsX2_finish := goodIn_r _ [51, 25, 52, 53, 54, 29, 55, 56, 57, 58, 59, 37, 36, 60, 61, 62, 63, 64, 40, 41, 65, 66, 67, 68, 39, 74, 75, 76, 77, 78, 79, 69, 70, 71, 72, 73] (by decide +kernel) (by decide +kernel)
set_option maxRecDepth 20000 in
theorem gX2_timed_X2_finish : GoodIn wsX2_timed (wsV RX2 72 RX2 yX2_finish wsX2_finish) := goodIn_app (goodIn_of _ (by decide +kernel)) ggX2_timed_X2_finish
theorem dX2_timed_0 : decode cX2_timed 0 = .ok (.aload_n 0, 1) := by decide +kernel
theorem dX2_timed_1 : decode cX2_timed 1 = .ok (.iload_n 1, 1) := by decide +kernel
theorem dX2_timed_2 : decode cX2_timed 2 = .ok (.invokevirtual 38, 3) := by decide +kernel
theorem dX2_timed_5 : decode cX2_timed 5 = .ok (.astore 5, 2) := by decide +kernel
theorem dX2_timed_7 : decode cX2_timed 7 = .ok (.iload_n 2, 1) := by decide +kernel
theorem dX2_timed_8 : decode cX2_timed 8 = .ok (.bipush 32, 2) := by decide +kernel
theorem dX2_timed_10 : decode cX2_timed 10 = .ok (.invokestatic 42, 3) := by decide +kernel
theorem dX2_timed_13 : decode cX2_timed 13 = .ok (.iload_n 3, 1) := by decide +kernel
theorem dX2_timed_14 : decode cX2_timed 14 = .ok (.invokestatic 82, 3) := by decide +kernel
theorem dX2_timed_17 : decode cX2_timed 17 = .ok (.aload_n 0, 1) := by decide +kernel
theorem dX2_timed_18 : decode cX2_timed 18 = .ok (.invokevirtual 57, 3) := by decide +kernel
theorem dX2_timed_21 : decode cX2_timed 21 = .ok (.astore 6, 2) := by decide +kernel
theorem dX2_timed_23 : decode cX2_timed 23 = .ok (.aload 6, 2) := by decide +kernel
theorem dX2_timed_25 : decode cX2_timed 25 = .ok (.getfield 85, 3) := by decide +kernel
theorem dX2_timed_28 : decode cX2_timed 28 = .ok (.iload_n 2, 1) := by decide +kernel
theorem dX2_timed_29 : decode cX2_timed 29 = .ok (.iload_n 3, 1) := by decide +kernel
theorem dX2_timed_30 : decode cX2_timed 30 = .ok (.iload_n 1, 1) := by decide +kernel
theorem dX2_timed_31 : decode cX2_timed 31 = .ok (.iload 4, 2) := by decide +kernel
theorem dX2_timed_33 : decode cX2_timed 33 = .ok (.invokestatic 89, 3) := by decide +kernel
theorem dX2_timed_36 : decode cX2_timed 36 = .ok (.iastore, 1) := by decide +kernel
theorem dX2_timed_37 : decode cX2_timed 37 = .ok (.aload_n 0, 1) := by decide +kernel
theorem dX2_timed_38 : decode cX2_timed 38 = .ok (.aload 5, 2) := by decide +kernel
theorem dX2_timed_40 : decode cX2_timed 40 = .ok (.aload 6, 2) := by decide +kernel
theorem dX2_timed_42 : decode cX2_timed 42 = .ok (.invokevirtual 72, 3) := by decide +kernel
theorem dX2_timed_45 : decode cX2_timed 45 = .ok (.ireturn, 1) := by decide +kernel
set_option maxRecDepth 20000 in
theorem ggX2_join_X2_replicaAt : GoodIn wsX2_join wsX2_replicaAt := goodIn_ca (goodIn_r _ [5, 6, 7, 8, 40, 41, 42, 43, 44, 45] (by decide +kernel) (by decide +kernel)) (goodIn_sub (fun _ h => List.mem_cons_of_mem _ (List.mem_append_right _ h)) (by decide +kernel))
set_option maxRecDepth 20000 in
theorem gX2_join_X2_replicaAt : GoodIn wsX2_join (wsV RX2 38 RX2 yX2_replicaAt wsX2_replicaAt) := goodIn_app (goodIn_of _ (by decide +kernel)) ggX2_join_X2_replicaAt
set_option maxRecDepth 20000 in
theorem ggX2_join_X2_deltaAt : GoodIn wsX2_join wsX2_deltaAt := goodIn_ca (goodIn_r _ [12, 6, 7, 13, 40, 41, 42, 43, 44, 45] (by decide +kernel) (by decide +kernel)) (goodIn_sub (fun _ h => List.mem_cons_of_mem _ (List.mem_append_right _ h)) (by decide +kernel))
set_option maxRecDepth 20000 in
theorem gX2_join_X2_deltaAt : GoodIn wsX2_join (wsV RX2 93 RX2 yX2_deltaAt wsX2_deltaAt) := goodIn_app (goodIn_of _ (by decide +kernel)) ggX2_join_X2_deltaAt
set_option maxRecDepth 20000 in
theorem ggX2_join_X1_take : GoodIn wsX2_join wsX1_take := goodIn_r _ [18, 19, 20, 21, 17, 22, 23, 24, 25, 26, 27, 28, 29, 30, 31, 32, 33, 34, 35, 36, 46, 47, 48, 49, 50] (by decide +kernel) (by decide +kernel)
set_option maxRecDepth 20000 in
theorem gX2_join_X1_take : GoodIn wsX2_join (wsV RX2 96 RX1 yX1_take wsX1_take) := goodIn_app (goodIn_of _ (by decide +kernel)) ggX2_join_X1_take
set_option maxRecDepth 20000 in
theorem ggX2_join_X2_bit : GoodIn wsX2_join wsX2_bit := goodIn_r _ [39] (by decide +kernel) (by decide +kernel)
set_option maxRecDepth 20000 in
theorem gX2_join_X2_bit : GoodIn wsX2_join (va_wsS RX2 100 yX2_bit wsX2_bit) := goodIn_app (goodIn_of _ (by decide +kernel)) ggX2_join_X2_bit
theorem dX2_join_0 : decode cX2_join 0 = .ok (.aload_n 0, 1) := by decide +kernel
theorem dX2_join_1 : decode cX2_join 1 = .ok (.iload_n 1, 1) := by decide +kernel
theorem dX2_join_2 : decode cX2_join 2 = .ok (.invokevirtual 38, 3) := by decide +kernel
theorem dX2_join_5 : decode cX2_join 5 = .ok (.astore_n 3, 1) := by decide +kernel
theorem dX2_join_6 : decode cX2_join 6 = .ok (.aload_n 3, 1) := by decide +kernel
theorem dX2_join_7 : decode cX2_join 7 = .ok (.aload_n 0, 1) := by decide +kernel
theorem dX2_join_8 : decode cX2_join 8 = .ok (.iload_n 2, 1) := by decide +kernel
theorem dX2_join_9 : decode cX2_join 9 = .ok (.invokevirtual 93, 3) := by decide +kernel
theorem dX2_join_12 : decode cX2_join 12 = .ok (.invokevirtual 96, 3) := by decide +kernel
theorem dX2_join_15 : decode cX2_join 15 = .ok (.invokestatic 100, 3) := by decide +kernel
theorem dX2_join_18 : decode cX2_join 18 = .ok (.ireturn, 1) := by decide +kernel
set_option maxRecDepth 20000 in
theorem ggX2_merge_X2_replicaAt : GoodIn wsX2_merge wsX2_replicaAt := goodIn_ca (goodIn_r _ [5, 6, 7, 8, 35, 36, 37, 38, 39, 40] (by decide +kernel) (by decide +kernel)) (goodIn_sub (fun _ h => List.mem_cons_of_mem _ (List.mem_append_right _ h)) (by decide +kernel))
set_option maxRecDepth 20000 in
theorem gX2_merge_X2_replicaAt : GoodIn wsX2_merge (wsV RX2 38 RX2 yX2_replicaAt wsX2_replicaAt) := goodIn_app (goodIn_of _ (by decide +kernel)) ggX2_merge_X2_replicaAt
set_option maxRecDepth 20000 in
theorem ggX2_merge_X1_take : GoodIn wsX2_merge wsX1_take := goodIn_r _ [13, 14, 15, 16, 12, 17, 18, 19, 20, 21, 22, 23, 24, 25, 26, 27, 28, 29, 30, 31, 41, 42, 43, 44, 45] (by decide +kernel) (by decide +kernel)
set_option maxRecDepth 20000 in
theorem gX2_merge_X1_take : GoodIn wsX2_merge (wsV RX2 96 RX1 yX1_take wsX1_take) := goodIn_app (goodIn_of _ (by decide +kernel)) ggX2_merge_X1_take
set_option maxRecDepth 20000 in
theorem ggX2_merge_X2_bit : GoodIn wsX2_merge wsX2_bit := goodIn_r _ [34] (by decide +kernel) (by decide +kernel)
set_option maxRecDepth 20000 in
theorem gX2_merge_X2_bit : GoodIn wsX2_merge (va_wsS RX2 100 yX2_bit wsX2_bit) := goodIn_app (goodIn_of _ (by decide +kernel)) ggX2_merge_X2_bit
theorem dX2_merge_0 : decode cX2_merge 0 = .ok (.aload_n 0, 1) := by decide +kernel
theorem dX2_merge_1 : decode cX2_merge 1 = .ok (.iload_n 1, 1) := by decide +kernel
theorem dX2_merge_2 : decode cX2_merge 2 = .ok (.invokevirtual 38, 3) := by decide +kernel
theorem dX2_merge_5 : decode cX2_merge 5 = .ok (.astore_n 3, 1) := by decide +kernel
theorem dX2_merge_6 : decode cX2_merge 6 = .ok (.aload_n 3, 1) := by decide +kernel
