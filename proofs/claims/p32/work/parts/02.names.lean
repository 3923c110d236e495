def RX0 : String := "ChainParts$Cells"
def TX0 : u_T := fun k => match k with
  | _ => ("ChainParts$Cells", "slots", "[I", true)
def tyX0 : Nat → FieldType := fun k => match k with
  | _ => .array .int
set_option maxRecDepth 20000 in
theorem nmX0 : ∀ a, a < 1 → ∀ b, b < 1 → a ≠ b → (TX0 a).2.1 ≠ (TX0 b).2.1 := by decide +kernel
set_option maxRecDepth 20000 in
theorem tyX0_ok : ∀ k, k < 1 → parseFieldDescriptor (TX0 k).2.2.1 = some (tyX0 k) := by decide +kernel
abbrev cX0_init : ByteArray := prog_2_method_1_code
def yX0_init : MethodName := ⟨RX0, "<init>", "()V"⟩
abbrev cX0_row : ByteArray := prog_2_method_2_code
def yX0_row : MethodName := ⟨RX0, "row", "()[I"⟩
abbrev cX0_clear : ByteArray := prog_2_method_3_code
def yX0_clear : MethodName := ⟨RX0, "clear", "()V"⟩
abbrev cX0_saveTo : ByteArray := prog_2_method_4_code
def yX0_saveTo : MethodName := ⟨RX0, "saveTo", "([I)V"⟩
abbrev cX0_loadFrom : ByteArray := prog_2_method_5_code
def yX0_loadFrom : MethodName := ⟨RX0, "loadFrom", "([I)V"⟩
abbrev cX0_slot : ByteArray := prog_2_method_7_code
def yX0_slot : MethodName := ⟨RX0, "slot", "(I)I"⟩
abbrev cX0_setSlot : ByteArray := prog_2_method_8_code
def yX0_setSlot : MethodName := ⟨RX0, "setSlot", "(II)V"⟩
abbrev cX0_isThere : ByteArray := prog_2_method_9_code
def yX0_isThere : MethodName := ⟨RX0, "isThere", "()Z"⟩
abbrev cX0_sizeOf : ByteArray := prog_2_method_10_code
def yX0_sizeOf : MethodName := ⟨RX0, "sizeOf", "(I)I"⟩
abbrev cX0_hasCell : ByteArray := prog_2_method_11_code
def yX0_hasCell : MethodName := ⟨RX0, "hasCell", "(II)Z"⟩
abbrev cX0_setPoints : ByteArray := prog_2_method_12_code
def yX0_setPoints : MethodName := ⟨RX0, "setPoints", "(I)V"⟩
abbrev cX0_fromOf : ByteArray := prog_2_method_13_code
def yX0_fromOf : MethodName := ⟨RX0, "fromOf", "(I)I"⟩
abbrev cX0_toOf : ByteArray := prog_2_method_14_code
def yX0_toOf : MethodName := ⟨RX0, "toOf", "(I)I"⟩
abbrev cX0_weightOf : ByteArray := prog_2_method_15_code
def yX0_weightOf : MethodName := ⟨RX0, "weightOf", "(II)I"⟩
abbrev cX0_setWeight : ByteArray := prog_2_method_16_code
def yX0_setWeight : MethodName := ⟨RX0, "setWeight", "(III)V"⟩
abbrev cX0_wordSize : ByteArray := prog_2_method_17_code
def yX0_wordSize : MethodName := ⟨RX0, "wordSize", "(I)I"⟩
abbrev cX0_letterAt : ByteArray := prog_2_method_18_code
def yX0_letterAt : MethodName := ⟨RX0, "letterAt", "(II)I"⟩
abbrev cX0_numberAt : ByteArray := prog_2_method_19_code
def yX0_numberAt : MethodName := ⟨RX0, "numberAt", "(II)I"⟩
abbrev cX0_setNumber : ByteArray := prog_2_method_20_code
def yX0_setNumber : MethodName := ⟨RX0, "setNumber", "(III)V"⟩
abbrev cX0_beginOf : ByteArray := prog_2_method_21_code
def yX0_beginOf : MethodName := ⟨RX0, "beginOf", "(I)I"⟩
abbrev cX0_endOf : ByteArray := prog_2_method_22_code
def yX0_endOf : MethodName := ⟨RX0, "endOf", "(I)I"⟩
abbrev cX0_addEdge : ByteArray := prog_2_method_23_code
def yX0_addEdge : MethodName := ⟨RX0, "addEdge", "(III)V"⟩
abbrev cX0_addFace : ByteArray := prog_2_method_24_code
def yX0_addFace : MethodName := ⟨RX0, "addFace", "(LChainParts$Word;I)V"⟩
abbrev cX0_isSewn : ByteArray := prog_2_method_25_code
def yX0_isSewn : MethodName := ⟨RX0, "isSewn", "(I)Z"⟩
abbrev cX0_removeEdge : ByteArray := prog_2_method_26_code
def yX0_removeEdge : MethodName := ⟨RX0, "removeEdge", "(I)V"⟩
abbrev cX0_lowerLettersBehind : ByteArray := prog_2_method_27_code
def yX0_lowerLettersBehind : MethodName := ⟨RX0, "lowerLettersBehind", "(I)V"⟩
abbrev cX0_removeFace : ByteArray := prog_2_method_28_code
def yX0_removeFace : MethodName := ⟨RX0, "removeFace", "(I)V"⟩
abbrev cX0_isOfKind : ByteArray := prog_2_method_29_code
def yX0_isOfKind : MethodName := ⟨RX0, "isOfKind", "(III)Z"⟩
abbrev cX0_isSealed : ByteArray := prog_2_method_30_code
def yX0_isSealed : MethodName := ⟨RX0, "isSealed", "(I)Z"⟩
abbrev cX0_entryOf : ByteArray := prog_2_method_31_code
def yX0_entryOf : MethodName := ⟨RX0, "entryOf", "(III)I"⟩
abbrev cX0_nearOf : ByteArray := prog_2_method_32_code
def yX0_nearOf : MethodName := ⟨RX0, "nearOf", "(III)I"⟩
abbrev cX0_numbersNotZero : ByteArray := prog_2_method_33_code
def yX0_numbersNotZero : MethodName := ⟨RX0, "numbersNotZero", "(I)I"⟩
abbrev cX0_boundaryAt : ByteArray := prog_2_method_34_code
def yX0_boundaryAt : MethodName := ⟨RX0, "boundaryAt", "(II)I"⟩
def RX1 : String := "ChainParts$Grid"
def TX1 : u_T := fun k => match k with
  | 0 => ("ChainParts$Grid", "values", "[[J", true)
  | 1 => ("ChainParts$Grid", "minorRow", "[J", true)
  | 2 => ("ChainParts$Grid", "rows", "I", false)
  | _ => ("ChainParts$Grid", "columns", "I", false)
def tyX1 : Nat → FieldType := fun k => match k with
  | 0 => .array (.array .long)
  | 1 => .array .long
  | 2 => .int
  | _ => .int
set_option maxRecDepth 20000 in
theorem nmX1 : ∀ a, a < 4 → ∀ b, b < 4 → a ≠ b → (TX1 a).2.1 ≠ (TX1 b).2.1 := by decide +kernel
set_option maxRecDepth 20000 in
theorem tyX1_ok : ∀ k, k < 4 → parseFieldDescriptor (TX1 k).2.2.1 = some (tyX1 k) := by decide +kernel
abbrev cX1_init : ByteArray := prog_3_method_1_code
def yX1_init : MethodName := ⟨RX1, "<init>", "()V"⟩
abbrev cX1_loadTable : ByteArray := prog_3_method_2_code
def yX1_loadTable : MethodName := ⟨RX1, "loadTable", "(LChainParts$Cells;I)V"⟩
abbrev cX1_allColumns : ByteArray := prog_3_method_5_code
def yX1_allColumns : MethodName := ⟨RX1, "allColumns", "()I"⟩
abbrev cX1_minorOf : ByteArray := prog_3_method_6_code
def yX1_minorOf : MethodName := ⟨RX1, "minorOf", "(II)J"⟩
abbrev cX1_fillMinors : ByteArray := prog_3_method_7_code
def yX1_fillMinors : MethodName := ⟨RX1, "fillMinors", "()V"⟩
abbrev cX1_expandedMinor : ByteArray := prog_3_method_8_code
def yX1_expandedMinor : MethodName := ⟨RX1, "expandedMinor", "(II)J"⟩
abbrev cX1_rankBy : ByteArray := prog_3_method_9_code
def yX1_rankBy : MethodName := ⟨RX1, "rankBy", "(II)I"⟩
abbrev cX1_isZero : ByteArray := prog_3_method_10_code
def yX1_isZero : MethodName := ⟨RX1, "isZero", "(JI)Z"⟩
def RX2 : String := "ChainParts$Split"
def TX2 : u_T := fun k => match k with
  | 0 => ("ChainParts$Split", "above", "[J", true)
  | 1 => ("ChainParts$Split", "below", "J", false)
  | 2 => ("ChainParts$Split", "edges", "I", false)
  | 3 => ("ChainParts$Split", "numbers", "[J", true)
  | 4 => ("ChainParts$Split", "measure", "[J", true)
  | 5 => ("ChainParts$Split", "rays", "[[J", true)
  | 6 => ("ChainParts$Split", "rayCount", "I", false)
  | 7 => ("ChainParts$Split", "system", "[[J", true)
  | 8 => ("ChainParts$Split", "shadow", "[J", true)
  | _ => ("ChainParts$Split", "shadowBelow", "J", false)
def tyX2 : Nat → FieldType := fun k => match k with
  | 0 => .array .long
  | 1 => .long
  | 2 => .int
  | 3 => .array .long
  | 4 => .array .long
  | 5 => .array (.array .long)
  | 6 => .int
  | 7 => .array (.array .long)
  | 8 => .array .long
  | _ => .long
set_option maxRecDepth 20000 in
theorem nmX2 : ∀ a, a < 10 → ∀ b, b < 10 → a ≠ b → (TX2 a).2.1 ≠ (TX2 b).2.1 := by decide +kernel
set_option maxRecDepth 20000 in
theorem tyX2_ok : ∀ k, k < 10 → parseFieldDescriptor (TX2 k).2.2.1 = some (tyX2 k) := by decide +kernel
abbrev cX2_init : ByteArray := prog_4_method_1_code
def yX2_init : MethodName := ⟨RX2, "<init>", "()V"⟩
def RX3 : String := "ChainParts$Tape"
def TX3 : u_T := fun k => match k with
  | 0 => ("ChainParts$Tape", "bytes", "[I", true)
  | 1 => ("ChainParts$Tape", "size", "I", false)
  | 2 => ("ChainParts$Tape", "place", "I", false)
  | _ => ("ChainParts$Tape", "faultRead", "I", false)
def tyX3 : Nat → FieldType := fun k => match k with
  | 0 => .array .int
  | 1 => .int
  | 2 => .int
  | _ => .int
set_option maxRecDepth 20000 in
theorem nmX3 : ∀ a, a < 4 → ∀ b, b < 4 → a ≠ b → (TX3 a).2.1 ≠ (TX3 b).2.1 := by decide +kernel
set_option maxRecDepth 20000 in
theorem tyX3_ok : ∀ k, k < 4 → parseFieldDescriptor (TX3 k).2.2.1 = some (tyX3 k) := by decide +kernel
abbrev cX3_init : ByteArray := prog_5_method_1_code
def yX3_init : MethodName := ⟨RX3, "<init>", "()V"⟩
abbrev cX3_append : ByteArray := prog_5_method_2_code
def yX3_append : MethodName := ⟨RX3, "append", "(I)Z"⟩
abbrev cX3_clear : ByteArray := prog_5_method_3_code
def yX3_clear : MethodName := ⟨RX3, "clear", "()V"⟩
abbrev cX3_size : ByteArray := prog_5_method_4_code
def yX3_size : MethodName := ⟨RX3, "size", "()I"⟩
abbrev cX3_place : ByteArray := prog_5_method_5_code
def yX3_place : MethodName := ⟨RX3, "place", "()I"⟩
abbrev cX3_faultRead : ByteArray := prog_5_method_6_code
def yX3_faultRead : MethodName := ⟨RX3, "faultRead", "()I"⟩
abbrev cX3_token : ByteArray := prog_5_method_7_code
def yX3_token : MethodName := ⟨RX3, "token", "(I)I"⟩
abbrev cX3_readWord : ByteArray := prog_5_method_8_code
def yX3_readWord : MethodName := ⟨RX3, "readWord", "(LChainParts$Cells;LChainParts$Word;)Z"⟩
abbrev cX3_readComplex : ByteArray := prog_5_method_9_code
def yX3_readComplex : MethodName := ⟨RX3, "readComplex", "(LChainParts$Cells;LChainParts$Word;)Z"⟩
abbrev cX3_readEdge : ByteArray := prog_5_method_10_code
def yX3_readEdge : MethodName := ⟨RX3, "readEdge", "(LChainParts$Cells;)V"⟩
abbrev cX3_readFace : ByteArray := prog_5_method_11_code
def yX3_readFace : MethodName := ⟨RX3, "readFace", "(LChainParts$Cells;LChainParts$Word;)V"⟩
abbrev cX3_takeSign : ByteArray := prog_5_method_12_code
def yX3_takeSign : MethodName := ⟨RX3, "takeSign", "(I)V"⟩
abbrev cX3_takeDigit : ByteArray := prog_5_method_13_code
def yX3_takeDigit : MethodName := ⟨RX3, "takeDigit", "(II)I"⟩
def RX4 : String := "ChainParts$Word"
def TX4 : u_T := fun k => match k with
  | 0 => ("ChainParts$Word", "letters", "[I", true)
  | _ => ("ChainParts$Word", "size", "I", false)
def tyX4 : Nat → FieldType := fun k => match k with
  | 0 => .array .int
  | _ => .int
set_option maxRecDepth 20000 in
theorem nmX4 : ∀ a, a < 2 → ∀ b, b < 2 → a ≠ b → (TX4 a).2.1 ≠ (TX4 b).2.1 := by decide +kernel
set_option maxRecDepth 20000 in
theorem tyX4_ok : ∀ k, k < 2 → parseFieldDescriptor (TX4 k).2.2.1 = some (tyX4 k) := by decide +kernel
abbrev cX4_init : ByteArray := prog_6_method_1_code
def yX4_init : MethodName := ⟨RX4, "<init>", "()V"⟩
abbrev cX4_isBackward : ByteArray := prog_6_method_2_code
def yX4_isBackward : MethodName := ⟨RX4, "isBackward", "(I)Z"⟩
abbrev cX4_edgeOf : ByteArray := prog_6_method_3_code
def yX4_edgeOf : MethodName := ⟨RX4, "edgeOf", "(I)I"⟩
abbrev cX4_clear : ByteArray := prog_6_method_4_code
def yX4_clear : MethodName := ⟨RX4, "clear", "()V"⟩
abbrev cX4_size : ByteArray := prog_6_method_5_code
def yX4_size : MethodName := ⟨RX4, "size", "()I"⟩
abbrev cX4_letterAt : ByteArray := prog_6_method_6_code
def yX4_letterAt : MethodName := ⟨RX4, "letterAt", "(I)I"⟩
abbrev cX4_append : ByteArray := prog_6_method_7_code
def yX4_append : MethodName := ⟨RX4, "append", "(LChainParts$Cells;I)Z"⟩
abbrev cX4_isClosed : ByteArray := prog_6_method_8_code
def yX4_isClosed : MethodName := ⟨RX4, "isClosed", "(LChainParts$Cells;)Z"⟩
def RX5 : String := "ChainParts"
def TX5 : u_T := fun k => match k with
  | 0 => ("ChainParts", "cells", "LChainParts$Cells;", true)
  | 1 => ("ChainParts", "fresh", "LChainParts$Cells;", true)
  | 2 => ("ChainParts", "tape", "LChainParts$Tape;", true)
  | 3 => ("ChainParts", "word", "LChainParts$Word;", true)
  | 4 => ("ChainParts", "grid", "LChainParts$Grid;", true)
  | 5 => ("ChainParts", "split", "LChainParts$Split;", true)
  | 6 => ("ChainParts", "kept", "[[I", true)
  | 7 => ("ChainParts", "images", "[[I", true)
  | 8 => ("ChainParts", "newest", "I", false)
  | 9 => ("ChainParts", "acts", "I", false)
  | _ => ("ChainParts", "latestFault", "I", false)
def tyX5 : Nat → FieldType := fun k => match k with
  | 0 => .object "ChainParts$Cells"
  | 1 => .object "ChainParts$Cells"
  | 2 => .object "ChainParts$Tape"
  | 3 => .object "ChainParts$Word"
  | 4 => .object "ChainParts$Grid"
  | 5 => .object "ChainParts$Split"
  | 6 => .array (.array .int)
  | 7 => .array (.array .int)
  | 8 => .int
  | 9 => .int
  | _ => .int
set_option maxRecDepth 20000 in
theorem nmX5 : ∀ a, a < 11 → ∀ b, b < 11 → a ≠ b → (TX5 a).2.1 ≠ (TX5 b).2.1 := by decide +kernel
set_option maxRecDepth 20000 in
theorem tyX5_ok : ∀ k, k < 11 → parseFieldDescriptor (TX5 k).2.2.1 = some (tyX5 k) := by decide +kernel
abbrev cX5_init : ByteArray := prog_1_method_1_code
def yX5_init : MethodName := ⟨RX5, "<init>", "()V"⟩
abbrev cX5_feed : ByteArray := prog_1_method_2_code
def yX5_feed : MethodName := ⟨RX5, "feed", "(I)I"⟩
abbrev cX5_complex : ByteArray := prog_1_method_3_code
def yX5_complex : MethodName := ⟨RX5, "complex", "()I"⟩
abbrev cX5_weigh : ByteArray := prog_1_method_6_code
def yX5_weigh : MethodName := ⟨RX5, "weigh", "(III)I"⟩
abbrev cX5_edge : ByteArray := prog_1_method_7_code
def yX5_edge : MethodName := ⟨RX5, "edge", "(III)I"⟩
abbrev cX5_face : ByteArray := prog_1_method_8_code
def yX5_face : MethodName := ⟨RX5, "face", "(I)I"⟩
abbrev cX5_drop : ByteArray := prog_1_method_9_code
def yX5_drop : MethodName := ⟨RX5, "drop", "(II)I"⟩
abbrev cX5_put : ByteArray := prog_1_method_10_code
def yX5_put : MethodName := ⟨RX5, "put", "(III)I"⟩
abbrev cX5_bound : ByteArray := prog_1_method_11_code
def yX5_bound : MethodName := ⟨RX5, "bound", "(III)I"⟩
abbrev cX5_drawn : ByteArray := prog_1_method_12_code
def yX5_drawn : MethodName := ⟨RX5, "drawn", "(II)I"⟩
abbrev cX5_cell : ByteArray := prog_1_method_13_code
def yX5_cell : MethodName := ⟨RX5, "cell", "(III)I"⟩
abbrev cX5_as : ByteArray := prog_1_method_14_code
def yX5_as : MethodName := ⟨RX5, "as", "(III)I"⟩
abbrev cX5_table : ByteArray := prog_1_method_15_code
def yX5_table : MethodName := ⟨RX5, "table", "(III)I"⟩
abbrev cX5_near : ByteArray := prog_1_method_16_code
def yX5_near : MethodName := ⟨RX5, "near", "(III)I"⟩
abbrev cX5_rank : ByteArray := prog_1_method_17_code
def yX5_rank : MethodName := ⟨RX5, "rank", "(II)I"⟩
abbrev cX5_holes : ByteArray := prog_1_method_18_code
def yX5_holes : MethodName := ⟨RX5, "holes", "(II)I"⟩
abbrev cX5_chain : ByteArray := prog_1_method_20_code
def yX5_chain : MethodName := ⟨RX5, "chain", "(II)I"⟩
abbrev cX5_ends : ByteArray := prog_1_method_21_code
def yX5_ends : MethodName := ⟨RX5, "ends", "(II)I"⟩
abbrev cX5_count : ByteArray := prog_1_method_30_code
def yX5_count : MethodName := ⟨RX5, "count", "(I)I"⟩
abbrev cX5_keepAct : ByteArray := prog_1_method_31_code
def yX5_keepAct : MethodName := ⟨RX5, "keepAct", "()V"⟩
abbrev cX5_tableRank : ByteArray := prog_1_method_32_code
def yX5_tableRank : MethodName := ⟨RX5, "tableRank", "(II)I"⟩
abbrev cX5_isUpperCell : ByteArray := prog_1_method_37_code
def yX5_isUpperCell : MethodName := ⟨RX5, "isUpperCell", "(II)Z"⟩
abbrev cX5_isWithin : ByteArray := prog_1_method_38_code
def yX5_isWithin : MethodName := ⟨RX5, "isWithin", "(II)Z"⟩
abbrev cX5_isChain : ByteArray := prog_1_method_39_code
def yX5_isChain : MethodName := ⟨RX5, "isChain", "(I)Z"⟩
abbrev cX5_isWeight : ByteArray := prog_1_method_40_code
def yX5_isWeight : MethodName := ⟨RX5, "isWeight", "(I)Z"⟩
abbrev cX5_isNumber : ByteArray := prog_1_method_41_code
def yX5_isNumber : MethodName := ⟨RX5, "isNumber", "(I)Z"⟩
abbrev cX5_isField : ByteArray := prog_1_method_43_code
def yX5_isField : MethodName := ⟨RX5, "isField", "(I)Z"⟩
def RX6 : String := "ChainPartsModel"
def TX6 : u_T := fun k => match k with
  | _ => ("", "", "", false)
def tyX6 : Nat → FieldType := fun k => match k with
  | _ => .int
set_option maxRecDepth 20000 in
theorem nmX6 : ∀ a, a < 0 → ∀ b, b < 0 → a ≠ b → (TX6 a).2.1 ≠ (TX6 b).2.1 := by decide +kernel
set_option maxRecDepth 20000 in
theorem tyX6_ok : ∀ k, k < 0 → parseFieldDescriptor (TX6 k).2.2.1 = some (tyX6 k) := by decide +kernel
def RJ6 : String := "java/lang/Integer"
def TJ6 : u_T := fun k => match k with
  | _ => ("", "", "", false)
def tyJ6 : Nat → FieldType := fun k => match k with
  | _ => .int
set_option maxRecDepth 20000 in
theorem nmJ6 : ∀ a, a < 0 → ∀ b, b < 0 → a ≠ b → (TJ6 a).2.1 ≠ (TJ6 b).2.1 := by decide +kernel
set_option maxRecDepth 20000 in
theorem tyJ6_ok : ∀ k, k < 0 → parseFieldDescriptor (TJ6 k).2.2.1 = some (tyJ6 k) := by decide +kernel
abbrev cJ6_bitCount_0f7a4 : ByteArray := prog_9_method_49_code
def yJ6_bitCount_0f7a4 : MethodName := ⟨RJ6, "bitCount", "(I)I"⟩
def RJ9 : String := "java/lang/Math"
def TJ9 : u_T := fun k => match k with
  | _ => ("", "", "", false)
def tyJ9 : Nat → FieldType := fun k => match k with
  | _ => .int
set_option maxRecDepth 20000 in
theorem nmJ9 : ∀ a, a < 0 → ∀ b, b < 0 → a ≠ b → (TJ9 a).2.1 ≠ (TJ9 b).2.1 := by decide +kernel
set_option maxRecDepth 20000 in
theorem tyJ9_ok : ∀ k, k < 0 → parseFieldDescriptor (TJ9 k).2.2.1 = some (tyJ9 k) := by decide +kernel
abbrev cJ9_min_7cf53 : ByteArray := prog_10_method_69_code
def yJ9_min_7cf53 : MethodName := ⟨RJ9, "min", "(II)I"⟩
def RJ10 : String := "java/lang/System"
def TJ10 : u_T := fun k => match k with
  | _ => ("", "", "", false)
def tyJ10 : Nat → FieldType := fun k => match k with
  | _ => .int
set_option maxRecDepth 20000 in
theorem nmJ10 : ∀ a, a < 0 → ∀ b, b < 0 → a ≠ b → (TJ10 a).2.1 ≠ (TJ10 b).2.1 := by decide +kernel
set_option maxRecDepth 20000 in
theorem tyJ10_ok : ∀ k, k < 0 → parseFieldDescriptor (TJ10 k).2.2.1 = some (tyJ10 k) := by decide +kernel
def RL : String := "ChainPartsLaw"
abbrev cL_cell : ByteArray := method_2_code
def yL_cell : MethodName := ⟨RL, "cell", "([II)I"⟩
abbrev cL_less : ByteArray := method_3_code
def yL_less : MethodName := ⟨RL, "less", "(II)I"⟩
abbrev cL_one : ByteArray := method_4_code
def yL_one : MethodName := ⟨RL, "one", "([III)I"⟩
abbrev cL_two : ByteArray := method_5_code
def yL_two : MethodName := ⟨RL, "two", "([III)I"⟩
abbrev cL_at : ByteArray := method_6_code
def yL_at : MethodName := ⟨RL, "at", "([IIII)I"⟩
abbrev cL_rows : ByteArray := method_7_code
def yL_rows : MethodName := ⟨RL, "rows", "([II)I"⟩
abbrev cL_ones : ByteArray := method_9_code
def yL_ones : MethodName := ⟨RL, "ones", "(I)I"⟩
abbrev cL_nth : ByteArray := method_10_code
def yL_nth : MethodName := ⟨RL, "nth", "(II)I"⟩
abbrev cL_gcd : ByteArray := method_11_code
def yL_gcd : MethodName := ⟨RL, "gcd", "(JJ)J"⟩
abbrev cL_rank : ByteArray := method_12_code
def yL_rank : MethodName := ⟨RL, "rank", "([JII)I"⟩
abbrev cL_minor : ByteArray := method_13_code
def yL_minor : MethodName := ⟨RL, "minor", "([IIII)J"⟩
abbrev cL_rankOf : ByteArray := method_14_code
def yL_rankOf : MethodName := ⟨RL, "rankOf", "([III[J)I"⟩
abbrev cL_all : ByteArray := method_15_code
def yL_all : MethodName := ⟨RL, "all", "([II)I"⟩
abbrev cL_divisor : ByteArray := method_16_code
def yL_divisor : MethodName := ⟨RL, "divisor", "([III)J"⟩
abbrev cL_begin : ByteArray := method_17_code
def yL_begin : MethodName := ⟨RL, "begin", "([II)I"⟩
abbrev cL_end : ByteArray := method_18_code
def yL_end : MethodName := ⟨RL, "end", "([II)I"⟩
abbrev cL_code : ByteArray := method_19_code
def yL_code : MethodName := ⟨RL, "code", "(I)I"⟩
abbrev cL_word : ByteArray := method_20_code
def yL_word : MethodName := ⟨RL, "word", "([III)I"⟩
abbrev cL_spells : ByteArray := method_21_code
def yL_spells : MethodName := ⟨RL, "spells", "(LChainParts;[II)V"⟩
abbrev cL_begins : ByteArray := method_22_code
def yL_begins : MethodName := ⟨RL, "begins", "(LChainParts;[I[I[I)V"⟩
abbrev cL_told : ByteArray := method_23_code
def yL_told : MethodName := ⟨RL, "told", "(LChainParts;[I[I)Z"⟩
abbrev cL_noted : ByteArray := method_24_code
def yL_noted : MethodName := ⟨RL, "noted", "([IZ)Z"⟩
abbrev cL_others : ByteArray := method_25_code
def yL_others : MethodName := ⟨RL, "others", "([I[II)I"⟩
abbrev cL_gone : ByteArray := method_26_code
def yL_gone : MethodName := ⟨RL, "gone", "([I[III)I"⟩
abbrev cL_spelled : ByteArray := method_27_code
def yL_spelled : MethodName := ⟨RL, "spelled", "([II)Z"⟩
abbrev cL_act : ByteArray := method_28_code
def yL_act : MethodName := ⟨RL, "act", "(LChainParts;[I[II)I"⟩
abbrev cL_near : ByteArray := method_30_code
def yL_near : MethodName := ⟨RL, "near", "([IIII)I"⟩
abbrev cL_prime : ByteArray := method_31_code
def yL_prime : MethodName := ⟨RL, "prime", "(I)I"⟩
abbrev cL_measured : ByteArray := method_32_code
def yL_measured : MethodName := ⟨RL, "measured", "(LChainParts;[I[J)Z"⟩
abbrev cL_law : ByteArray := code
def yL_law : MethodName := ⟨RL, "law", "([I)Z"⟩
abbrev vwCl : List vw_C := [(RX0, TX0, 1), (RX1, TX1, 4), (RX2, TX2, 10), (RX3, TX3, 4), (RX4, TX4, 2), (RX5, TX5, 11)]
/-- a method: its class, name, code, locals, answer, and the room below it (frames, words) -/
abbrev MD : Type := String × MethodName × ByteArray × Nat × Option FieldType × Nat × Nat
abbrev mX0_row : MD := (RX0, yX0_row, cX0_row, 1, some (.array .int), 0, 0)
abbrev mX0_clear : MD := (RX0, yX0_clear, cX0_clear, 2, none, 0, 0)
abbrev mX0_saveTo : MD := (RX0, yX0_saveTo, cX0_saveTo, 2, none, 1, 40)
abbrev mX0_loadFrom : MD := (RX0, yX0_loadFrom, cX0_loadFrom, 2, none, 1, 40)
abbrev mX0_slot : MD := (RX0, yX0_slot, cX0_slot, 2, some .int, 0, 0)
abbrev mX0_setSlot : MD := (RX0, yX0_setSlot, cX0_setSlot, 3, none, 0, 0)
abbrev mX0_isThere : MD := (RX0, yX0_isThere, cX0_isThere, 1, some .boolean, 2, 42)
abbrev mX0_sizeOf : MD := (RX0, yX0_sizeOf, cX0_sizeOf, 2, some .int, 1, 21)
abbrev mX0_hasCell : MD := (RX0, yX0_hasCell, cX0_hasCell, 3, some .boolean, 2, 42)
abbrev mX0_setPoints : MD := (RX0, yX0_setPoints, cX0_setPoints, 2, none, 1, 22)
abbrev mX0_fromOf : MD := (RX0, yX0_fromOf, cX0_fromOf, 2, some .int, 1, 21)
abbrev mX0_toOf : MD := (RX0, yX0_toOf, cX0_toOf, 2, some .int, 1, 21)
abbrev mX0_weightOf : MD := (RX0, yX0_weightOf, cX0_weightOf, 3, some .int, 1, 21)
abbrev mX0_setWeight : MD := (RX0, yX0_setWeight, cX0_setWeight, 4, none, 1, 22)
abbrev mX0_wordSize : MD := (RX0, yX0_wordSize, cX0_wordSize, 2, some .int, 1, 21)
abbrev mX0_letterAt : MD := (RX0, yX0_letterAt, cX0_letterAt, 3, some .int, 1, 21)
abbrev mX0_numberAt : MD := (RX0, yX0_numberAt, cX0_numberAt, 3, some .int, 1, 21)
abbrev mX0_setNumber : MD := (RX0, yX0_setNumber, cX0_setNumber, 4, none, 1, 22)
abbrev mX0_beginOf : MD := (RX0, yX0_beginOf, cX0_beginOf, 3, some .int, 2, 42)
abbrev mX0_endOf : MD := (RX0, yX0_endOf, cX0_endOf, 3, some .int, 2, 42)
abbrev mX0_addEdge : MD := (RX0, yX0_addEdge, cX0_addEdge, 6, none, 2, 45)
abbrev mX0_addFace : MD := (RX0, yX0_addFace, cX0_addFace, 5, none, 2, 45)
abbrev mX0_isSewn : MD := (RX0, yX0_isSewn, cX0_isSewn, 4, some .boolean, 2, 43)
abbrev mX0_removeEdge : MD := (RX0, yX0_removeEdge, cX0_removeEdge, 5, none, 3, 67)
abbrev mX0_lowerLettersBehind : MD := (RX0, yX0_lowerLettersBehind, cX0_lowerLettersBehind, 5, none, 2, 43)
abbrev mX0_removeFace : MD := (RX0, yX0_removeFace, cX0_removeFace, 5, none, 2, 45)
abbrev mX0_isOfKind : MD := (RX0, yX0_isOfKind, cX0_isOfKind, 4, some .boolean, 4, 91)
abbrev mX0_isSealed : MD := (RX0, yX0_isSealed, cX0_isSealed, 3, some .boolean, 3, 69)
abbrev mX0_entryOf : MD := (RX0, yX0_entryOf, cX0_entryOf, 7, some .int, 2, 43)
abbrev mX0_nearOf : MD := (RX0, yX0_nearOf, cX0_nearOf, 7, some .int, 3, 69)
abbrev mX0_numbersNotZero : MD := (RX0, yX0_numbersNotZero, cX0_numbersNotZero, 4, some .int, 2, 43)
abbrev mX0_boundaryAt : MD := (RX0, yX0_boundaryAt, cX0_boundaryAt, 5, some .int, 3, 69)
abbrev mX1_loadTable : MD := (RX1, yX1_loadTable, cX1_loadTable, 5, none, 3, 69)
abbrev mX1_allColumns : MD := (RX1, yX1_allColumns, cX1_allColumns, 1, some .int, 0, 0)
abbrev mX1_minorOf : MD := (RX1, yX1_minorOf, cX1_minorOf, 4, some .long, 1, 21)
abbrev mX1_fillMinors : MD := (RX1, yX1_fillMinors, cX1_fillMinors, 5, none, 3, 74)
abbrev mX1_expandedMinor : MD := (RX1, yX1_expandedMinor, cX1_expandedMinor, 11, some .long, 2, 44)
abbrev mX1_rankBy : MD := (RX1, yX1_rankBy, cX1_rankBy, 7, some .int, 2, 44)
abbrev mX1_isZero : MD := (RX1, yX1_isZero, cX1_isZero, 3, some .boolean, 0, 0)
abbrev mX3_append : MD := (RX3, yX3_append, cX3_append, 2, some .boolean, 1, 21)
abbrev mX3_clear : MD := (RX3, yX3_clear, cX3_clear, 1, none, 0, 0)
abbrev mX3_size : MD := (RX3, yX3_size, cX3_size, 1, some .int, 0, 0)
abbrev mX3_place : MD := (RX3, yX3_place, cX3_place, 1, some .int, 0, 0)
abbrev mX3_faultRead : MD := (RX3, yX3_faultRead, cX3_faultRead, 1, some .int, 0, 0)
abbrev mX3_token : MD := (RX3, yX3_token, cX3_token, 2, some .int, 1, 21)
abbrev mX3_readWord : MD := (RX3, yX3_readWord, cX3_readWord, 4, some .boolean, 4, 86)
abbrev mX3_readComplex : MD := (RX3, yX3_readComplex, cX3_readComplex, 4, some .boolean, 5, 110)
abbrev mX3_readEdge : MD := (RX3, yX3_readEdge, cX3_readEdge, 5, none, 3, 70)
abbrev mX3_readFace : MD := (RX3, yX3_readFace, cX3_readFace, 5, none, 4, 86)
abbrev mX3_takeSign : MD := (RX3, yX3_takeSign, cX3_takeSign, 2, none, 2, 42)
abbrev mX3_takeDigit : MD := (RX3, yX3_takeDigit, cX3_takeDigit, 4, some .int, 2, 42)
abbrev mX4_isBackward : MD := (RX4, yX4_isBackward, cX4_isBackward, 1, some .boolean, 0, 0)
abbrev mX4_edgeOf : MD := (RX4, yX4_edgeOf, cX4_edgeOf, 1, some .int, 0, 0)
abbrev mX4_clear : MD := (RX4, yX4_clear, cX4_clear, 1, none, 0, 0)
abbrev mX4_size : MD := (RX4, yX4_size, cX4_size, 1, some .int, 0, 0)
abbrev mX4_letterAt : MD := (RX4, yX4_letterAt, cX4_letterAt, 2, some .int, 1, 21)
abbrev mX4_append : MD := (RX4, yX4_append, cX4_append, 3, some .boolean, 3, 64)
abbrev mX4_isClosed : MD := (RX4, yX4_isClosed, cX4_isClosed, 2, some .boolean, 3, 64)
abbrev mX5_feed : MD := (RX5, yX5_feed, cX5_feed, 2, some .int, 2, 42)
abbrev mX5_complex : MD := (RX5, yX5_complex, cX5_complex, 2, some .int, 6, 133)
abbrev mX5_weigh : MD := (RX5, yX5_weigh, cX5_weigh, 5, some .int, 4, 86)
abbrev mX5_edge : MD := (RX5, yX5_edge, cX5_edge, 4, some .int, 3, 81)
abbrev mX5_face : MD := (RX5, yX5_face, cX5_face, 3, some .int, 5, 109)
abbrev mX5_drop : MD := (RX5, yX5_drop, cX5_drop, 3, some .int, 4, 91)
abbrev mX5_put : MD := (RX5, yX5_put, cX5_put, 5, some .int, 3, 81)
abbrev mX5_bound : MD := (RX5, yX5_bound, cX5_bound, 5, some .int, 3, 81)
abbrev mX5_drawn : MD := (RX5, yX5_drawn, cX5_drawn, 6, some .int, 3, 81)
abbrev mX5_cell : MD := (RX5, yX5_cell, cX5_cell, 5, some .int, 4, 86)
abbrev mX5_as : MD := (RX5, yX5_as, cX5_as, 4, some .int, 5, 114)
abbrev mX5_table : MD := (RX5, yX5_table, cX5_table, 4, some .int, 3, 69)
abbrev mX5_near : MD := (RX5, yX5_near, cX5_near, 5, some .int, 4, 95)
abbrev mX5_rank : MD := (RX5, yX5_rank, cX5_rank, 3, some .int, 5, 120)
abbrev mX5_holes : MD := (RX5, yX5_holes, cX5_holes, 5, some .int, 5, 120)
abbrev mX5_chain : MD := (RX5, yX5_chain, cX5_chain, 3, some .int, 3, 64)
abbrev mX5_ends : MD := (RX5, yX5_ends, cX5_ends, 3, some .int, 4, 93)
abbrev mX5_count : MD := (RX5, yX5_count, cX5_count, 2, some .int, 2, 42)
abbrev mX5_keepAct : MD := (RX5, yX5_keepAct, cX5_keepAct, 1, none, 2, 61)
abbrev mX5_tableRank : MD := (RX5, yX5_tableRank, cX5_tableRank, 3, some .int, 4, 98)
abbrev mX5_isUpperCell : MD := (RX5, yX5_isUpperCell, cX5_isUpperCell, 3, some .boolean, 3, 64)
abbrev mX5_isWithin : MD := (RX5, yX5_isWithin, cX5_isWithin, 2, some .boolean, 0, 0)
abbrev mX5_isChain : MD := (RX5, yX5_isChain, cX5_isChain, 1, some .boolean, 1, 21)
abbrev mX5_isWeight : MD := (RX5, yX5_isWeight, cX5_isWeight, 1, some .boolean, 0, 0)
abbrev mX5_isNumber : MD := (RX5, yX5_isNumber, cX5_isNumber, 1, some .boolean, 0, 0)
abbrev mX5_isField : MD := (RX5, yX5_isField, cX5_isField, 1, some .boolean, 0, 0)
abbrev mJ6_bitCount_0f7a4 : MD := (RJ6, yJ6_bitCount_0f7a4, cJ6_bitCount_0f7a4, 1, some .int, 0, 0)
abbrev mL_cell : MD := (RL, yL_cell, cL_cell, 2, some .int, 0, 0)
abbrev mL_less : MD := (RL, yL_less, cL_less, 2, some .int, 0, 0)
abbrev mL_one : MD := (RL, yL_one, cL_one, 3, some .int, 0, 0)
abbrev mL_two : MD := (RL, yL_two, cL_two, 6, some .int, 0, 0)
abbrev mL_at : MD := (RL, yL_at, cL_at, 4, some .int, 1, 25)
abbrev mL_rows : MD := (RL, yL_rows, cL_rows, 2, some .int, 0, 0)
abbrev mL_ones : MD := (RL, yL_ones, cL_ones, 3, some .int, 0, 0)
abbrev mL_nth : MD := (RL, yL_nth, cL_nth, 4, some .int, 1, 22)
abbrev mL_gcd : MD := (RL, yL_gcd, cL_gcd, 10, some .long, 0, 0)
abbrev mL_rank : MD := (RL, yL_rank, cL_rank, 14, some .int, 0, 0)
abbrev mL_minor : MD := (RL, yL_minor, cL_minor, 16, some .long, 2, 48)
abbrev mL_rankOf : MD := (RL, yL_rankOf, cL_rankOf, 6, some .int, 2, 48)
abbrev mL_all : MD := (RL, yL_all, cL_all, 2, some .int, 0, 0)
abbrev mL_divisor : MD := (RL, yL_divisor, cL_divisor, 7, some .long, 3, 83)
abbrev mL_begin : MD := (RL, yL_begin, cL_begin, 2, some .int, 0, 0)
abbrev mL_end : MD := (RL, yL_end, cL_end, 2, some .int, 0, 0)
abbrev mL_code : MD := (RL, yL_code, cL_code, 1, some .int, 0, 0)
abbrev mL_word : MD := (RL, yL_word, cL_word, 11, some .int, 1, 21)
abbrev mL_spells : MD := (RL, yL_spells, cL_spells, 4, none, 3, 63)
abbrev mL_begins : MD := (RL, yL_begins, cL_begins, 9, none, 4, 86)
abbrev mL_told : MD := (RL, yL_told, cL_told, 8, some .boolean, 6, 137)
abbrev mL_noted : MD := (RL, yL_noted, cL_noted, 2, some .boolean, 0, 0)
abbrev mL_others : MD := (RL, yL_others, cL_others, 5, some .int, 0, 0)
abbrev mL_gone : MD := (RL, yL_gone, cL_gone, 6, some .int, 0, 0)
abbrev mL_spelled : MD := (RL, yL_spelled, cL_spelled, 5, some .boolean, 0, 0)
abbrev mL_act : MD := (RL, yL_act, cL_act, 13, some .int, 6, 131)
abbrev mL_near : MD := (RL, yL_near, cL_near, 6, some .int, 1, 25)
abbrev mL_prime : MD := (RL, yL_prime, cL_prime, 1, some .int, 0, 0)
abbrev mL_measured : MD := (RL, yL_measured, cL_measured, 11, some .boolean, 6, 144)
abbrev mo (M : MD) : String := M.1
abbrev my (M : MD) : MethodName := M.2.1
abbrev mb (M : MD) : ByteArray := M.2.2.1
abbrev mn (M : MD) : Nat := M.2.2.2.1
abbrev mr (M : MD) : Option FieldType := M.2.2.2.2.1
abbrev mf (M : MD) : Nat := M.2.2.2.2.2.1
abbrev ml (M : MD) : Nat := M.2.2.2.2.2.2
/-- what a call needs to know of the method called -/
def TgB (M : MD) (n : Nat) : Prop := plainName (my M).cls = true ∧ (my M).cls = mo M ∧ ((my M).cls ≠ "java/lang/invoke/MethodHandle" ∧ (my M).cls ≠ "java/lang/invoke/VarHandle" ∧ (parseMethodDescriptor (my M).desc).map (fun d => d.parameters.length) = some n) ∧ Cond.initialized (mo M) ∈ lw_ok ∧ Cond.code (my M) (mb M) (mn M) (mr M) ∈ lw_ok
def TgV (M : MD) (n : Nat) : Prop := TgB M n ∧ Cond.instanceMethod (my M) ∈ lw_ok ∧ Cond.selects (mo M) (my M) (my M) ∈ lw_ok
def TgS (M : MD) (n : Nat) : Prop := TgB M n ∧ Cond.static (my M) ∈ lw_ok
set_option maxRecDepth 20000 in
theorem tX0_row : TgV mX0_row 0 := ⟨⟨by decide +kernel, by decide +kernel, ⟨by decide +kernel, by decide +kernel, by decide +kernel⟩, lwm 15 (by decide +kernel) (by decide +kernel), lwm 306 (by decide +kernel) (by decide +kernel)⟩, lwm 304 (by decide +kernel) (by decide +kernel), lwm 305 (by decide +kernel) (by decide +kernel)⟩
set_option maxRecDepth 20000 in
theorem tX0_clear : TgV mX0_clear 0 := ⟨⟨by decide +kernel, by decide +kernel, ⟨by decide +kernel, by decide +kernel, by decide +kernel⟩, lwm 15 (by decide +kernel) (by decide +kernel), lwm 181 (by decide +kernel) (by decide +kernel)⟩, lwm 179 (by decide +kernel) (by decide +kernel), lwm 180 (by decide +kernel) (by decide +kernel)⟩
set_option maxRecDepth 20000 in
theorem tX0_saveTo : TgV mX0_saveTo 1 := ⟨⟨by decide +kernel, by decide +kernel, ⟨by decide +kernel, by decide +kernel, by decide +kernel⟩, lwm 15 (by decide +kernel) (by decide +kernel), lwm 340 (by decide +kernel) (by decide +kernel)⟩, lwm 338 (by decide +kernel) (by decide +kernel), lwm 339 (by decide +kernel) (by decide +kernel)⟩
set_option maxRecDepth 20000 in
theorem tX0_loadFrom : TgV mX0_loadFrom 1 := ⟨⟨by decide +kernel, by decide +kernel, ⟨by decide +kernel, by decide +kernel, by decide +kernel⟩, lwm 15 (by decide +kernel) (by decide +kernel), lwm 310 (by decide +kernel) (by decide +kernel)⟩, lwm 308 (by decide +kernel) (by decide +kernel), lwm 309 (by decide +kernel) (by decide +kernel)⟩
set_option maxRecDepth 20000 in
theorem tX0_slot : TgV mX0_slot 1 := ⟨⟨by decide +kernel, by decide +kernel, ⟨by decide +kernel, by decide +kernel, by decide +kernel⟩, lwm 15 (by decide +kernel) (by decide +kernel), lwm 216 (by decide +kernel) (by decide +kernel)⟩, lwm 215 (by decide +kernel) (by decide +kernel), lwm 5 (by decide +kernel) (by decide +kernel)⟩
set_option maxRecDepth 20000 in
theorem tX0_setSlot : TgV mX0_setSlot 2 := ⟨⟨by decide +kernel, by decide +kernel, ⟨by decide +kernel, by decide +kernel, by decide +kernel⟩, lwm 15 (by decide +kernel) (by decide +kernel), lwm 204 (by decide +kernel) (by decide +kernel)⟩, lwm 203 (by decide +kernel) (by decide +kernel), lwm 3 (by decide +kernel) (by decide +kernel)⟩
set_option maxRecDepth 20000 in
theorem tX0_isThere : TgV mX0_isThere 0 := ⟨⟨by decide +kernel, by decide +kernel, ⟨by decide +kernel, by decide +kernel, by decide +kernel⟩, lwm 15 (by decide +kernel) (by decide +kernel), lwm 352 (by decide +kernel) (by decide +kernel)⟩, lwm 350 (by decide +kernel) (by decide +kernel), lwm 351 (by decide +kernel) (by decide +kernel)⟩
set_option maxRecDepth 20000 in
theorem tX0_sizeOf : TgV mX0_sizeOf 1 := ⟨⟨by decide +kernel, by decide +kernel, ⟨by decide +kernel, by decide +kernel, by decide +kernel⟩, lwm 15 (by decide +kernel) (by decide +kernel), lwm 212 (by decide +kernel) (by decide +kernel)⟩, lwm 210 (by decide +kernel) (by decide +kernel), lwm 211 (by decide +kernel) (by decide +kernel)⟩
set_option maxRecDepth 20000 in
theorem tX0_hasCell : TgV mX0_hasCell 2 := ⟨⟨by decide +kernel, by decide +kernel, ⟨by decide +kernel, by decide +kernel, by decide +kernel⟩, lwm 15 (by decide +kernel) (by decide +kernel), lwm 250 (by decide +kernel) (by decide +kernel)⟩, lwm 248 (by decide +kernel) (by decide +kernel), lwm 249 (by decide +kernel) (by decide +kernel)⟩
set_option maxRecDepth 20000 in
theorem tX0_setPoints : TgV mX0_setPoints 1 := ⟨⟨by decide +kernel, by decide +kernel, ⟨by decide +kernel, by decide +kernel, by decide +kernel⟩, lwm 15 (by decide +kernel) (by decide +kernel), lwm 200 (by decide +kernel) (by decide +kernel)⟩, lwm 198 (by decide +kernel) (by decide +kernel), lwm 199 (by decide +kernel) (by decide +kernel)⟩
set_option maxRecDepth 20000 in
theorem tX0_fromOf : TgV mX0_fromOf 1 := ⟨⟨by decide +kernel, by decide +kernel, ⟨by decide +kernel, by decide +kernel, by decide +kernel⟩, lwm 15 (by decide +kernel) (by decide +kernel), lwm 267 (by decide +kernel) (by decide +kernel)⟩, lwm 265 (by decide +kernel) (by decide +kernel), lwm 266 (by decide +kernel) (by decide +kernel)⟩
set_option maxRecDepth 20000 in
theorem tX0_toOf : TgV mX0_toOf 1 := ⟨⟨by decide +kernel, by decide +kernel, ⟨by decide +kernel, by decide +kernel, by decide +kernel⟩, lwm 15 (by decide +kernel) (by decide +kernel), lwm 263 (by decide +kernel) (by decide +kernel)⟩, lwm 261 (by decide +kernel) (by decide +kernel), lwm 262 (by decide +kernel) (by decide +kernel)⟩
set_option maxRecDepth 20000 in
theorem tX0_weightOf : TgV mX0_weightOf 2 := ⟨⟨by decide +kernel, by decide +kernel, ⟨by decide +kernel, by decide +kernel, by decide +kernel⟩, lwm 15 (by decide +kernel) (by decide +kernel), lwm 331 (by decide +kernel) (by decide +kernel)⟩, lwm 329 (by decide +kernel) (by decide +kernel), lwm 330 (by decide +kernel) (by decide +kernel)⟩
set_option maxRecDepth 20000 in
theorem tX0_setWeight : TgV mX0_setWeight 3 := ⟨⟨by decide +kernel, by decide +kernel, ⟨by decide +kernel, by decide +kernel, by decide +kernel⟩, lwm 15 (by decide +kernel) (by decide +kernel), lwm 225 (by decide +kernel) (by decide +kernel)⟩, lwm 223 (by decide +kernel) (by decide +kernel), lwm 224 (by decide +kernel) (by decide +kernel)⟩
set_option maxRecDepth 20000 in
theorem tX0_wordSize : TgV mX0_wordSize 1 := ⟨⟨by decide +kernel, by decide +kernel, ⟨by decide +kernel, by decide +kernel, by decide +kernel⟩, lwm 15 (by decide +kernel) (by decide +kernel), lwm 412 (by decide +kernel) (by decide +kernel)⟩, lwm 410 (by decide +kernel) (by decide +kernel), lwm 411 (by decide +kernel) (by decide +kernel)⟩
set_option maxRecDepth 20000 in
theorem tX0_letterAt : TgV mX0_letterAt 2 := ⟨⟨by decide +kernel, by decide +kernel, ⟨by decide +kernel, by decide +kernel, by decide +kernel⟩, lwm 15 (by decide +kernel) (by decide +kernel), lwm 416 (by decide +kernel) (by decide +kernel)⟩, lwm 414 (by decide +kernel) (by decide +kernel), lwm 415 (by decide +kernel) (by decide +kernel)⟩
set_option maxRecDepth 20000 in
theorem tX0_numberAt : TgV mX0_numberAt 2 := ⟨⟨by decide +kernel, by decide +kernel, ⟨by decide +kernel, by decide +kernel, by decide +kernel⟩, lwm 15 (by decide +kernel) (by decide +kernel), lwm 378 (by decide +kernel) (by decide +kernel)⟩, lwm 376 (by decide +kernel) (by decide +kernel), lwm 377 (by decide +kernel) (by decide +kernel)⟩
set_option maxRecDepth 20000 in
theorem tX0_setNumber : TgV mX0_setNumber 3 := ⟨⟨by decide +kernel, by decide +kernel, ⟨by decide +kernel, by decide +kernel, by decide +kernel⟩, lwm 15 (by decide +kernel) (by decide +kernel), lwm 229 (by decide +kernel) (by decide +kernel)⟩, lwm 227 (by decide +kernel) (by decide +kernel), lwm 228 (by decide +kernel) (by decide +kernel)⟩
set_option maxRecDepth 20000 in
theorem tX0_beginOf : TgV mX0_beginOf 1 := ⟨⟨by decide +kernel, by decide +kernel, ⟨by decide +kernel, by decide +kernel, by decide +kernel⟩, lwm 15 (by decide +kernel) (by decide +kernel), lwm 255 (by decide +kernel) (by decide +kernel)⟩, lwm 253 (by decide +kernel) (by decide +kernel), lwm 254 (by decide +kernel) (by decide +kernel)⟩
set_option maxRecDepth 20000 in
theorem tX0_endOf : TgV mX0_endOf 1 := ⟨⟨by decide +kernel, by decide +kernel, ⟨by decide +kernel, by decide +kernel, by decide +kernel⟩, lwm 15 (by decide +kernel) (by decide +kernel), lwm 275 (by decide +kernel) (by decide +kernel)⟩, lwm 273 (by decide +kernel) (by decide +kernel), lwm 274 (by decide +kernel) (by decide +kernel)⟩
set_option maxRecDepth 20000 in
theorem tX0_addEdge : TgV mX0_addEdge 3 := ⟨⟨by decide +kernel, by decide +kernel, ⟨by decide +kernel, by decide +kernel, by decide +kernel⟩, lwm 15 (by decide +kernel) (by decide +kernel), lwm 220 (by decide +kernel) (by decide +kernel)⟩, lwm 218 (by decide +kernel) (by decide +kernel), lwm 219 (by decide +kernel) (by decide +kernel)⟩
set_option maxRecDepth 20000 in
theorem tX0_addFace : TgV mX0_addFace 2 := ⟨⟨by decide +kernel, by decide +kernel, ⟨by decide +kernel, by decide +kernel, by decide +kernel⟩, lwm 15 (by decide +kernel) (by decide +kernel), lwm 287 (by decide +kernel) (by decide +kernel)⟩, lwm 285 (by decide +kernel) (by decide +kernel), lwm 286 (by decide +kernel) (by decide +kernel)⟩
set_option maxRecDepth 20000 in
theorem tX0_isSewn : TgV mX0_isSewn 1 := ⟨⟨by decide +kernel, by decide +kernel, ⟨by decide +kernel, by decide +kernel, by decide +kernel⟩, lwm 15 (by decide +kernel) (by decide +kernel), lwm 563 (by decide +kernel) (by decide +kernel)⟩, lwm 561 (by decide +kernel) (by decide +kernel), lwm 562 (by decide +kernel) (by decide +kernel)⟩
set_option maxRecDepth 20000 in
theorem tX0_removeEdge : TgV mX0_removeEdge 1 := ⟨⟨by decide +kernel, by decide +kernel, ⟨by decide +kernel, by decide +kernel, by decide +kernel⟩, lwm 15 (by decide +kernel) (by decide +kernel), lwm 567 (by decide +kernel) (by decide +kernel)⟩, lwm 565 (by decide +kernel) (by decide +kernel), lwm 566 (by decide +kernel) (by decide +kernel)⟩
set_option maxRecDepth 20000 in
theorem tX0_lowerLettersBehind : TgV mX0_lowerLettersBehind 1 := ⟨⟨by decide +kernel, by decide +kernel, ⟨by decide +kernel, by decide +kernel, by decide +kernel⟩, lwm 15 (by decide +kernel) (by decide +kernel), lwm 572 (by decide +kernel) (by decide +kernel)⟩, lwm 571 (by decide +kernel) (by decide +kernel), lwm 12 (by decide +kernel) (by decide +kernel)⟩
set_option maxRecDepth 20000 in
theorem tX0_removeFace : TgV mX0_removeFace 1 := ⟨⟨by decide +kernel, by decide +kernel, ⟨by decide +kernel, by decide +kernel, by decide +kernel⟩, lwm 15 (by decide +kernel) (by decide +kernel), lwm 576 (by decide +kernel) (by decide +kernel)⟩, lwm 574 (by decide +kernel) (by decide +kernel), lwm 575 (by decide +kernel) (by decide +kernel)⟩
set_option maxRecDepth 20000 in
theorem tX0_isOfKind : TgV mX0_isOfKind 3 := ⟨⟨by decide +kernel, by decide +kernel, ⟨by decide +kernel, by decide +kernel, by decide +kernel⟩, lwm 15 (by decide +kernel) (by decide +kernel), lwm 400 (by decide +kernel) (by decide +kernel)⟩, lwm 398 (by decide +kernel) (by decide +kernel), lwm 399 (by decide +kernel) (by decide +kernel)⟩
set_option maxRecDepth 20000 in
theorem tX0_isSealed : TgV mX0_isSealed 1 := ⟨⟨by decide +kernel, by decide +kernel, ⟨by decide +kernel, by decide +kernel, by decide +kernel⟩, lwm 15 (by decide +kernel) (by decide +kernel), lwm 404 (by decide +kernel) (by decide +kernel)⟩, lwm 403 (by decide +kernel) (by decide +kernel), lwm 9 (by decide +kernel) (by decide +kernel)⟩
set_option maxRecDepth 20000 in
theorem tX0_entryOf : TgV mX0_entryOf 3 := ⟨⟨by decide +kernel, by decide +kernel, ⟨by decide +kernel, by decide +kernel, by decide +kernel⟩, lwm 15 (by decide +kernel) (by decide +kernel), lwm 408 (by decide +kernel) (by decide +kernel)⟩, lwm 406 (by decide +kernel) (by decide +kernel), lwm 407 (by decide +kernel) (by decide +kernel)⟩
set_option maxRecDepth 20000 in
theorem tX0_nearOf : TgV mX0_nearOf 3 := ⟨⟨by decide +kernel, by decide +kernel, ⟨by decide +kernel, by decide +kernel, by decide +kernel⟩, lwm 15 (by decide +kernel) (by decide +kernel), lwm 605 (by decide +kernel) (by decide +kernel)⟩, lwm 603 (by decide +kernel) (by decide +kernel), lwm 604 (by decide +kernel) (by decide +kernel)⟩
set_option maxRecDepth 20000 in
theorem tX0_numbersNotZero : TgV mX0_numbersNotZero 1 := ⟨⟨by decide +kernel, by decide +kernel, ⟨by decide +kernel, by decide +kernel, by decide +kernel⟩, lwm 15 (by decide +kernel) (by decide +kernel), lwm 391 (by decide +kernel) (by decide +kernel)⟩, lwm 389 (by decide +kernel) (by decide +kernel), lwm 390 (by decide +kernel) (by decide +kernel)⟩
set_option maxRecDepth 20000 in
theorem tX0_boundaryAt : TgV mX0_boundaryAt 2 := ⟨⟨by decide +kernel, by decide +kernel, ⟨by decide +kernel, by decide +kernel, by decide +kernel⟩, lwm 15 (by decide +kernel) (by decide +kernel), lwm 548 (by decide +kernel) (by decide +kernel)⟩, lwm 546 (by decide +kernel) (by decide +kernel), lwm 547 (by decide +kernel) (by decide +kernel)⟩
set_option maxRecDepth 20000 in
theorem tX1_loadTable : TgV mX1_loadTable 2 := ⟨⟨by decide +kernel, by decide +kernel, ⟨by decide +kernel, by decide +kernel, by decide +kernel⟩, lwm 18 (by decide +kernel) (by decide +kernel), lwm 432 (by decide +kernel) (by decide +kernel)⟩, lwm 430 (by decide +kernel) (by decide +kernel), lwm 431 (by decide +kernel) (by decide +kernel)⟩
set_option maxRecDepth 20000 in
theorem tX1_allColumns : TgV mX1_allColumns 0 := ⟨⟨by decide +kernel, by decide +kernel, ⟨by decide +kernel, by decide +kernel, by decide +kernel⟩, lwm 18 (by decide +kernel) (by decide +kernel), lwm 458 (by decide +kernel) (by decide +kernel)⟩, lwm 456 (by decide +kernel) (by decide +kernel), lwm 457 (by decide +kernel) (by decide +kernel)⟩
set_option maxRecDepth 20000 in
theorem tX1_minorOf : TgV mX1_minorOf 2 := ⟨⟨by decide +kernel, by decide +kernel, ⟨by decide +kernel, by decide +kernel, by decide +kernel⟩, lwm 18 (by decide +kernel) (by decide +kernel), lwm 454 (by decide +kernel) (by decide +kernel)⟩, lwm 452 (by decide +kernel) (by decide +kernel), lwm 453 (by decide +kernel) (by decide +kernel)⟩
set_option maxRecDepth 20000 in
theorem tX1_fillMinors : TgV mX1_fillMinors 0 := ⟨⟨by decide +kernel, by decide +kernel, ⟨by decide +kernel, by decide +kernel, by decide +kernel⟩, lwm 18 (by decide +kernel) (by decide +kernel), lwm 439 (by decide +kernel) (by decide +kernel)⟩, lwm 437 (by decide +kernel) (by decide +kernel), lwm 438 (by decide +kernel) (by decide +kernel)⟩
set_option maxRecDepth 20000 in
theorem tX1_expandedMinor : TgV mX1_expandedMinor 2 := ⟨⟨by decide +kernel, by decide +kernel, ⟨by decide +kernel, by decide +kernel, by decide +kernel⟩, lwm 18 (by decide +kernel) (by decide +kernel), lwm 450 (by decide +kernel) (by decide +kernel)⟩, lwm 449 (by decide +kernel) (by decide +kernel), lwm 11 (by decide +kernel) (by decide +kernel)⟩
set_option maxRecDepth 20000 in
theorem tX1_rankBy : TgV mX1_rankBy 2 := ⟨⟨by decide +kernel, by decide +kernel, ⟨by decide +kernel, by decide +kernel, by decide +kernel⟩, lwm 18 (by decide +kernel) (by decide +kernel), lwm 462 (by decide +kernel) (by decide +kernel)⟩, lwm 460 (by decide +kernel) (by decide +kernel), lwm 461 (by decide +kernel) (by decide +kernel)⟩
set_option maxRecDepth 20000 in
theorem tX1_isZero : TgS mX1_isZero 2 := ⟨⟨by decide +kernel, by decide +kernel, ⟨by decide +kernel, by decide +kernel, by decide +kernel⟩, lwm 18 (by decide +kernel) (by decide +kernel), lwm 465 (by decide +kernel) (by decide +kernel)⟩, lwm 464 (by decide +kernel) (by decide +kernel)⟩
set_option maxRecDepth 20000 in
theorem tX3_append : TgV mX3_append 1 := ⟨⟨by decide +kernel, by decide +kernel, ⟨by decide +kernel, by decide +kernel, by decide +kernel⟩, lwm 16 (by decide +kernel) (by decide +kernel), lwm 500 (by decide +kernel) (by decide +kernel)⟩, lwm 498 (by decide +kernel) (by decide +kernel), lwm 499 (by decide +kernel) (by decide +kernel)⟩
set_option maxRecDepth 20000 in
theorem tX3_clear : TgV mX3_clear 0 := ⟨⟨by decide +kernel, by decide +kernel, ⟨by decide +kernel, by decide +kernel, by decide +kernel⟩, lwm 16 (by decide +kernel) (by decide +kernel), lwm 293 (by decide +kernel) (by decide +kernel)⟩, lwm 291 (by decide +kernel) (by decide +kernel), lwm 292 (by decide +kernel) (by decide +kernel)⟩
set_option maxRecDepth 20000 in
theorem tX3_size : TgV mX3_size 0 := ⟨⟨by decide +kernel, by decide +kernel, ⟨by decide +kernel, by decide +kernel, by decide +kernel⟩, lwm 16 (by decide +kernel) (by decide +kernel), lwm 481 (by decide +kernel) (by decide +kernel)⟩, lwm 479 (by decide +kernel) (by decide +kernel), lwm 480 (by decide +kernel) (by decide +kernel)⟩
set_option maxRecDepth 20000 in
theorem tX3_place : TgV mX3_place 0 := ⟨⟨by decide +kernel, by decide +kernel, ⟨by decide +kernel, by decide +kernel, by decide +kernel⟩, lwm 16 (by decide +kernel) (by decide +kernel), lwm 302 (by decide +kernel) (by decide +kernel)⟩, lwm 300 (by decide +kernel) (by decide +kernel), lwm 301 (by decide +kernel) (by decide +kernel)⟩
set_option maxRecDepth 20000 in
theorem tX3_faultRead : TgV mX3_faultRead 0 := ⟨⟨by decide +kernel, by decide +kernel, ⟨by decide +kernel, by decide +kernel, by decide +kernel⟩, lwm 16 (by decide +kernel) (by decide +kernel), lwm 297 (by decide +kernel) (by decide +kernel)⟩, lwm 295 (by decide +kernel) (by decide +kernel), lwm 296 (by decide +kernel) (by decide +kernel)⟩
set_option maxRecDepth 20000 in
theorem tX3_token : TgV mX3_token 1 := ⟨⟨by decide +kernel, by decide +kernel, ⟨by decide +kernel, by decide +kernel, by decide +kernel⟩, lwm 16 (by decide +kernel) (by decide +kernel), lwm 189 (by decide +kernel) (by decide +kernel)⟩, lwm 188 (by decide +kernel) (by decide +kernel), lwm 1 (by decide +kernel) (by decide +kernel)⟩
set_option maxRecDepth 20000 in
theorem tX3_readWord : TgV mX3_readWord 2 := ⟨⟨by decide +kernel, by decide +kernel, ⟨by decide +kernel, by decide +kernel, by decide +kernel⟩, lwm 16 (by decide +kernel) (by decide +kernel), lwm 363 (by decide +kernel) (by decide +kernel)⟩, lwm 361 (by decide +kernel) (by decide +kernel), lwm 362 (by decide +kernel) (by decide +kernel)⟩
set_option maxRecDepth 20000 in
theorem tX3_readComplex : TgV mX3_readComplex 2 := ⟨⟨by decide +kernel, by decide +kernel, ⟨by decide +kernel, by decide +kernel, by decide +kernel⟩, lwm 16 (by decide +kernel) (by decide +kernel), lwm 177 (by decide +kernel) (by decide +kernel)⟩, lwm 175 (by decide +kernel) (by decide +kernel), lwm 176 (by decide +kernel) (by decide +kernel)⟩
set_option maxRecDepth 20000 in
theorem tX3_readEdge : TgV mX3_readEdge 1 := ⟨⟨by decide +kernel, by decide +kernel, ⟨by decide +kernel, by decide +kernel, by decide +kernel⟩, lwm 16 (by decide +kernel) (by decide +kernel), lwm 208 (by decide +kernel) (by decide +kernel)⟩, lwm 207 (by decide +kernel) (by decide +kernel), lwm 4 (by decide +kernel) (by decide +kernel)⟩
set_option maxRecDepth 20000 in
theorem tX3_readFace : TgV mX3_readFace 2 := ⟨⟨by decide +kernel, by decide +kernel, ⟨by decide +kernel, by decide +kernel, by decide +kernel⟩, lwm 16 (by decide +kernel) (by decide +kernel), lwm 233 (by decide +kernel) (by decide +kernel)⟩, lwm 232 (by decide +kernel) (by decide +kernel), lwm 6 (by decide +kernel) (by decide +kernel)⟩
set_option maxRecDepth 20000 in
theorem tX3_takeSign : TgV mX3_takeSign 1 := ⟨⟨by decide +kernel, by decide +kernel, ⟨by decide +kernel, by decide +kernel, by decide +kernel⟩, lwm 16 (by decide +kernel) (by decide +kernel), lwm 185 (by decide +kernel) (by decide +kernel)⟩, lwm 184 (by decide +kernel) (by decide +kernel), lwm 0 (by decide +kernel) (by decide +kernel)⟩
set_option maxRecDepth 20000 in
theorem tX3_takeDigit : TgV mX3_takeDigit 2 := ⟨⟨by decide +kernel, by decide +kernel, ⟨by decide +kernel, by decide +kernel, by decide +kernel⟩, lwm 16 (by decide +kernel) (by decide +kernel), lwm 196 (by decide +kernel) (by decide +kernel)⟩, lwm 195 (by decide +kernel) (by decide +kernel), lwm 2 (by decide +kernel) (by decide +kernel)⟩
set_option maxRecDepth 20000 in
theorem tX4_isBackward : TgS mX4_isBackward 1 := ⟨⟨by decide +kernel, by decide +kernel, ⟨by decide +kernel, by decide +kernel, by decide +kernel⟩, lwm 17 (by decide +kernel) (by decide +kernel), lwm 259 (by decide +kernel) (by decide +kernel)⟩, lwm 258 (by decide +kernel) (by decide +kernel)⟩
set_option maxRecDepth 20000 in
theorem tX4_edgeOf : TgS mX4_edgeOf 1 := ⟨⟨by decide +kernel, by decide +kernel, ⟨by decide +kernel, by decide +kernel, by decide +kernel⟩, lwm 17 (by decide +kernel) (by decide +kernel), lwm 240 (by decide +kernel) (by decide +kernel)⟩, lwm 239 (by decide +kernel) (by decide +kernel)⟩
set_option maxRecDepth 20000 in
theorem tX4_clear : TgV mX4_clear 0 := ⟨⟨by decide +kernel, by decide +kernel, ⟨by decide +kernel, by decide +kernel, by decide +kernel⟩, lwm 17 (by decide +kernel) (by decide +kernel), lwm 237 (by decide +kernel) (by decide +kernel)⟩, lwm 235 (by decide +kernel) (by decide +kernel), lwm 236 (by decide +kernel) (by decide +kernel)⟩
set_option maxRecDepth 20000 in
theorem tX4_size : TgV mX4_size 0 := ⟨⟨by decide +kernel, by decide +kernel, ⟨by decide +kernel, by decide +kernel, by decide +kernel⟩, lwm 17 (by decide +kernel) (by decide +kernel), lwm 279 (by decide +kernel) (by decide +kernel)⟩, lwm 277 (by decide +kernel) (by decide +kernel), lwm 278 (by decide +kernel) (by decide +kernel)⟩
set_option maxRecDepth 20000 in
theorem tX4_letterAt : TgV mX4_letterAt 1 := ⟨⟨by decide +kernel, by decide +kernel, ⟨by decide +kernel, by decide +kernel, by decide +kernel⟩, lwm 17 (by decide +kernel) (by decide +kernel), lwm 271 (by decide +kernel) (by decide +kernel)⟩, lwm 269 (by decide +kernel) (by decide +kernel), lwm 270 (by decide +kernel) (by decide +kernel)⟩
set_option maxRecDepth 20000 in
theorem tX4_append : TgV mX4_append 2 := ⟨⟨by decide +kernel, by decide +kernel, ⟨by decide +kernel, by decide +kernel, by decide +kernel⟩, lwm 17 (by decide +kernel) (by decide +kernel), lwm 244 (by decide +kernel) (by decide +kernel)⟩, lwm 242 (by decide +kernel) (by decide +kernel), lwm 243 (by decide +kernel) (by decide +kernel)⟩
set_option maxRecDepth 20000 in
theorem tX4_isClosed : TgV mX4_isClosed 1 := ⟨⟨by decide +kernel, by decide +kernel, ⟨by decide +kernel, by decide +kernel, by decide +kernel⟩, lwm 17 (by decide +kernel) (by decide +kernel), lwm 283 (by decide +kernel) (by decide +kernel)⟩, lwm 281 (by decide +kernel) (by decide +kernel), lwm 282 (by decide +kernel) (by decide +kernel)⟩
set_option maxRecDepth 20000 in
theorem tX5_feed : TgV mX5_feed 1 := ⟨⟨by decide +kernel, by decide +kernel, ⟨by decide +kernel, by decide +kernel, by decide +kernel⟩, lwm 14 (by decide +kernel) (by decide +kernel), lwm 496 (by decide +kernel) (by decide +kernel)⟩, lwm 494 (by decide +kernel) (by decide +kernel), lwm 495 (by decide +kernel) (by decide +kernel)⟩
set_option maxRecDepth 20000 in
theorem tX5_complex : TgV mX5_complex 0 := ⟨⟨by decide +kernel, by decide +kernel, ⟨by decide +kernel, by decide +kernel, by decide +kernel⟩, lwm 14 (by decide +kernel) (by decide +kernel), lwm 173 (by decide +kernel) (by decide +kernel)⟩, lwm 171 (by decide +kernel) (by decide +kernel), lwm 172 (by decide +kernel) (by decide +kernel)⟩
set_option maxRecDepth 20000 in
theorem tX5_weigh : TgV mX5_weigh 3 := ⟨⟨by decide +kernel, by decide +kernel, ⟨by decide +kernel, by decide +kernel, by decide +kernel⟩, lwm 14 (by decide +kernel) (by decide +kernel), lwm 318 (by decide +kernel) (by decide +kernel)⟩, lwm 316 (by decide +kernel) (by decide +kernel), lwm 317 (by decide +kernel) (by decide +kernel)⟩
set_option maxRecDepth 20000 in
theorem tX5_edge : TgV mX5_edge 3 := ⟨⟨by decide +kernel, by decide +kernel, ⟨by decide +kernel, by decide +kernel, by decide +kernel⟩, lwm 14 (by decide +kernel) (by decide +kernel), lwm 348 (by decide +kernel) (by decide +kernel)⟩, lwm 346 (by decide +kernel) (by decide +kernel), lwm 347 (by decide +kernel) (by decide +kernel)⟩
set_option maxRecDepth 20000 in
theorem tX5_face : TgV mX5_face 1 := ⟨⟨by decide +kernel, by decide +kernel, ⟨by decide +kernel, by decide +kernel, by decide +kernel⟩, lwm 14 (by decide +kernel) (by decide +kernel), lwm 359 (by decide +kernel) (by decide +kernel)⟩, lwm 357 (by decide +kernel) (by decide +kernel), lwm 358 (by decide +kernel) (by decide +kernel)⟩
set_option maxRecDepth 20000 in
theorem tX5_drop : TgV mX5_drop 2 := ⟨⟨by decide +kernel, by decide +kernel, ⟨by decide +kernel, by decide +kernel, by decide +kernel⟩, lwm 14 (by decide +kernel) (by decide +kernel), lwm 559 (by decide +kernel) (by decide +kernel)⟩, lwm 557 (by decide +kernel) (by decide +kernel), lwm 558 (by decide +kernel) (by decide +kernel)⟩
set_option maxRecDepth 20000 in
theorem tX5_put : TgV mX5_put 3 := ⟨⟨by decide +kernel, by decide +kernel, ⟨by decide +kernel, by decide +kernel, by decide +kernel⟩, lwm 14 (by decide +kernel) (by decide +kernel), lwm 368 (by decide +kernel) (by decide +kernel)⟩, lwm 366 (by decide +kernel) (by decide +kernel), lwm 367 (by decide +kernel) (by decide +kernel)⟩
set_option maxRecDepth 20000 in
theorem tX5_bound : TgV mX5_bound 3 := ⟨⟨by decide +kernel, by decide +kernel, ⟨by decide +kernel, by decide +kernel, by decide +kernel⟩, lwm 14 (by decide +kernel) (by decide +kernel), lwm 587 (by decide +kernel) (by decide +kernel)⟩, lwm 585 (by decide +kernel) (by decide +kernel), lwm 586 (by decide +kernel) (by decide +kernel)⟩
set_option maxRecDepth 20000 in
theorem tX5_drawn : TgV mX5_drawn 2 := ⟨⟨by decide +kernel, by decide +kernel, ⟨by decide +kernel, by decide +kernel, by decide +kernel⟩, lwm 14 (by decide +kernel) (by decide +kernel), lwm 383 (by decide +kernel) (by decide +kernel)⟩, lwm 381 (by decide +kernel) (by decide +kernel), lwm 382 (by decide +kernel) (by decide +kernel)⟩
set_option maxRecDepth 20000 in
theorem tX5_cell : TgV mX5_cell 3 := ⟨⟨by decide +kernel, by decide +kernel, ⟨by decide +kernel, by decide +kernel, by decide +kernel⟩, lwm 14 (by decide +kernel) (by decide +kernel), lwm 528 (by decide +kernel) (by decide +kernel)⟩, lwm 526 (by decide +kernel) (by decide +kernel), lwm 527 (by decide +kernel) (by decide +kernel)⟩
set_option maxRecDepth 20000 in
theorem tX5_as : TgV mX5_as 3 := ⟨⟨by decide +kernel, by decide +kernel, ⟨by decide +kernel, by decide +kernel, by decide +kernel⟩, lwm 14 (by decide +kernel) (by decide +kernel), lwm 396 (by decide +kernel) (by decide +kernel)⟩, lwm 394 (by decide +kernel) (by decide +kernel), lwm 395 (by decide +kernel) (by decide +kernel)⟩
set_option maxRecDepth 20000 in
theorem tX5_table : TgV mX5_table 3 := ⟨⟨by decide +kernel, by decide +kernel, ⟨by decide +kernel, by decide +kernel, by decide +kernel⟩, lwm 14 (by decide +kernel) (by decide +kernel), lwm 522 (by decide +kernel) (by decide +kernel)⟩, lwm 520 (by decide +kernel) (by decide +kernel), lwm 521 (by decide +kernel) (by decide +kernel)⟩
set_option maxRecDepth 20000 in
theorem tX5_near : TgV mX5_near 3 := ⟨⟨by decide +kernel, by decide +kernel, ⟨by decide +kernel, by decide +kernel, by decide +kernel⟩, lwm 14 (by decide +kernel) (by decide +kernel), lwm 601 (by decide +kernel) (by decide +kernel)⟩, lwm 599 (by decide +kernel) (by decide +kernel), lwm 600 (by decide +kernel) (by decide +kernel)⟩
set_option maxRecDepth 20000 in
theorem tX5_rank : TgV mX5_rank 2 := ⟨⟨by decide +kernel, by decide +kernel, ⟨by decide +kernel, by decide +kernel, by decide +kernel⟩, lwm 14 (by decide +kernel) (by decide +kernel), lwm 421 (by decide +kernel) (by decide +kernel)⟩, lwm 419 (by decide +kernel) (by decide +kernel), lwm 420 (by decide +kernel) (by decide +kernel)⟩
set_option maxRecDepth 20000 in
theorem tX5_holes : TgV mX5_holes 2 := ⟨⟨by decide +kernel, by decide +kernel, ⟨by decide +kernel, by decide +kernel, by decide +kernel⟩, lwm 14 (by decide +kernel) (by decide +kernel), lwm 469 (by decide +kernel) (by decide +kernel)⟩, lwm 467 (by decide +kernel) (by decide +kernel), lwm 468 (by decide +kernel) (by decide +kernel)⟩
set_option maxRecDepth 20000 in
theorem tX5_chain : TgV mX5_chain 2 := ⟨⟨by decide +kernel, by decide +kernel, ⟨by decide +kernel, by decide +kernel, by decide +kernel⟩, lwm 14 (by decide +kernel) (by decide +kernel), lwm 473 (by decide +kernel) (by decide +kernel)⟩, lwm 471 (by decide +kernel) (by decide +kernel), lwm 472 (by decide +kernel) (by decide +kernel)⟩
set_option maxRecDepth 20000 in
theorem tX5_ends : TgV mX5_ends 2 := ⟨⟨by decide +kernel, by decide +kernel, ⟨by decide +kernel, by decide +kernel, by decide +kernel⟩, lwm 14 (by decide +kernel) (by decide +kernel), lwm 544 (by decide +kernel) (by decide +kernel)⟩, lwm 542 (by decide +kernel) (by decide +kernel), lwm 543 (by decide +kernel) (by decide +kernel)⟩
set_option maxRecDepth 20000 in
theorem tX5_count : TgV mX5_count 1 := ⟨⟨by decide +kernel, by decide +kernel, ⟨by decide +kernel, by decide +kernel, by decide +kernel⟩, lwm 14 (by decide +kernel) (by decide +kernel), lwm 477 (by decide +kernel) (by decide +kernel)⟩, lwm 475 (by decide +kernel) (by decide +kernel), lwm 476 (by decide +kernel) (by decide +kernel)⟩
set_option maxRecDepth 20000 in
theorem tX5_keepAct : TgV mX5_keepAct 0 := ⟨⟨by decide +kernel, by decide +kernel, ⟨by decide +kernel, by decide +kernel, by decide +kernel⟩, lwm 14 (by decide +kernel) (by decide +kernel), lwm 335 (by decide +kernel) (by decide +kernel)⟩, lwm 334 (by decide +kernel) (by decide +kernel), lwm 8 (by decide +kernel) (by decide +kernel)⟩
set_option maxRecDepth 20000 in
theorem tX5_tableRank : TgV mX5_tableRank 2 := ⟨⟨by decide +kernel, by decide +kernel, ⟨by decide +kernel, by decide +kernel, by decide +kernel⟩, lwm 14 (by decide +kernel) (by decide +kernel), lwm 428 (by decide +kernel) (by decide +kernel)⟩, lwm 427 (by decide +kernel) (by decide +kernel), lwm 10 (by decide +kernel) (by decide +kernel)⟩
set_option maxRecDepth 20000 in
theorem tX5_isUpperCell : TgV mX5_isUpperCell 2 := ⟨⟨by decide +kernel, by decide +kernel, ⟨by decide +kernel, by decide +kernel, by decide +kernel⟩, lwm 14 (by decide +kernel) (by decide +kernel), lwm 322 (by decide +kernel) (by decide +kernel)⟩, lwm 321 (by decide +kernel) (by decide +kernel), lwm 7 (by decide +kernel) (by decide +kernel)⟩
set_option maxRecDepth 20000 in
theorem tX5_isWithin : TgS mX5_isWithin 2 := ⟨⟨by decide +kernel, by decide +kernel, ⟨by decide +kernel, by decide +kernel, by decide +kernel⟩, lwm 14 (by decide +kernel) (by decide +kernel), lwm 192 (by decide +kernel) (by decide +kernel)⟩, lwm 191 (by decide +kernel) (by decide +kernel)⟩
set_option maxRecDepth 20000 in
theorem tX5_isChain : TgS mX5_isChain 1 := ⟨⟨by decide +kernel, by decide +kernel, ⟨by decide +kernel, by decide +kernel, by decide +kernel⟩, lwm 14 (by decide +kernel) (by decide +kernel), lwm 371 (by decide +kernel) (by decide +kernel)⟩, lwm 370 (by decide +kernel) (by decide +kernel)⟩
set_option maxRecDepth 20000 in
theorem tX5_isWeight : TgS mX5_isWeight 1 := ⟨⟨by decide +kernel, by decide +kernel, ⟨by decide +kernel, by decide +kernel, by decide +kernel⟩, lwm 14 (by decide +kernel) (by decide +kernel), lwm 326 (by decide +kernel) (by decide +kernel)⟩, lwm 325 (by decide +kernel) (by decide +kernel)⟩
set_option maxRecDepth 20000 in
theorem tX5_isNumber : TgS mX5_isNumber 1 := ⟨⟨by decide +kernel, by decide +kernel, ⟨by decide +kernel, by decide +kernel, by decide +kernel⟩, lwm 14 (by decide +kernel) (by decide +kernel), lwm 374 (by decide +kernel) (by decide +kernel)⟩, lwm 373 (by decide +kernel) (by decide +kernel)⟩
set_option maxRecDepth 20000 in
theorem tX5_isField : TgS mX5_isField 1 := ⟨⟨by decide +kernel, by decide +kernel, ⟨by decide +kernel, by decide +kernel, by decide +kernel⟩, lwm 14 (by decide +kernel) (by decide +kernel), lwm 424 (by decide +kernel) (by decide +kernel)⟩, lwm 423 (by decide +kernel) (by decide +kernel)⟩
set_option maxRecDepth 20000 in
theorem tJ6_bitCount_0f7a4 : TgS mJ6_bitCount_0f7a4 1 := ⟨⟨by decide +kernel, by decide +kernel, ⟨by decide +kernel, by decide +kernel, by decide +kernel⟩, lwm 21 (by decide +kernel) (by decide +kernel), lwm 442 (by decide +kernel) (by decide +kernel)⟩, lwm 441 (by decide +kernel) (by decide +kernel)⟩
set_option maxRecDepth 20000 in
theorem tL_cell : TgS mL_cell 2 := ⟨⟨by decide +kernel, by decide +kernel, ⟨by decide +kernel, by decide +kernel, by decide +kernel⟩, lwm 13 (by decide +kernel) (by decide +kernel), lwm 484 (by decide +kernel) (by decide +kernel)⟩, lwm 483 (by decide +kernel) (by decide +kernel)⟩
set_option maxRecDepth 20000 in
theorem tL_less : TgS mL_less 2 := ⟨⟨by decide +kernel, by decide +kernel, ⟨by decide +kernel, by decide +kernel, by decide +kernel⟩, lwm 13 (by decide +kernel) (by decide +kernel), lwm 491 (by decide +kernel) (by decide +kernel)⟩, lwm 490 (by decide +kernel) (by decide +kernel)⟩
set_option maxRecDepth 20000 in
theorem tL_one : TgS mL_one 3 := ⟨⟨by decide +kernel, by decide +kernel, ⟨by decide +kernel, by decide +kernel, by decide +kernel⟩, lwm 13 (by decide +kernel) (by decide +kernel), lwm 537 (by decide +kernel) (by decide +kernel)⟩, lwm 536 (by decide +kernel) (by decide +kernel)⟩
set_option maxRecDepth 20000 in
theorem tL_two : TgS mL_two 3 := ⟨⟨by decide +kernel, by decide +kernel, ⟨by decide +kernel, by decide +kernel, by decide +kernel⟩, lwm 13 (by decide +kernel) (by decide +kernel), lwm 540 (by decide +kernel) (by decide +kernel)⟩, lwm 539 (by decide +kernel) (by decide +kernel)⟩
set_option maxRecDepth 20000 in
theorem tL_at : TgS mL_at 4 := ⟨⟨by decide +kernel, by decide +kernel, ⟨by decide +kernel, by decide +kernel, by decide +kernel⟩, lwm 13 (by decide +kernel) (by decide +kernel), lwm 626 (by decide +kernel) (by decide +kernel)⟩, lwm 625 (by decide +kernel) (by decide +kernel)⟩
set_option maxRecDepth 20000 in
theorem tL_rows : TgS mL_rows 2 := ⟨⟨by decide +kernel, by decide +kernel, ⟨by decide +kernel, by decide +kernel, by decide +kernel⟩, lwm 13 (by decide +kernel) (by decide +kernel), lwm 620 (by decide +kernel) (by decide +kernel)⟩, lwm 619 (by decide +kernel) (by decide +kernel)⟩
set_option maxRecDepth 20000 in
theorem tL_ones : TgS mL_ones 1 := ⟨⟨by decide +kernel, by decide +kernel, ⟨by decide +kernel, by decide +kernel, by decide +kernel⟩, lwm 13 (by decide +kernel) (by decide +kernel), lwm 617 (by decide +kernel) (by decide +kernel)⟩, lwm 616 (by decide +kernel) (by decide +kernel)⟩
set_option maxRecDepth 20000 in
theorem tL_nth : TgS mL_nth 2 := ⟨⟨by decide +kernel, by decide +kernel, ⟨by decide +kernel, by decide +kernel, by decide +kernel⟩, lwm 13 (by decide +kernel) (by decide +kernel), lwm 623 (by decide +kernel) (by decide +kernel)⟩, lwm 622 (by decide +kernel) (by decide +kernel)⟩
set_option maxRecDepth 20000 in
theorem tL_gcd : TgS mL_gcd 2 := ⟨⟨by decide +kernel, by decide +kernel, ⟨by decide +kernel, by decide +kernel, by decide +kernel⟩, lwm 13 (by decide +kernel) (by decide +kernel), lwm 641 (by decide +kernel) (by decide +kernel)⟩, lwm 640 (by decide +kernel) (by decide +kernel)⟩
set_option maxRecDepth 20000 in
theorem tL_rank : TgS mL_rank 3 := ⟨⟨by decide +kernel, by decide +kernel, ⟨by decide +kernel, by decide +kernel, by decide +kernel⟩, lwm 13 (by decide +kernel) (by decide +kernel), lwm 629 (by decide +kernel) (by decide +kernel)⟩, lwm 628 (by decide +kernel) (by decide +kernel)⟩
set_option maxRecDepth 20000 in
theorem tL_minor : TgS mL_minor 4 := ⟨⟨by decide +kernel, by decide +kernel, ⟨by decide +kernel, by decide +kernel, by decide +kernel⟩, lwm 13 (by decide +kernel) (by decide +kernel), lwm 638 (by decide +kernel) (by decide +kernel)⟩, lwm 637 (by decide +kernel) (by decide +kernel)⟩
set_option maxRecDepth 20000 in
theorem tL_rankOf : TgS mL_rankOf 4 := ⟨⟨by decide +kernel, by decide +kernel, ⟨by decide +kernel, by decide +kernel, by decide +kernel⟩, lwm 13 (by decide +kernel) (by decide +kernel), lwm 614 (by decide +kernel) (by decide +kernel)⟩, lwm 613 (by decide +kernel) (by decide +kernel)⟩
set_option maxRecDepth 20000 in
theorem tL_all : TgS mL_all 2 := ⟨⟨by decide +kernel, by decide +kernel, ⟨by decide +kernel, by decide +kernel, by decide +kernel⟩, lwm 13 (by decide +kernel) (by decide +kernel), lwm 611 (by decide +kernel) (by decide +kernel)⟩, lwm 610 (by decide +kernel) (by decide +kernel)⟩
set_option maxRecDepth 20000 in
theorem tL_divisor : TgS mL_divisor 3 := ⟨⟨by decide +kernel, by decide +kernel, ⟨by decide +kernel, by decide +kernel, by decide +kernel⟩, lwm 13 (by decide +kernel) (by decide +kernel), lwm 635 (by decide +kernel) (by decide +kernel)⟩, lwm 634 (by decide +kernel) (by decide +kernel)⟩
set_option maxRecDepth 20000 in
theorem tL_begin : TgS mL_begin 2 := ⟨⟨by decide +kernel, by decide +kernel, ⟨by decide +kernel, by decide +kernel, by decide +kernel⟩, lwm 13 (by decide +kernel) (by decide +kernel), lwm 506 (by decide +kernel) (by decide +kernel)⟩, lwm 505 (by decide +kernel) (by decide +kernel)⟩
set_option maxRecDepth 20000 in
theorem tL_end : TgS mL_end 2 := ⟨⟨by decide +kernel, by decide +kernel, ⟨by decide +kernel, by decide +kernel, by decide +kernel⟩, lwm 13 (by decide +kernel) (by decide +kernel), lwm 509 (by decide +kernel) (by decide +kernel)⟩, lwm 508 (by decide +kernel) (by decide +kernel)⟩
set_option maxRecDepth 20000 in
theorem tL_code : TgS mL_code 1 := ⟨⟨by decide +kernel, by decide +kernel, ⟨by decide +kernel, by decide +kernel, by decide +kernel⟩, lwm 13 (by decide +kernel) (by decide +kernel), lwm 515 (by decide +kernel) (by decide +kernel)⟩, lwm 514 (by decide +kernel) (by decide +kernel)⟩
set_option maxRecDepth 20000 in
theorem tL_word : TgS mL_word 3 := ⟨⟨by decide +kernel, by decide +kernel, ⟨by decide +kernel, by decide +kernel, by decide +kernel⟩, lwm 13 (by decide +kernel) (by decide +kernel), lwm 503 (by decide +kernel) (by decide +kernel)⟩, lwm 502 (by decide +kernel) (by decide +kernel)⟩
set_option maxRecDepth 20000 in
theorem tL_spells : TgS mL_spells 3 := ⟨⟨by decide +kernel, by decide +kernel, ⟨by decide +kernel, by decide +kernel, by decide +kernel⟩, lwm 13 (by decide +kernel) (by decide +kernel), lwm 512 (by decide +kernel) (by decide +kernel)⟩, lwm 511 (by decide +kernel) (by decide +kernel)⟩
set_option maxRecDepth 20000 in
theorem tL_begins : TgS mL_begins 4 := ⟨⟨by decide +kernel, by decide +kernel, ⟨by decide +kernel, by decide +kernel, by decide +kernel⟩, lwm 13 (by decide +kernel) (by decide +kernel), lwm 488 (by decide +kernel) (by decide +kernel)⟩, lwm 487 (by decide +kernel) (by decide +kernel)⟩
set_option maxRecDepth 20000 in
theorem tL_told : TgS mL_told 3 := ⟨⟨by decide +kernel, by decide +kernel, ⟨by decide +kernel, by decide +kernel, by decide +kernel⟩, lwm 13 (by decide +kernel) (by decide +kernel), lwm 518 (by rfl) (by rfl)⟩, lwm 517 (by decide +kernel) (by decide +kernel)⟩
set_option maxRecDepth 20000 in
theorem tL_noted : TgS mL_noted 2 := ⟨⟨by decide +kernel, by decide +kernel, ⟨by decide +kernel, by decide +kernel, by decide +kernel⟩, lwm 13 (by decide +kernel) (by decide +kernel), lwm 554 (by decide +kernel) (by decide +kernel)⟩, lwm 553 (by decide +kernel) (by decide +kernel)⟩
set_option maxRecDepth 20000 in
theorem tL_others : TgS mL_others 3 := ⟨⟨by decide +kernel, by decide +kernel, ⟨by decide +kernel, by decide +kernel, by decide +kernel⟩, lwm 13 (by decide +kernel) (by decide +kernel), lwm 590 (by decide +kernel) (by decide +kernel)⟩, lwm 589 (by decide +kernel) (by decide +kernel)⟩
set_option maxRecDepth 20000 in
theorem tL_gone : TgS mL_gone 4 := ⟨⟨by decide +kernel, by decide +kernel, ⟨by decide +kernel, by decide +kernel, by decide +kernel⟩, lwm 13 (by decide +kernel) (by decide +kernel), lwm 583 (by decide +kernel) (by decide +kernel)⟩, lwm 582 (by decide +kernel) (by decide +kernel)⟩
set_option maxRecDepth 20000 in
theorem tL_spelled : TgS mL_spelled 2 := ⟨⟨by decide +kernel, by decide +kernel, ⟨by decide +kernel, by decide +kernel, by decide +kernel⟩, lwm 13 (by decide +kernel) (by decide +kernel), lwm 579 (by decide +kernel) (by decide +kernel)⟩, lwm 578 (by decide +kernel) (by decide +kernel)⟩
set_option maxRecDepth 20000 in
theorem tL_act : TgS mL_act 4 := ⟨⟨by decide +kernel, by decide +kernel, ⟨by decide +kernel, by decide +kernel, by decide +kernel⟩, lwm 13 (by decide +kernel) (by decide +kernel), lwm 551 (by rfl) (by rfl)⟩, lwm 550 (by decide +kernel) (by decide +kernel)⟩
set_option maxRecDepth 20000 in
theorem tL_near : TgS mL_near 4 := ⟨⟨by decide +kernel, by decide +kernel, ⟨by decide +kernel, by decide +kernel, by decide +kernel⟩, lwm 13 (by decide +kernel) (by decide +kernel), lwm 608 (by decide +kernel) (by decide +kernel)⟩, lwm 607 (by decide +kernel) (by decide +kernel)⟩
set_option maxRecDepth 20000 in
theorem tL_prime : TgS mL_prime 1 := ⟨⟨by decide +kernel, by decide +kernel, ⟨by decide +kernel, by decide +kernel, by decide +kernel⟩, lwm 13 (by decide +kernel) (by decide +kernel), lwm 632 (by decide +kernel) (by decide +kernel)⟩, lwm 631 (by decide +kernel) (by decide +kernel)⟩
set_option maxRecDepth 20000 in
theorem tL_measured : TgS mL_measured 3 := ⟨⟨by decide +kernel, by decide +kernel, ⟨by decide +kernel, by decide +kernel, by decide +kernel⟩, lwm 13 (by decide +kernel) (by decide +kernel), lwm 597 (by rfl) (by rfl)⟩, lwm 596 (by decide +kernel) (by decide +kernel)⟩
set_option maxRecDepth 20000 in
theorem kL_163 : Cond.methodLink RL 163 yX5_init ∈ lw_ok := lwm 25 (by decide +kernel) (by decide +kernel)
set_option maxRecDepth 20000 in
theorem kL_168 : Cond.methodLink RL 168 yX5_complex ∈ lw_ok := lwm 170 (by decide +kernel) (by decide +kernel)
set_option maxRecDepth 20000 in
theorem kX5_75 : Cond.methodLink RX5 75 yX3_readComplex ∈ lw_ok := lwm 174 (by decide +kernel) (by decide +kernel)
set_option maxRecDepth 20000 in
theorem kX3_46 : Cond.methodLink RX3 46 yX0_clear ∈ lw_ok := lwm 178 (by decide +kernel) (by decide +kernel)
set_option maxRecDepth 20000 in
theorem kX3_49 : Cond.methodLink RX3 49 yX3_takeSign ∈ lw_ok := lwm 182 (by decide +kernel) (by decide +kernel)
set_option maxRecDepth 20000 in
theorem kX3_34 : Cond.methodLink RX3 34 yX3_token ∈ lw_ok := lwm 186 (by decide +kernel) (by decide +kernel)
set_option maxRecDepth 20000 in
theorem kX3_53 : Cond.methodLink RX3 53 yX3_takeDigit ∈ lw_ok := lwm 193 (by decide +kernel) (by decide +kernel)
set_option maxRecDepth 20000 in
theorem kX3_57 : Cond.methodLink RX3 57 yX0_setPoints ∈ lw_ok := lwm 197 (by decide +kernel) (by decide +kernel)
set_option maxRecDepth 20000 in
theorem kX0_32 : Cond.methodLink RX0 32 yX0_setSlot ∈ lw_ok := lwm 201 (by decide +kernel) (by decide +kernel)
set_option maxRecDepth 20000 in
theorem kX3_60 : Cond.methodLink RX3 60 yX3_readEdge ∈ lw_ok := lwm 205 (by decide +kernel) (by decide +kernel)
set_option maxRecDepth 20000 in
theorem kX3_68 : Cond.methodLink RX3 68 yX0_sizeOf ∈ lw_ok := lwm 209 (by decide +kernel) (by decide +kernel)
set_option maxRecDepth 20000 in
theorem kX0_25 : Cond.methodLink RX0 25 yX0_slot ∈ lw_ok := lwm 213 (by decide +kernel) (by decide +kernel)
set_option maxRecDepth 20000 in
theorem kX3_71 : Cond.methodLink RX3 71 yX0_addEdge ∈ lw_ok := lwm 217 (by decide +kernel) (by decide +kernel)
set_option maxRecDepth 20000 in
theorem kX0_21 : Cond.methodLink RX0 21 yX0_sizeOf ∈ lw_ok := lwm 221 (by decide +kernel) (by decide +kernel)
set_option maxRecDepth 20000 in
theorem kX0_51 : Cond.methodLink RX0 51 yX0_setWeight ∈ lw_ok := lwm 222 (by decide +kernel) (by decide +kernel)
set_option maxRecDepth 20000 in
theorem kX0_55 : Cond.methodLink RX0 55 yX0_setNumber ∈ lw_ok := lwm 226 (by decide +kernel) (by decide +kernel)
set_option maxRecDepth 20000 in
theorem kX3_64 : Cond.methodLink RX3 64 yX3_readFace ∈ lw_ok := lwm 230 (by decide +kernel) (by decide +kernel)
set_option maxRecDepth 20000 in
theorem kX3_29 : Cond.methodLink RX3 29 yX4_clear ∈ lw_ok := lwm 234 (by decide +kernel) (by decide +kernel)
set_option maxRecDepth 20000 in
theorem kX3_75 : Cond.methodLink RX3 75 yX4_edgeOf ∈ lw_ok := lwm 238 (by decide +kernel) (by decide +kernel)
set_option maxRecDepth 20000 in
theorem kX3_38 : Cond.methodLink RX3 38 yX4_append ∈ lw_ok := lwm 241 (by decide +kernel) (by decide +kernel)
set_option maxRecDepth 20000 in
theorem kX4_23 : Cond.methodLink RX4 23 yX4_edgeOf ∈ lw_ok := lwm 246 (by decide +kernel) (by decide +kernel)
set_option maxRecDepth 20000 in
theorem kX4_27 : Cond.methodLink RX4 27 yX0_hasCell ∈ lw_ok := lwm 247 (by decide +kernel) (by decide +kernel)
set_option maxRecDepth 20000 in
theorem kX4_32 : Cond.methodLink RX4 32 yX0_beginOf ∈ lw_ok := lwm 252 (by decide +kernel) (by decide +kernel)
set_option maxRecDepth 20000 in
theorem kX0_36 : Cond.methodLink RX0 36 yX4_edgeOf ∈ lw_ok := lwm 256 (by decide +kernel) (by decide +kernel)
set_option maxRecDepth 20000 in
theorem kX0_41 : Cond.methodLink RX0 41 yX4_isBackward ∈ lw_ok := lwm 257 (by decide +kernel) (by decide +kernel)
set_option maxRecDepth 20000 in
theorem kX0_45 : Cond.methodLink RX0 45 yX0_toOf ∈ lw_ok := lwm 260 (by decide +kernel) (by decide +kernel)
set_option maxRecDepth 20000 in
theorem kX0_48 : Cond.methodLink RX0 48 yX0_fromOf ∈ lw_ok := lwm 264 (by decide +kernel) (by decide +kernel)
set_option maxRecDepth 20000 in
theorem kX4_35 : Cond.methodLink RX4 35 yX4_letterAt ∈ lw_ok := lwm 268 (by decide +kernel) (by decide +kernel)
set_option maxRecDepth 20000 in
theorem kX4_38 : Cond.methodLink RX4 38 yX0_endOf ∈ lw_ok := lwm 272 (by decide +kernel) (by decide +kernel)
set_option maxRecDepth 20000 in
theorem kX3_78 : Cond.methodLink RX3 78 yX4_size ∈ lw_ok := lwm 276 (by decide +kernel) (by decide +kernel)
set_option maxRecDepth 20000 in
theorem kX3_42 : Cond.methodLink RX3 42 yX4_isClosed ∈ lw_ok := lwm 280 (by decide +kernel) (by decide +kernel)
set_option maxRecDepth 20000 in
theorem kX3_81 : Cond.methodLink RX3 81 yX0_addFace ∈ lw_ok := lwm 284 (by decide +kernel) (by decide +kernel)
set_option maxRecDepth 20000 in
theorem kX0_58 : Cond.methodLink RX0 58 yX4_size ∈ lw_ok := lwm 288 (by decide +kernel) (by decide +kernel)
set_option maxRecDepth 20000 in
theorem kX0_62 : Cond.methodLink RX0 62 yX4_letterAt ∈ lw_ok := lwm 289 (by decide +kernel) (by decide +kernel)
set_option maxRecDepth 20000 in
theorem kX5_79 : Cond.methodLink RX5 79 yX3_clear ∈ lw_ok := lwm 290 (by decide +kernel) (by decide +kernel)
set_option maxRecDepth 20000 in
theorem kX5_82 : Cond.methodLink RX5 82 yX3_faultRead ∈ lw_ok := lwm 294 (by decide +kernel) (by decide +kernel)
set_option maxRecDepth 20000 in
theorem kX5_86 : Cond.methodLink RX5 86 yX3_place ∈ lw_ok := lwm 299 (by decide +kernel) (by decide +kernel)
set_option maxRecDepth 20000 in
theorem kX5_89 : Cond.methodLink RX5 89 yX0_row ∈ lw_ok := lwm 303 (by decide +kernel) (by decide +kernel)
set_option maxRecDepth 20000 in
theorem kX5_93 : Cond.methodLink RX5 93 yX0_loadFrom ∈ lw_ok := lwm 307 (by decide +kernel) (by decide +kernel)
set_option maxRecDepth 20000 in
theorem kX5_97 : Cond.methodLink RX5 97 yX0_sizeOf ∈ lw_ok := lwm 314 (by decide +kernel) (by decide +kernel)
set_option maxRecDepth 20000 in
theorem kL_93 : Cond.methodLink RL 93 yX5_weigh ∈ lw_ok := lwm 315 (by decide +kernel) (by decide +kernel)
set_option maxRecDepth 20000 in
theorem kX5_106 : Cond.methodLink RX5 106 yX5_isUpperCell ∈ lw_ok := lwm 319 (by decide +kernel) (by decide +kernel)
set_option maxRecDepth 20000 in
theorem kX5_127 : Cond.methodLink RX5 127 yX0_hasCell ∈ lw_ok := lwm 323 (by decide +kernel) (by decide +kernel)
set_option maxRecDepth 20000 in
theorem kX5_109 : Cond.methodLink RX5 109 yX5_isWeight ∈ lw_ok := lwm 324 (by decide +kernel) (by decide +kernel)
set_option maxRecDepth 20000 in
theorem kX5_112 : Cond.methodLink RX5 112 yX0_weightOf ∈ lw_ok := lwm 328 (by decide +kernel) (by decide +kernel)
set_option maxRecDepth 20000 in
theorem kX5_116 : Cond.methodLink RX5 116 yX5_keepAct ∈ lw_ok := lwm 332 (by decide +kernel) (by decide +kernel)
set_option maxRecDepth 20000 in
theorem kX5_101 : Cond.methodLink RX5 101 yX5_isWithin ∈ lw_ok := lwm 336 (by decide +kernel) (by decide +kernel)
set_option maxRecDepth 20000 in
theorem kX5_275 : Cond.methodLink RX5 275 yX0_saveTo ∈ lw_ok := lwm 337 (by decide +kernel) (by decide +kernel)
set_option maxRecDepth 20000 in
theorem kX5_282 : Cond.methodLink RX5 282 yJ9_min_7cf53 ∈ lw_ok := lwm 341 (by decide +kernel) (by decide +kernel)
set_option maxRecDepth 20000 in
theorem kX5_119 : Cond.methodLink RX5 119 yX0_setWeight ∈ lw_ok := lwm 344 (by decide +kernel) (by decide +kernel)
set_option maxRecDepth 20000 in
theorem kL_100 : Cond.methodLink RL 100 yX5_edge ∈ lw_ok := lwm 345 (by decide +kernel) (by decide +kernel)
set_option maxRecDepth 20000 in
theorem kX5_123 : Cond.methodLink RX5 123 yX0_isThere ∈ lw_ok := lwm 349 (by decide +kernel) (by decide +kernel)
set_option maxRecDepth 20000 in
theorem kX5_130 : Cond.methodLink RX5 130 yX0_addEdge ∈ lw_ok := lwm 355 (by decide +kernel) (by decide +kernel)
set_option maxRecDepth 20000 in
theorem kL_104 : Cond.methodLink RL 104 yX5_face ∈ lw_ok := lwm 356 (by decide +kernel) (by decide +kernel)
set_option maxRecDepth 20000 in
theorem kX5_133 : Cond.methodLink RX5 133 yX3_readWord ∈ lw_ok := lwm 360 (by decide +kernel) (by decide +kernel)
set_option maxRecDepth 20000 in
theorem kX5_136 : Cond.methodLink RX5 136 yX0_addFace ∈ lw_ok := lwm 364 (by decide +kernel) (by decide +kernel)
set_option maxRecDepth 20000 in
theorem kL_119 : Cond.methodLink RL 119 yX5_put ∈ lw_ok := lwm 365 (by decide +kernel) (by decide +kernel)
set_option maxRecDepth 20000 in
theorem kX5_150 : Cond.methodLink RX5 150 yX5_isChain ∈ lw_ok := lwm 369 (by decide +kernel) (by decide +kernel)
set_option maxRecDepth 20000 in
theorem kX5_153 : Cond.methodLink RX5 153 yX5_isNumber ∈ lw_ok := lwm 372 (by decide +kernel) (by decide +kernel)
set_option maxRecDepth 20000 in
theorem kX5_156 : Cond.methodLink RX5 156 yX0_numberAt ∈ lw_ok := lwm 375 (by decide +kernel) (by decide +kernel)
set_option maxRecDepth 20000 in
theorem kX5_159 : Cond.methodLink RX5 159 yX0_setNumber ∈ lw_ok := lwm 379 (by decide +kernel) (by decide +kernel)
set_option maxRecDepth 20000 in
theorem kL_136 : Cond.methodLink RL 136 yX5_drawn ∈ lw_ok := lwm 380 (by decide +kernel) (by decide +kernel)
set_option maxRecDepth 20000 in
theorem kX5_166 : Cond.methodLink RX5 166 yX0_numbersNotZero ∈ lw_ok := lwm 388 (by decide +kernel) (by decide +kernel)
set_option maxRecDepth 20000 in
theorem kX0_74 : Cond.methodLink RX0 74 yX0_numberAt ∈ lw_ok := lwm 392 (by decide +kernel) (by decide +kernel)
set_option maxRecDepth 20000 in
theorem kL_83 : Cond.methodLink RL 83 yX5_as ∈ lw_ok := lwm 393 (by decide +kernel) (by decide +kernel)
set_option maxRecDepth 20000 in
theorem kX5_192 : Cond.methodLink RX5 192 yX0_isOfKind ∈ lw_ok := lwm 397 (by decide +kernel) (by decide +kernel)
set_option maxRecDepth 20000 in
theorem kX0_81 : Cond.methodLink RX0 81 yX0_isSealed ∈ lw_ok := lwm 401 (by decide +kernel) (by decide +kernel)
set_option maxRecDepth 20000 in
theorem kX0_84 : Cond.methodLink RX0 84 yX0_entryOf ∈ lw_ok := lwm 405 (by decide +kernel) (by decide +kernel)
set_option maxRecDepth 20000 in
theorem kX0_65 : Cond.methodLink RX0 65 yX0_wordSize ∈ lw_ok := lwm 409 (by decide +kernel) (by decide +kernel)
set_option maxRecDepth 20000 in
theorem kX0_68 : Cond.methodLink RX0 68 yX0_letterAt ∈ lw_ok := lwm 413 (by decide +kernel) (by decide +kernel)
set_option maxRecDepth 20000 in
theorem kL_158 : Cond.methodLink RL 158 yX5_rank ∈ lw_ok := lwm 418 (by decide +kernel) (by decide +kernel)
set_option maxRecDepth 20000 in
theorem kX5_199 : Cond.methodLink RX5 199 yX5_isField ∈ lw_ok := lwm 422 (by decide +kernel) (by decide +kernel)
set_option maxRecDepth 20000 in
theorem kX5_202 : Cond.methodLink RX5 202 yX5_tableRank ∈ lw_ok := lwm 425 (by decide +kernel) (by decide +kernel)
set_option maxRecDepth 20000 in
theorem kX5_205 : Cond.methodLink RX5 205 yX1_loadTable ∈ lw_ok := lwm 429 (by decide +kernel) (by decide +kernel)
set_option maxRecDepth 20000 in
theorem kX1_25 : Cond.methodLink RX1 25 yX0_sizeOf ∈ lw_ok := lwm 433 (by decide +kernel) (by decide +kernel)
set_option maxRecDepth 20000 in
theorem kX1_31 : Cond.methodLink RX1 31 yJ9_min_7cf53 ∈ lw_ok := lwm 434 (by decide +kernel) (by decide +kernel)
set_option maxRecDepth 20000 in
theorem kX1_37 : Cond.methodLink RX1 37 yX0_entryOf ∈ lw_ok := lwm 435 (by decide +kernel) (by decide +kernel)
set_option maxRecDepth 20000 in
theorem kX5_209 : Cond.methodLink RX5 209 yX1_fillMinors ∈ lw_ok := lwm 436 (by decide +kernel) (by decide +kernel)
set_option maxRecDepth 20000 in
theorem kX1_53 : Cond.methodLink RX1 53 yJ6_bitCount_0f7a4 ∈ lw_ok := lwm 440 (by decide +kernel) (by decide +kernel)
set_option maxRecDepth 20000 in
theorem kX1_58 : Cond.methodLink RX1 58 yX1_expandedMinor ∈ lw_ok := lwm 447 (by decide +kernel) (by decide +kernel)
set_option maxRecDepth 20000 in
theorem kX1_62 : Cond.methodLink RX1 62 yX1_minorOf ∈ lw_ok := lwm 451 (by decide +kernel) (by decide +kernel)
set_option maxRecDepth 20000 in
theorem kX5_257 : Cond.methodLink RX5 257 yX1_allColumns ∈ lw_ok := lwm 455 (by decide +kernel) (by decide +kernel)
set_option maxRecDepth 20000 in
theorem kX5_212 : Cond.methodLink RX5 212 yX1_rankBy ∈ lw_ok := lwm 459 (by decide +kernel) (by decide +kernel)
set_option maxRecDepth 20000 in
theorem kX1_65 : Cond.methodLink RX1 65 yX1_isZero ∈ lw_ok := lwm 463 (by decide +kernel) (by decide +kernel)
set_option maxRecDepth 20000 in
theorem kL_160 : Cond.methodLink RL 160 yX5_holes ∈ lw_ok := lwm 466 (by decide +kernel) (by decide +kernel)
set_option maxRecDepth 20000 in
theorem kL_87 : Cond.methodLink RL 87 yX5_chain ∈ lw_ok := lwm 470 (by decide +kernel) (by decide +kernel)
set_option maxRecDepth 20000 in
theorem kL_73 : Cond.methodLink RL 73 yX5_count ∈ lw_ok := lwm 474 (by decide +kernel) (by decide +kernel)
set_option maxRecDepth 20000 in
theorem kX5_70 : Cond.methodLink RX5 70 yX3_size ∈ lw_ok := lwm 478 (by decide +kernel) (by decide +kernel)
set_option maxRecDepth 20000 in
theorem kL_63 : Cond.methodLink RL 63 yL_cell ∈ lw_ok := lwm 482 (by decide +kernel) (by decide +kernel)
set_option maxRecDepth 20000 in
theorem kL_164 : Cond.methodLink RL 164 yL_begins ∈ lw_ok := lwm 486 (by decide +kernel) (by decide +kernel)
set_option maxRecDepth 20000 in
theorem kL_46 : Cond.methodLink RL 46 yL_less ∈ lw_ok := lwm 489 (by decide +kernel) (by decide +kernel)
set_option maxRecDepth 20000 in
theorem kL_58 : Cond.methodLink RL 58 yX5_feed ∈ lw_ok := lwm 493 (by decide +kernel) (by decide +kernel)
set_option maxRecDepth 20000 in
theorem kX5_66 : Cond.methodLink RX5 66 yX3_append ∈ lw_ok := lwm 497 (by decide +kernel) (by decide +kernel)
set_option maxRecDepth 20000 in
theorem kL_66 : Cond.methodLink RL 66 yL_word ∈ lw_ok := lwm 501 (by decide +kernel) (by decide +kernel)
set_option maxRecDepth 20000 in
theorem kL_49 : Cond.methodLink RL 49 yL_begin ∈ lw_ok := lwm 504 (by decide +kernel) (by decide +kernel)
set_option maxRecDepth 20000 in
theorem kL_52 : Cond.methodLink RL 52 yL_end ∈ lw_ok := lwm 507 (by decide +kernel) (by decide +kernel)
set_option maxRecDepth 20000 in
theorem kL_69 : Cond.methodLink RL 69 yL_spells ∈ lw_ok := lwm 510 (by decide +kernel) (by decide +kernel)
set_option maxRecDepth 20000 in
theorem kL_55 : Cond.methodLink RL 55 yL_code ∈ lw_ok := lwm 513 (by decide +kernel) (by decide +kernel)
set_option maxRecDepth 20000 in
theorem kL_172 : Cond.methodLink RL 172 yL_told ∈ lw_ok := lwm 516 (by decide +kernel) (by decide +kernel)
set_option maxRecDepth 20000 in
theorem kL_76 : Cond.methodLink RL 76 yX5_table ∈ lw_ok := lwm 519 (by decide +kernel) (by decide +kernel)
set_option maxRecDepth 20000 in
theorem kX5_162 : Cond.methodLink RX5 162 yX0_entryOf ∈ lw_ok := lwm 523 (by decide +kernel) (by decide +kernel)
set_option maxRecDepth 20000 in
theorem kL_81 : Cond.methodLink RL 81 yX5_cell ∈ lw_ok := lwm 525 (by decide +kernel) (by decide +kernel)
set_option maxRecDepth 20000 in
theorem kX5_176 : Cond.methodLink RX5 176 yX0_fromOf ∈ lw_ok := lwm 529 (by decide +kernel) (by decide +kernel)
set_option maxRecDepth 20000 in
theorem kX5_179 : Cond.methodLink RX5 179 yX0_wordSize ∈ lw_ok := lwm 530 (by decide +kernel) (by decide +kernel)
set_option maxRecDepth 20000 in
theorem kX5_182 : Cond.methodLink RX5 182 yX0_toOf ∈ lw_ok := lwm 531 (by decide +kernel) (by decide +kernel)
set_option maxRecDepth 20000 in
theorem kX5_185 : Cond.methodLink RX5 185 yX0_letterAt ∈ lw_ok := lwm 532 (by decide +kernel) (by decide +kernel)
set_option maxRecDepth 20000 in
theorem kX5_188 : Cond.methodLink RX5 188 yX0_beginOf ∈ lw_ok := lwm 533 (by decide +kernel) (by decide +kernel)
set_option maxRecDepth 20000 in
theorem kL_9 : Cond.methodLink RL 9 yL_one ∈ lw_ok := lwm 535 (by decide +kernel) (by decide +kernel)
set_option maxRecDepth 20000 in
theorem kL_15 : Cond.methodLink RL 15 yL_two ∈ lw_ok := lwm 538 (by decide +kernel) (by decide +kernel)
set_option maxRecDepth 20000 in
theorem kL_90 : Cond.methodLink RL 90 yX5_ends ∈ lw_ok := lwm 541 (by decide +kernel) (by decide +kernel)
set_option maxRecDepth 20000 in
theorem kX5_219 : Cond.methodLink RX5 219 yX0_boundaryAt ∈ lw_ok := lwm 545 (by decide +kernel) (by decide +kernel)
set_option maxRecDepth 20000 in
theorem kL_180 : Cond.methodLink RL 180 yL_act ∈ lw_ok := lwm 549 (by decide +kernel) (by decide +kernel)
set_option maxRecDepth 20000 in
theorem kL_96 : Cond.methodLink RL 96 yL_noted ∈ lw_ok := lwm 552 (by decide +kernel) (by decide +kernel)
set_option maxRecDepth 20000 in
theorem kL_107 : Cond.methodLink RL 107 yX5_drop ∈ lw_ok := lwm 556 (by decide +kernel) (by decide +kernel)
set_option maxRecDepth 20000 in
theorem kX5_140 : Cond.methodLink RX5 140 yX0_isSewn ∈ lw_ok := lwm 560 (by decide +kernel) (by decide +kernel)
set_option maxRecDepth 20000 in
theorem kX5_143 : Cond.methodLink RX5 143 yX0_removeEdge ∈ lw_ok := lwm 564 (by decide +kernel) (by decide +kernel)
set_option maxRecDepth 20000 in
theorem kX0_71 : Cond.methodLink RX0 71 yX0_weightOf ∈ lw_ok := lwm 568 (by decide +kernel) (by decide +kernel)
set_option maxRecDepth 20000 in
theorem kX0_77 : Cond.methodLink RX0 77 yX0_lowerLettersBehind ∈ lw_ok := lwm 569 (by decide +kernel) (by decide +kernel)
set_option maxRecDepth 20000 in
theorem kX5_147 : Cond.methodLink RX5 147 yX0_removeFace ∈ lw_ok := lwm 573 (by decide +kernel) (by decide +kernel)
set_option maxRecDepth 20000 in
theorem kL_110 : Cond.methodLink RL 110 yL_spelled ∈ lw_ok := lwm 577 (by decide +kernel) (by decide +kernel)
set_option maxRecDepth 20000 in
theorem kL_115 : Cond.methodLink RL 115 yL_gone ∈ lw_ok := lwm 581 (by decide +kernel) (by decide +kernel)
set_option maxRecDepth 20000 in
theorem kL_122 : Cond.methodLink RL 122 yX5_bound ∈ lw_ok := lwm 584 (by decide +kernel) (by decide +kernel)
set_option maxRecDepth 20000 in
theorem kL_125 : Cond.methodLink RL 125 yL_others ∈ lw_ok := lwm 588 (by decide +kernel) (by decide +kernel)
set_option maxRecDepth 20000 in
theorem kL_176 : Cond.methodLink RL 176 yL_measured ∈ lw_ok := lwm 595 (by decide +kernel) (by decide +kernel)
set_option maxRecDepth 20000 in
theorem kL_139 : Cond.methodLink RL 139 yX5_near ∈ lw_ok := lwm 598 (by decide +kernel) (by decide +kernel)
set_option maxRecDepth 20000 in
theorem kX5_196 : Cond.methodLink RX5 196 yX0_nearOf ∈ lw_ok := lwm 602 (by decide +kernel) (by decide +kernel)
set_option maxRecDepth 20000 in
theorem kL_142 : Cond.methodLink RL 142 yL_near ∈ lw_ok := lwm 606 (by decide +kernel) (by decide +kernel)
set_option maxRecDepth 20000 in
theorem kL_144 : Cond.methodLink RL 144 yL_all ∈ lw_ok := lwm 609 (by decide +kernel) (by decide +kernel)
set_option maxRecDepth 20000 in
theorem kL_147 : Cond.methodLink RL 147 yL_rankOf ∈ lw_ok := lwm 612 (by decide +kernel) (by decide +kernel)
set_option maxRecDepth 20000 in
theorem kL_18 : Cond.methodLink RL 18 yL_ones ∈ lw_ok := lwm 615 (by decide +kernel) (by decide +kernel)
set_option maxRecDepth 20000 in
theorem kL_30 : Cond.methodLink RL 30 yL_rows ∈ lw_ok := lwm 618 (by decide +kernel) (by decide +kernel)
set_option maxRecDepth 20000 in
theorem kL_22 : Cond.methodLink RL 22 yL_nth ∈ lw_ok := lwm 621 (by decide +kernel) (by decide +kernel)
set_option maxRecDepth 20000 in
theorem kL_26 : Cond.methodLink RL 26 yL_at ∈ lw_ok := lwm 624 (by decide +kernel) (by decide +kernel)
set_option maxRecDepth 20000 in
theorem kL_34 : Cond.methodLink RL 34 yL_rank ∈ lw_ok := lwm 627 (by decide +kernel) (by decide +kernel)
set_option maxRecDepth 20000 in
theorem kL_151 : Cond.methodLink RL 151 yL_prime ∈ lw_ok := lwm 630 (by decide +kernel) (by decide +kernel)
set_option maxRecDepth 20000 in
theorem kL_154 : Cond.methodLink RL 154 yL_divisor ∈ lw_ok := lwm 633 (by decide +kernel) (by decide +kernel)
set_option maxRecDepth 20000 in
theorem kL_38 : Cond.methodLink RL 38 yL_minor ∈ lw_ok := lwm 636 (by decide +kernel) (by decide +kernel)
set_option maxRecDepth 20000 in
theorem kL_42 : Cond.methodLink RL 42 yL_gcd ∈ lw_ok := lwm 639 (by decide +kernel) (by decide +kernel)
def lw_nst : List (String × Nat × MethodName × String) := [("ChainParts", 9, ⟨"ChainParts$Cells", "<init>", "()V"⟩, "ChainParts"), ("ChainParts", 21, ⟨"ChainParts$Tape", "<init>", "()V"⟩, "ChainParts"), ("ChainParts", 28, ⟨"ChainParts$Word", "<init>", "()V"⟩, "ChainParts"), ("ChainParts", 35, ⟨"ChainParts$Grid", "<init>", "()V"⟩, "ChainParts"), ("ChainParts", 42, ⟨"ChainParts$Split", "<init>", "()V"⟩, "ChainParts"), ("ChainParts$Tape", 25, ⟨"ChainParts", "isWithin", "(II)Z"⟩, "ChainParts"), ("ChainParts$Word", 19, ⟨"ChainParts", "isWithin", "(II)Z"⟩, "ChainParts"), ("ChainParts$Cells", 28, ⟨"ChainParts", "isWithin", "(II)Z"⟩, "ChainParts"), ("ChainParts$Grid", 44, ⟨"ChainParts", "isWithin", "(II)Z"⟩, "ChainParts")]
set_option maxRecDepth 20000 in
theorem lw_nst_in : ∀ q ∈ lw_nst, Cond.methodLinkNest q.1 q.2.1 q.2.2.1 q.2.2.2 ∈ lw_tbl := by
  intro q h
  unfold lw_nst at h
  simp only [List.mem_cons, List.not_mem_nil, or_false] at h
  rcases h with rfl | rfl | rfl | rfl | rfl | rfl | rfl | rfl | rfl
  · exact List.mem_of_getElem? (i := 33) (by decide +kernel)
  · exact List.mem_of_getElem? (i := 44) (by decide +kernel)
  · exact List.mem_of_getElem? (i := 63) (by decide +kernel)
  · exact List.mem_of_getElem? (i := 76) (by decide +kernel)
  · exact List.mem_of_getElem? (i := 98) (by decide +kernel)
  · exact List.mem_of_getElem? (i := 190) (by decide +kernel)
  · exact List.mem_of_getElem? (i := 245) (by decide +kernel)
  · exact List.mem_of_getElem? (i := 251) (by decide +kernel)
  · exact List.mem_of_getElem? (i := 446) (by decide +kernel)
/-- a field that an instruction of own names by index: its class in vwCl and its slot -/
def FL (own : String) (idx ci j : Nat) : Prop := ∃ (C : String) (T : u_T) (N : Nat), vwCl[ci]? = some (C, T, N) ∧ j < N ∧ C = own ∧ Cond.fieldLink own idx (T j).1 (T j).2.1 (T j).2.2.1 ∈ lw_ok
set_option maxRecDepth 20000 in
theorem fX0_11 : FL RX0 11 0 0 := ⟨RX0, TX0, 1, rfl, by decide +kernel, rfl, lwm 37 (by decide +kernel) (by decide +kernel)⟩
set_option maxRecDepth 20000 in
theorem fX3_9 : FL RX3 9 3 0 := ⟨RX3, TX3, 4, rfl, by decide +kernel, rfl, lwm 48 (by decide +kernel) (by decide +kernel)⟩
set_option maxRecDepth 20000 in
theorem fX3_15 : FL RX3 15 3 1 := ⟨RX3, TX3, 4, rfl, by decide +kernel, rfl, lwm 49 (by decide +kernel) (by decide +kernel)⟩
set_option maxRecDepth 20000 in
theorem fX3_19 : FL RX3 19 3 2 := ⟨RX3, TX3, 4, rfl, by decide +kernel, rfl, lwm 50 (by decide +kernel) (by decide +kernel)⟩
set_option maxRecDepth 20000 in
theorem fX3_22 : FL RX3 22 3 3 := ⟨RX3, TX3, 4, rfl, by decide +kernel, rfl, lwm 51 (by decide +kernel) (by decide +kernel)⟩
set_option maxRecDepth 20000 in
theorem fX4_9 : FL RX4 9 4 0 := ⟨RX4, TX4, 2, rfl, by decide +kernel, rfl, lwm 67 (by decide +kernel) (by decide +kernel)⟩
set_option maxRecDepth 20000 in
theorem fX4_15 : FL RX4 15 4 1 := ⟨RX4, TX4, 2, rfl, by decide +kernel, rfl, lwm 68 (by decide +kernel) (by decide +kernel)⟩
set_option maxRecDepth 20000 in
theorem fX1_11 : FL RX1 11 1 0 := ⟨RX1, TX1, 4, rfl, by decide +kernel, rfl, lwm 82 (by decide +kernel) (by decide +kernel)⟩
set_option maxRecDepth 20000 in
theorem fX1_14 : FL RX1 14 1 1 := ⟨RX1, TX1, 4, rfl, by decide +kernel, rfl, lwm 83 (by decide +kernel) (by decide +kernel)⟩
set_option maxRecDepth 20000 in
theorem fX1_18 : FL RX1 18 1 2 := ⟨RX1, TX1, 4, rfl, by decide +kernel, rfl, lwm 84 (by decide +kernel) (by decide +kernel)⟩
set_option maxRecDepth 20000 in
theorem fX1_22 : FL RX1 22 1 3 := ⟨RX1, TX1, 4, rfl, by decide +kernel, rfl, lwm 85 (by decide +kernel) (by decide +kernel)⟩
set_option maxRecDepth 20000 in
theorem fX2_9 : FL RX2 9 2 0 := ⟨RX2, TX2, 10, rfl, by decide +kernel, rfl, lwm 103 (by decide +kernel) (by decide +kernel)⟩
set_option maxRecDepth 20000 in
theorem fX2_15 : FL RX2 15 2 1 := ⟨RX2, TX2, 10, rfl, by decide +kernel, rfl, lwm 104 (by decide +kernel) (by decide +kernel)⟩
set_option maxRecDepth 20000 in
theorem fX2_19 : FL RX2 19 2 2 := ⟨RX2, TX2, 10, rfl, by decide +kernel, rfl, lwm 105 (by decide +kernel) (by decide +kernel)⟩
set_option maxRecDepth 20000 in
theorem fX2_23 : FL RX2 23 2 3 := ⟨RX2, TX2, 10, rfl, by decide +kernel, rfl, lwm 106 (by decide +kernel) (by decide +kernel)⟩
set_option maxRecDepth 20000 in
theorem fX2_26 : FL RX2 26 2 4 := ⟨RX2, TX2, 10, rfl, by decide +kernel, rfl, lwm 107 (by decide +kernel) (by decide +kernel)⟩
set_option maxRecDepth 20000 in
theorem fX2_31 : FL RX2 31 2 5 := ⟨RX2, TX2, 10, rfl, by decide +kernel, rfl, lwm 108 (by decide +kernel) (by decide +kernel)⟩
set_option maxRecDepth 20000 in
theorem fX2_34 : FL RX2 34 2 6 := ⟨RX2, TX2, 10, rfl, by decide +kernel, rfl, lwm 109 (by decide +kernel) (by decide +kernel)⟩
set_option maxRecDepth 20000 in
theorem fX2_37 : FL RX2 37 2 7 := ⟨RX2, TX2, 10, rfl, by decide +kernel, rfl, lwm 110 (by decide +kernel) (by decide +kernel)⟩
set_option maxRecDepth 20000 in
theorem fX2_40 : FL RX2 40 2 8 := ⟨RX2, TX2, 10, rfl, by decide +kernel, rfl, lwm 111 (by decide +kernel) (by decide +kernel)⟩
set_option maxRecDepth 20000 in
theorem fX2_43 : FL RX2 43 2 9 := ⟨RX2, TX2, 10, rfl, by decide +kernel, rfl, lwm 112 (by decide +kernel) (by decide +kernel)⟩
set_option maxRecDepth 20000 in
theorem fX5_10 : FL RX5 10 5 0 := ⟨RX5, TX5, 11, rfl, by decide +kernel, rfl, lwm 136 (by decide +kernel) (by decide +kernel)⟩
set_option maxRecDepth 20000 in
theorem fX5_16 : FL RX5 16 5 1 := ⟨RX5, TX5, 11, rfl, by decide +kernel, rfl, lwm 137 (by decide +kernel) (by decide +kernel)⟩
set_option maxRecDepth 20000 in
theorem fX5_22 : FL RX5 22 5 2 := ⟨RX5, TX5, 11, rfl, by decide +kernel, rfl, lwm 138 (by decide +kernel) (by decide +kernel)⟩
set_option maxRecDepth 20000 in
theorem fX5_29 : FL RX5 29 5 3 := ⟨RX5, TX5, 11, rfl, by decide +kernel, rfl, lwm 139 (by decide +kernel) (by decide +kernel)⟩
set_option maxRecDepth 20000 in
theorem fX5_36 : FL RX5 36 5 4 := ⟨RX5, TX5, 11, rfl, by decide +kernel, rfl, lwm 140 (by decide +kernel) (by decide +kernel)⟩
set_option maxRecDepth 20000 in
theorem fX5_43 : FL RX5 43 5 5 := ⟨RX5, TX5, 11, rfl, by decide +kernel, rfl, lwm 141 (by decide +kernel) (by decide +kernel)⟩
set_option maxRecDepth 20000 in
theorem fX5_49 : FL RX5 49 5 6 := ⟨RX5, TX5, 11, rfl, by decide +kernel, rfl, lwm 142 (by decide +kernel) (by decide +kernel)⟩
set_option maxRecDepth 20000 in
theorem fX5_52 : FL RX5 52 5 7 := ⟨RX5, TX5, 11, rfl, by decide +kernel, rfl, lwm 143 (by decide +kernel) (by decide +kernel)⟩
set_option maxRecDepth 20000 in
theorem fX5_55 : FL RX5 55 5 8 := ⟨RX5, TX5, 11, rfl, by decide +kernel, rfl, lwm 144 (by decide +kernel) (by decide +kernel)⟩
set_option maxRecDepth 20000 in
theorem fX5_59 : FL RX5 59 5 9 := ⟨RX5, TX5, 11, rfl, by decide +kernel, rfl, lwm 145 (by decide +kernel) (by decide +kernel)⟩
set_option maxRecDepth 20000 in
theorem fX5_62 : FL RX5 62 5 10 := ⟨RX5, TX5, 11, rfl, by decide +kernel, rfl, lwm 146 (by decide +kernel) (by decide +kernel)⟩
/-- what the tables say of a class of the world -/
def UW (q : vw_C) : Prop := (∀ w ∈ u_ws q.1 q.2.1 q.2.2, w ∈ lw_ok) ∧ (∃ ty0 : Nat → FieldType, ∀ k, k < q.2.2 → parseFieldDescriptor (q.2.1 k).2.2.1 = some (ty0 k)) ∧ (∀ a, a < q.2.2 → ∀ b, b < q.2.2 → a ≠ b → (q.2.1 a).2.1 ≠ (q.2.1 b).2.1)
set_option maxRecDepth 20000 in
theorem uwX0 : UW (RX0, TX0, 1) := by
  refine ⟨?_, ⟨tyX0, tyX0_ok⟩, nmX0⟩
  intro w h
  obtain ⟨k, hk, rfl⟩ := List.mem_map.mp h
  have hk : k < 1 := List.mem_range.mp hk
  rcases (show k = 0 by omega) with rfl
  · exact lwm 38 (by decide +kernel) (by decide +kernel)
set_option maxRecDepth 20000 in
theorem uwX1 : UW (RX1, TX1, 4) := by
  refine ⟨?_, ⟨tyX1, tyX1_ok⟩, nmX1⟩
  intro w h
  obtain ⟨k, hk, rfl⟩ := List.mem_map.mp h
  have hk : k < 4 := List.mem_range.mp hk
  rcases (show k = 0 ∨ k = 1 ∨ k = 2 ∨ k = 3 by omega) with rfl | rfl | rfl | rfl
  · exact lwm 86 (by decide +kernel) (by decide +kernel)
  · exact lwm 88 (by decide +kernel) (by decide +kernel)
  · exact lwm 90 (by decide +kernel) (by decide +kernel)
  · exact lwm 92 (by decide +kernel) (by decide +kernel)
set_option maxRecDepth 20000 in
theorem uwX2 : UW (RX2, TX2, 10) := by
  refine ⟨?_, ⟨tyX2, tyX2_ok⟩, nmX2⟩
  intro w h
  obtain ⟨k, hk, rfl⟩ := List.mem_map.mp h
  have hk : k < 10 := List.mem_range.mp hk
  rcases (show k = 0 ∨ k = 1 ∨ k = 2 ∨ k = 3 ∨ k = 4 ∨ k = 5 ∨ k = 6 ∨ k = 7 ∨ k = 8 ∨ k = 9 by omega) with rfl | rfl | rfl | rfl | rfl | rfl | rfl | rfl | rfl | rfl
  · exact lwm 113 (by decide +kernel) (by decide +kernel)
  · exact lwm 115 (by decide +kernel) (by decide +kernel)
  · exact lwm 117 (by decide +kernel) (by decide +kernel)
  · exact lwm 119 (by decide +kernel) (by decide +kernel)
  · exact lwm 121 (by decide +kernel) (by decide +kernel)
  · exact lwm 123 (by decide +kernel) (by decide +kernel)
  · exact lwm 125 (by decide +kernel) (by decide +kernel)
  · exact lwm 127 (by decide +kernel) (by decide +kernel)
  · exact lwm 129 (by decide +kernel) (by decide +kernel)
  · exact lwm 131 (by decide +kernel) (by decide +kernel)
set_option maxRecDepth 20000 in
theorem uwX3 : UW (RX3, TX3, 4) := by
  refine ⟨?_, ⟨tyX3, tyX3_ok⟩, nmX3⟩
  intro w h
  obtain ⟨k, hk, rfl⟩ := List.mem_map.mp h
  have hk : k < 4 := List.mem_range.mp hk
  rcases (show k = 0 ∨ k = 1 ∨ k = 2 ∨ k = 3 by omega) with rfl | rfl | rfl | rfl
  · exact lwm 52 (by decide +kernel) (by decide +kernel)
  · exact lwm 54 (by decide +kernel) (by decide +kernel)
  · exact lwm 56 (by decide +kernel) (by decide +kernel)
  · exact lwm 58 (by decide +kernel) (by decide +kernel)
set_option maxRecDepth 20000 in
theorem uwX4 : UW (RX4, TX4, 2) := by
  refine ⟨?_, ⟨tyX4, tyX4_ok⟩, nmX4⟩
  intro w h
  obtain ⟨k, hk, rfl⟩ := List.mem_map.mp h
  have hk : k < 2 := List.mem_range.mp hk
  rcases (show k = 0 ∨ k = 1 by omega) with rfl | rfl
  · exact lwm 69 (by decide +kernel) (by decide +kernel)
  · exact lwm 71 (by decide +kernel) (by decide +kernel)
set_option maxRecDepth 20000 in
theorem uwX5 : UW (RX5, TX5, 11) := by
  refine ⟨?_, ⟨tyX5, tyX5_ok⟩, nmX5⟩
  intro w h
  obtain ⟨k, hk, rfl⟩ := List.mem_map.mp h
  have hk : k < 11 := List.mem_range.mp hk
  rcases (show k = 0 ∨ k = 1 ∨ k = 2 ∨ k = 3 ∨ k = 4 ∨ k = 5 ∨ k = 6 ∨ k = 7 ∨ k = 8 ∨ k = 9 ∨ k = 10 by omega) with rfl | rfl | rfl | rfl | rfl | rfl | rfl | rfl | rfl | rfl | rfl
  · exact lwm 147 (by decide +kernel) (by decide +kernel)
  · exact lwm 149 (by decide +kernel) (by decide +kernel)
  · exact lwm 151 (by decide +kernel) (by decide +kernel)
  · exact lwm 153 (by decide +kernel) (by decide +kernel)
  · exact lwm 155 (by decide +kernel) (by decide +kernel)
  · exact lwm 157 (by decide +kernel) (by decide +kernel)
  · exact lwm 159 (by decide +kernel) (by decide +kernel)
  · exact lwm 161 (by decide +kernel) (by decide +kernel)
  · exact lwm 163 (by decide +kernel) (by decide +kernel)
  · exact lwm 165 (by decide +kernel) (by decide +kernel)
  · exact lwm 167 (by decide +kernel) (by decide +kernel)
set_option maxRecDepth 20000 in
theorem uw_all : ∀ (ci : Nat) (q : vw_C), vwCl[ci]? = some q → UW q := by
  intro ci q h
  match ci, h with
  | 0, h => cases h; exact uwX0
  | 1, h => cases h; exact uwX1
  | 2, h => cases h; exact uwX2
  | 3, h => cases h; exact uwX3
  | 4, h => cases h; exact uwX4
  | 5, h => cases h; exact uwX5
  | k + 6, h => simp [vwCl] at h
set_option maxRecDepth 20000 in
theorem qX5_85 : Cond.constant RX5 85 (-1000100) ∈ lw_ok := lwm 298 (by decide +kernel) (by decide +kernel)
set_option maxRecDepth 20000 in
theorem qX5_65 : Cond.constant RX5 65 (-1000001) ∈ lw_ok := lwm 327 (by decide +kernel) (by decide +kernel)
set_option maxRecDepth 20000 in
theorem qX5_105 : Cond.constant RX5 105 (-1000002) ∈ lw_ok := lwm 353 (by decide +kernel) (by decide +kernel)
set_option maxRecDepth 20000 in
theorem qX5_74 : Cond.constant RX5 74 (-1000003) ∈ lw_ok := lwm 354 (by decide +kernel) (by decide +kernel)
set_option maxRecDepth 20000 in
theorem qX5_169 : Cond.constant RX5 169 (999999) ∈ lw_ok := lwm 384 (by decide +kernel) (by decide +kernel)
set_option maxRecDepth 20000 in
theorem qX5_170 : Cond.constantLong RX5 170 (16807) ∈ lw_ok := lwm 385 (by decide +kernel) (by decide +kernel)
set_option maxRecDepth 20000 in
theorem qX5_172 : Cond.constantLong RX5 172 (2147483647) ∈ lw_ok := lwm 386 (by decide +kernel) (by decide +kernel)
set_option maxRecDepth 20000 in
theorem qX5_174 : Cond.constantLong RX5 174 (19) ∈ lw_ok := lwm 387 (by decide +kernel) (by decide +kernel)
set_option maxRecDepth 20000 in
theorem qX5_191 : Cond.constant RX5 191 (-1000000) ∈ lw_ok := lwm 417 (by decide +kernel) (by decide +kernel)
set_option maxRecDepth 20000 in
theorem qJ6_265 : Cond.constant RJ6 265 (1431655765) ∈ lw_ok := lwm 443 (by decide +kernel) (by decide +kernel)
set_option maxRecDepth 20000 in
theorem qJ6_266 : Cond.constant RJ6 266 (858993459) ∈ lw_ok := lwm 444 (by decide +kernel) (by decide +kernel)
set_option maxRecDepth 20000 in
theorem qJ6_267 : Cond.constant RJ6 267 (252645135) ∈ lw_ok := lwm 445 (by decide +kernel) (by decide +kernel)
set_option maxRecDepth 20000 in
theorem qL_7 : Cond.constant RL 7 (1327217884) ∈ lw_ok := lwm 485 (by decide +kernel) (by decide +kernel)
set_option maxRecDepth 20000 in
theorem qL_8 : Cond.constant RL 8 (2147483647) ∈ lw_ok := lwm 492 (by decide +kernel) (by decide +kernel)
set_option maxRecDepth 20000 in
theorem qL_80 : Cond.constant RL 80 (-1000001) ∈ lw_ok := lwm 524 (by decide +kernel) (by decide +kernel)
set_option maxRecDepth 20000 in
theorem qL_86 : Cond.constant RL 86 (-1000000) ∈ lw_ok := lwm 534 (by decide +kernel) (by decide +kernel)
set_option maxRecDepth 20000 in
theorem qL_103 : Cond.constant RL 103 (-1000003) ∈ lw_ok := lwm 555 (by decide +kernel) (by decide +kernel)
set_option maxRecDepth 20000 in
theorem qL_114 : Cond.constant RL 114 (-1000002) ∈ lw_ok := lwm 580 (by decide +kernel) (by decide +kernel)
set_option maxRecDepth 20000 in
theorem qL_129 : Cond.constant RL 129 (999999) ∈ lw_ok := lwm 591 (by decide +kernel) (by decide +kernel)
set_option maxRecDepth 20000 in
theorem qL_130 : Cond.constantLong RL 130 (16807) ∈ lw_ok := lwm 592 (by decide +kernel) (by decide +kernel)
set_option maxRecDepth 20000 in
theorem qL_132 : Cond.constantLong RL 132 (2147483647) ∈ lw_ok := lwm 593 (by decide +kernel) (by decide +kernel)
set_option maxRecDepth 20000 in
theorem qL_134 : Cond.constantLong RL 134 (19) ∈ lw_ok := lwm 594 (by decide +kernel) (by decide +kernel)
