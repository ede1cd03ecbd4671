
/-! ===== BEGIN printed: names, fields, word lists, decode rows ===== -/
def RX0 : String := "PageFeeder$Forecast"
def TX0 : u_T := fun k => match k with
  | 0 => ("PageFeeder$Forecast", "goods", "LPageFeeder$Goods;", true)
  | 1 => ("PageFeeder$Forecast", "thickStops", "I", false)
  | 2 => ("PageFeeder$Forecast", "thickSingles", "I", false)
  | 3 => ("PageFeeder$Forecast", "multiplesThrough", "I", false)
  | 4 => ("PageFeeder$Forecast", "pages", "I", false)
  | 5 => ("PageFeeder$Forecast", "removed", "I", false)
  | _ => ("PageFeeder$Forecast", "sameBelow", "I", false)
def tyX0 : Nat → FieldType := fun k => match k with
  | 0 => .object "PageFeeder$Goods"
  | 1 => .int
  | 2 => .int
  | 3 => .int
  | 4 => .int
  | 5 => .int
  | _ => .int
theorem nmX0 : ∀ a, a < 7 → ∀ b, b < 7 → a ≠ b → (TX0 a).2.1 ≠ (TX0 b).2.1 := by decide +kernel
theorem tyX0_ok : ∀ k, k < 7 → parseFieldDescriptor (TX0 k).2.2.1 = some (tyX0 k) := by decide +kernel
abbrev cX0_init : ByteArray := prog_2_method_1_code
def yX0_init : MethodName := ⟨RX0, "<init>", "()V"⟩
def RX1 : String := "PageFeeder$Goods"
def TX1 : u_T := fun k => match k with
  | 0 => ("PageFeeder$Goods", "thickness", "[I", true)
  | _ => ("PageFeeder$Goods", "added", "I", false)
def tyX1 : Nat → FieldType := fun k => match k with
  | 0 => .array .int
  | _ => .int
theorem nmX1 : ∀ a, a < 2 → ∀ b, b < 2 → a ≠ b → (TX1 a).2.1 ≠ (TX1 b).2.1 := by decide +kernel
theorem tyX1_ok : ∀ k, k < 2 → parseFieldDescriptor (TX1 k).2.2.1 = some (tyX1 k) := by decide +kernel
abbrev cX1_init : ByteArray := prog_3_method_1_code
def yX1_init : MethodName := ⟨RX1, "<init>", "()V"⟩
abbrev cX1_clear : ByteArray := prog_3_method_2_code
def yX1_clear : MethodName := ⟨RX1, "clear", "()V"⟩
abbrev cX1_copyFrom : ByteArray := prog_3_method_3_code
def yX1_copyFrom : MethodName := ⟨RX1, "copyFrom", "(LPageFeeder$Goods;)V"⟩
abbrev cX1_add : ByteArray := prog_3_method_4_code
def yX1_add : MethodName := ⟨RX1, "add", "(I)V"⟩
abbrev cX1_usual : ByteArray := prog_3_method_5_code
def yX1_usual : MethodName := ⟨RX1, "usual", "(I)I"⟩
def RX2 : String := "PageFeeder$Parser"
def TX2 : u_T := fun k => match k with
  | 0 => ("PageFeeder$Parser", "text", "[B", true)
  | 1 => ("PageFeeder$Parser", "filled", "I", false)
  | 2 => ("PageFeeder$Parser", "out", "LPageFeeder$Setup;", false)
  | 3 => ("PageFeeder$Parser", "length", "I", false)
  | 4 => ("PageFeeder$Parser", "kind", "I", false)
  | 5 => ("PageFeeder$Parser", "start", "I", false)
  | 6 => ("PageFeeder$Parser", "end", "I", false)
  | 7 => ("PageFeeder$Parser", "error", "I", false)
  | 8 => ("PageFeeder$Parser", "limitsSeen", "Z", false)
  | _ => ("PageFeeder$Parser", "simplexSeen", "Z", false)
def tyX2 : Nat → FieldType := fun k => match k with
  | 0 => .array .byte
  | 1 => .int
  | 2 => .object "PageFeeder$Setup"
  | 3 => .int
  | 4 => .int
  | 5 => .int
  | 6 => .int
  | 7 => .int
  | 8 => .boolean
  | _ => .boolean
theorem nmX2 : ∀ a, a < 10 → ∀ b, b < 10 → a ≠ b → (TX2 a).2.1 ≠ (TX2 b).2.1 := by decide +kernel
theorem tyX2_ok : ∀ k, k < 10 → parseFieldDescriptor (TX2 k).2.2.1 = some (tyX2 k) := by decide +kernel
abbrev cX2_init : ByteArray := prog_4_method_1_code
def yX2_init : MethodName := ⟨RX2, "<init>", "()V"⟩
abbrev cX2_addFour : ByteArray := prog_4_method_2_code
def yX2_addFour : MethodName := ⟨RX2, "addFour", "(I)V"⟩
abbrev cX2_exchange : ByteArray := prog_4_method_3_code
def yX2_exchange : MethodName := ⟨RX2, "exchange", "(LPageFeeder$Setup;)LPageFeeder$Setup;"⟩
abbrev cX2_read : ByteArray := prog_4_method_4_code
def yX2_read : MethodName := ⟨RX2, "read", "(I)I"⟩
abbrev cX2_readStatement : ByteArray := prog_4_method_5_code
def yX2_readStatement : MethodName := ⟨RX2, "readStatement", "()V"⟩
abbrev cX2_readSheet : ByteArray := prog_4_method_6_code
def yX2_readSheet : MethodName := ⟨RX2, "readSheet", "(Z)V"⟩
abbrev cX2_readAgain : ByteArray := prog_4_method_7_code
def yX2_readAgain : MethodName := ⟨RX2, "readAgain", "()V"⟩
abbrev cX2_readLimits : ByteArray := prog_4_method_8_code
def yX2_readLimits : MethodName := ⟨RX2, "readLimits", "()V"⟩
abbrev cX2_readSimplex : ByteArray := prog_4_method_9_code
def yX2_readSimplex : MethodName := ⟨RX2, "readSimplex", "()V"⟩
abbrev cX2_fail : ByteArray := prog_4_method_10_code
def yX2_fail : MethodName := ⟨RX2, "fail", "(I)V"⟩
abbrev cX2_takeIf : ByteArray := prog_4_method_11_code
def yX2_takeIf : MethodName := ⟨RX2, "takeIf", "(Ljava/lang/String;)Z"⟩
abbrev cX2_takeSemicolon : ByteArray := prog_4_method_12_code
def yX2_takeSemicolon : MethodName := ⟨RX2, "takeSemicolon", "()V"⟩
abbrev cX2_takeMinus : ByteArray := prog_4_method_13_code
def yX2_takeMinus : MethodName := ⟨RX2, "takeMinus", "()Z"⟩
abbrev cX2_takeNumber : ByteArray := prog_4_method_14_code
def yX2_takeNumber : MethodName := ⟨RX2, "takeNumber", "(II)I"⟩
abbrev cX2_isWord : ByteArray := prog_4_method_15_code
def yX2_isWord : MethodName := ⟨RX2, "isWord", "(Ljava/lang/String;)Z"⟩
abbrev cX2_advance : ByteArray := prog_4_method_16_code
def yX2_advance : MethodName := ⟨RX2, "advance", "()V"⟩
abbrev cX2_runEnd : ByteArray := prog_4_method_17_code
def yX2_runEnd : MethodName := ⟨RX2, "runEnd", "(CC)I"⟩
def RX3 : String := "PageFeeder$Pick"
def TX3 : u_T := fun k => match k with
  | 0 => ("PageFeeder$Pick", "first", "I", false)
  | 1 => ("PageFeeder$Pick", "sheets", "I", false)
  | 2 => ("PageFeeder$Pick", "thickness", "I", false)
  | 3 => ("PageFeeder$Pick", "length", "I", false)
  | _ => ("PageFeeder$Pick", "skew", "I", false)
def tyX3 : Nat → FieldType := fun k => match k with
  | 0 => .int
  | 1 => .int
  | 2 => .int
  | 3 => .int
  | _ => .int
theorem nmX3 : ∀ a, a < 5 → ∀ b, b < 5 → a ≠ b → (TX3 a).2.1 ≠ (TX3 b).2.1 := by decide +kernel
theorem tyX3_ok : ∀ k, k < 5 → parseFieldDescriptor (TX3 k).2.2.1 = some (tyX3 k) := by decide +kernel
abbrev cX3_init : ByteArray := prog_5_method_1_code
def yX3_init : MethodName := ⟨RX3, "<init>", "()V"⟩
abbrev cX3_measure : ByteArray := prog_5_method_2_code
def yX3_measure : MethodName := ⟨RX3, "measure", "(LPageFeeder$Setup;LPageFeeder$State;I)V"⟩
def RX4 : String := "PageFeeder$Setup"
def TX4 : u_T := fun k => match k with
  | 0 => ("PageFeeder$Setup", "length", "[I", true)
  | 1 => ("PageFeeder$Setup", "thick", "[I", true)
  | 2 => ("PageFeeder$Setup", "skew", "[I", true)
  | 3 => ("PageFeeder$Setup", "front", "[I", true)
  | 4 => ("PageFeeder$Setup", "back", "[I", true)
  | 5 => ("PageFeeder$Setup", "code", "[I", true)
  | 6 => ("PageFeeder$Setup", "offset", "[I", true)
  | 7 => ("PageFeeder$Setup", "limits", "[I", true)
  | 8 => ("PageFeeder$Setup", "sheets", "I", false)
  | 9 => ("PageFeeder$Setup", "usualLength", "I", false)
  | 10 => ("PageFeeder$Setup", "usualThick", "I", false)
  | _ => ("PageFeeder$Setup", "duplex", "Z", false)
def tyX4 : Nat → FieldType := fun k => match k with
  | 0 => .array .int
  | 1 => .array .int
  | 2 => .array .int
  | 3 => .array .int
  | 4 => .array .int
  | 5 => .array .int
  | 6 => .array .int
  | 7 => .array .int
  | 8 => .int
  | 9 => .int
  | 10 => .int
  | _ => .boolean
theorem nmX4 : ∀ a, a < 12 → ∀ b, b < 12 → a ≠ b → (TX4 a).2.1 ≠ (TX4 b).2.1 := by decide +kernel
theorem tyX4_ok : ∀ k, k < 12 → parseFieldDescriptor (TX4 k).2.2.1 = some (tyX4 k) := by decide +kernel
abbrev cX4_init : ByteArray := prog_6_method_1_code
def yX4_init : MethodName := ⟨RX4, "<init>", "()V"⟩
abbrev cX4_clear : ByteArray := prog_6_method_2_code
def yX4_clear : MethodName := ⟨RX4, "clear", "()V"⟩
abbrev cX4_ink : ByteArray := prog_6_method_3_code
def yX4_ink : MethodName := ⟨RX4, "ink", "(II)I"⟩
abbrev cX4_repeatLast : ByteArray := prog_6_method_5_code
def yX4_repeatLast : MethodName := ⟨RX4, "repeatLast", "(I)V"⟩
def RX5 : String := "PageFeeder$State"
def TX5 : u_T := fun k => match k with
  | 0 => ("PageFeeder$State", "where", "[I", true)
  | 1 => ("PageFeeder$State", "skew", "[I", true)
  | 2 => ("PageFeeder$State", "offset", "[I", true)
  | 3 => ("PageFeeder$State", "half", "[I", true)
  | 4 => ("PageFeeder$State", "pageSheet", "[I", true)
  | 5 => ("PageFeeder$State", "pageSide", "[I", true)
  | 6 => ("PageFeeder$State", "pageJob", "[I", true)
  | 7 => ("PageFeeder$State", "jobCode", "[I", true)
  | 8 => ("PageFeeder$State", "limits", "[I", true)
  | 9 => ("PageFeeder$State", "accounts", "[I", true)
  | 10 => ("PageFeeder$State", "goods", "LPageFeeder$Goods;", true)
  | 11 => ("PageFeeder$State", "top", "I", false)
  | 12 => ("PageFeeder$State", "inPath", "I", false)
  | 13 => ("PageFeeder$State", "reason", "I", false)
  | 14 => ("PageFeeder$State", "pages", "I", false)
  | 15 => ("PageFeeder$State", "jobs", "I", false)
  | _ => ("PageFeeder$State", "duplex", "Z", false)
def tyX5 : Nat → FieldType := fun k => match k with
  | 0 => .array .int
  | 1 => .array .int
  | 2 => .array .int
  | 3 => .array .int
  | 4 => .array .int
  | 5 => .array .int
  | 6 => .array .int
  | 7 => .array .int
  | 8 => .array .int
  | 9 => .array .int
  | 10 => .object "PageFeeder$Goods"
  | 11 => .int
  | 12 => .int
  | 13 => .int
  | 14 => .int
  | 15 => .int
  | _ => .boolean
theorem nmX5 : ∀ a, a < 17 → ∀ b, b < 17 → a ≠ b → (TX5 a).2.1 ≠ (TX5 b).2.1 := by decide +kernel
theorem tyX5_ok : ∀ k, k < 17 → parseFieldDescriptor (TX5 k).2.2.1 = some (tyX5 k) := by decide +kernel
abbrev cX5_init : ByteArray := prog_7_method_1_code
def yX5_init : MethodName := ⟨RX5, "<init>", "()V"⟩
abbrev cX5_begin : ByteArray := prog_7_method_2_code
def yX5_begin : MethodName := ⟨RX5, "begin", "(LPageFeeder$Setup;)V"⟩
abbrev cX5_copyFrom : ByteArray := prog_7_method_3_code
def yX5_copyFrom : MethodName := ⟨RX5, "copyFrom", "(LPageFeeder$State;)V"⟩
abbrev cX5_count : ByteArray := prog_7_method_4_code
def yX5_count : MethodName := ⟨RX5, "count", "(II)V"⟩
abbrev cX5_beginJob : ByteArray := prog_7_method_5_code
def yX5_beginJob : MethodName := ⟨RX5, "beginJob", "(I)V"⟩
abbrev cX5_addPage : ByteArray := prog_7_method_6_code
def yX5_addPage : MethodName := ⟨RX5, "addPage", "(II)V"⟩
abbrev cX5_pagesOfJob : ByteArray := prog_7_method_7_code
def yX5_pagesOfJob : MethodName := ⟨RX5, "pagesOfJob", "(I)I"⟩
abbrev cX5_firstPageOfJob : ByteArray := prog_7_method_8_code
def yX5_firstPageOfJob : MethodName := ⟨RX5, "firstPageOfJob", "(I)I"⟩
abbrev cX5_sheetsOfJob : ByteArray := prog_7_method_9_code
def yX5_sheetsOfJob : MethodName := ⟨RX5, "sheetsOfJob", "(I)I"⟩
def RX6 : String := "PageFeeder"
def TX6 : u_T := fun k => match k with
  | 0 => ("PageFeeder", "parser", "LPageFeeder$Parser;", true)
  | 1 => ("PageFeeder", "setup", "LPageFeeder$Setup;", false)
  | 2 => ("PageFeeder", "state", "LPageFeeder$State;", true)
  | 3 => ("PageFeeder", "history", "[LPageFeeder$State;", true)
  | 4 => ("PageFeeder", "remembered", "I", false)
  | 5 => ("PageFeeder", "undoable", "I", false)
  | 6 => ("PageFeeder", "snapshots", "[LPageFeeder$State;", true)
  | 7 => ("PageFeeder", "saved", "[Z", true)
  | 8 => ("PageFeeder", "pick", "LPageFeeder$Pick;", true)
  | _ => ("PageFeeder", "forecast", "LPageFeeder$Forecast;", true)
def tyX6 : Nat → FieldType := fun k => match k with
  | 0 => .object "PageFeeder$Parser"
  | 1 => .object "PageFeeder$Setup"
  | 2 => .object "PageFeeder$State"
  | 3 => .array (.object "PageFeeder$State")
  | 4 => .int
  | 5 => .int
  | 6 => .array (.object "PageFeeder$State")
  | 7 => .array .boolean
  | 8 => .object "PageFeeder$Pick"
  | _ => .object "PageFeeder$Forecast"
theorem nmX6 : ∀ a, a < 10 → ∀ b, b < 10 → a ≠ b → (TX6 a).2.1 ≠ (TX6 b).2.1 := by decide +kernel
theorem tyX6_ok : ∀ k, k < 10 → parseFieldDescriptor (TX6 k).2.2.1 = some (tyX6 k) := by decide +kernel
abbrev cX6_init : ByteArray := prog_1_method_1_code
def yX6_init : MethodName := ⟨RX6, "<init>", "()V"⟩
abbrev cX6_append : ByteArray := prog_1_method_2_code
def yX6_append : MethodName := ⟨RX6, "append", "(IIIII)I"⟩
abbrev cX6_parse : ByteArray := prog_1_method_3_code
def yX6_parse : MethodName := ⟨RX6, "parse", "(I)I"⟩
abbrev cX6_size : ByteArray := prog_1_method_4_code
def yX6_size : MethodName := ⟨RX6, "size", "(I)I"⟩
abbrev cX6_limit : ByteArray := prog_1_method_5_code
def yX6_limit : MethodName := ⟨RX6, "limit", "(I)I"⟩
abbrev cX6_sheet : ByteArray := prog_1_method_6_code
def yX6_sheet : MethodName := ⟨RX6, "sheet", "(II)I"⟩
abbrev cX6_stack : ByteArray := prog_1_method_7_code
def yX6_stack : MethodName := ⟨RX6, "stack", "(I)I"⟩
abbrev cX6_path : ByteArray := prog_1_method_8_code
def yX6_path : MethodName := ⟨RX6, "path", "(I)I"⟩
abbrev cX6_page : ByteArray := prog_1_method_9_code
def yX6_page : MethodName := ⟨RX6, "page", "(II)I"⟩
abbrev cX6_job : ByteArray := prog_1_method_10_code
def yX6_job : MethodName := ⟨RX6, "job", "(II)I"⟩
abbrev cX6_next : ByteArray := prog_1_method_12_code
def yX6_next : MethodName := ⟨RX6, "next", "(I)I"⟩
abbrev cX6_sheetsAt : ByteArray := prog_1_method_17_code
def yX6_sheetsAt : MethodName := ⟨RX6, "sheetsAt", "(I)I"⟩
abbrev cX6_feed : ByteArray := prog_1_method_19_code
def yX6_feed : MethodName := ⟨RX6, "feed", "(I)I"⟩
abbrev cX6_putBack : ByteArray := prog_1_method_20_code
def yX6_putBack : MethodName := ⟨RX6, "putBack", "()I"⟩
abbrev cX6_remove : ByteArray := prog_1_method_21_code
def yX6_remove : MethodName := ⟨RX6, "remove", "()I"⟩
abbrev cX6_accept : ByteArray := prog_1_method_22_code
def yX6_accept : MethodName := ⟨RX6, "accept", "()I"⟩
abbrev cX6_setDuplex : ByteArray := prog_1_method_25_code
def yX6_setDuplex : MethodName := ⟨RX6, "setDuplex", "(Z)Z"⟩
abbrev cX6_undo : ByteArray := prog_1_method_26_code
def yX6_undo : MethodName := ⟨RX6, "undo", "()I"⟩
abbrev cX6_saveSnapshot : ByteArray := prog_1_method_27_code
def yX6_saveSnapshot : MethodName := ⟨RX6, "saveSnapshot", "(I)Z"⟩
abbrev cX6_restoreSnapshot : ByteArray := prog_1_method_28_code
def yX6_restoreSnapshot : MethodName := ⟨RX6, "restoreSnapshot", "(I)Z"⟩
abbrev cX6_beginAnew : ByteArray := prog_1_method_29_code
def yX6_beginAnew : MethodName := ⟨RX6, "beginAnew", "()V"⟩
abbrev cX6_remember : ByteArray := prog_1_method_30_code
def yX6_remember : MethodName := ⟨RX6, "remember", "()V"⟩
abbrev cX6_isSheet : ByteArray := prog_1_method_31_code
def yX6_isSheet : MethodName := ⟨RX6, "isSheet", "(I)Z"⟩
abbrev cX6_isStopped : ByteArray := prog_1_method_32_code
def yX6_isStopped : MethodName := ⟨RX6, "isStopped", "()Z"⟩
abbrev cX6_stackSize : ByteArray := prog_1_method_33_code
def yX6_stackSize : MethodName := ⟨RX6, "stackSize", "()I"⟩
abbrev cX6_firstInPath : ByteArray := prog_1_method_34_code
def yX6_firstInPath : MethodName := ⟨RX6, "firstInPath", "()I"⟩
abbrev cX6_halves : ByteArray := prog_1_method_35_code
def yX6_halves : MethodName := ⟨RX6, "halves", "()I"⟩
abbrev cX6_pickOnce : ByteArray := prog_1_method_36_code
def yX6_pickOnce : MethodName := ⟨RX6, "pickOnce", "()Z"⟩
abbrev cX6_reasonToStop : ByteArray := prog_1_method_37_code
def yX6_reasonToStop : MethodName := ⟨RX6, "reasonToStop", "(II)I"⟩
abbrev cX6_stop : ByteArray := prog_1_method_38_code
def yX6_stop : MethodName := ⟨RX6, "stop", "(I)V"⟩
abbrev cX6_clearPath : ByteArray := prog_1_method_39_code
def yX6_clearPath : MethodName := ⟨RX6, "clearPath", "()V"⟩
abbrev cX6_goThrough : ByteArray := prog_1_method_40_code
def yX6_goThrough : MethodName := ⟨RX6, "goThrough", "(II)I"⟩
abbrev cX6_pagesOfSheet : ByteArray := prog_1_method_41_code
def yX6_pagesOfSheet : MethodName := ⟨RX6, "pagesOfSheet", "(I)I"⟩
abbrev cX6_isPage : ByteArray := prog_1_method_42_code
def yX6_isPage : MethodName := ⟨RX6, "isPage", "(II)Z"⟩
def RX7 : String := "PageFeederModel"
def TX7 : u_T := fun k => match k with
  | _ => ("", "", "", false)
def tyX7 : Nat → FieldType := fun k => match k with
  | _ => .int
theorem nmX7 : ∀ a, a < 0 → ∀ b, b < 0 → a ≠ b → (TX7 a).2.1 ≠ (TX7 b).2.1 := by decide +kernel
theorem tyX7_ok : ∀ k, k < 0 → parseFieldDescriptor (TX7 k).2.2.1 = some (tyX7 k) := by decide +kernel
def RJ5 : String := "java/lang/AbstractStringBuilder"
def TJ5 : u_T := fun k => match k with
  | _ => ("", "", "", false)
def tyJ5 : Nat → FieldType := fun k => match k with
  | _ => .int
theorem nmJ5 : ∀ a, a < 0 → ∀ b, b < 0 → a ≠ b → (TJ5 a).2.1 ≠ (TJ5 b).2.1 := by decide +kernel
theorem tyJ5_ok : ∀ k, k < 0 → parseFieldDescriptor (TJ5 k).2.2.1 = some (tyJ5 k) := by decide +kernel
abbrev cJ5_init_a7421 : ByteArray := prog_10_method_3_code
def yJ5_init_a7421 : MethodName := ⟨RJ5, "<init>", "(Ljava/lang/String;)V"⟩
abbrev cJ5_length_8abf5 : ByteArray := prog_10_method_6_code
def yJ5_length_8abf5 : MethodName := ⟨RJ5, "length", "()I"⟩
abbrev cJ5_ensureCapacityInternal_d00df : ByteArray := prog_10_method_9_code
def yJ5_ensureCapacityInternal_d00df : MethodName := ⟨RJ5, "ensureCapacityInternal", "(I)V"⟩
abbrev cJ5_newCapacity_0f7a4 : ByteArray := prog_10_method_10_code
def yJ5_newCapacity_0f7a4 : MethodName := ⟨RJ5, "newCapacity", "(I)I"⟩
abbrev cJ5_inflate_da8c8 : ByteArray := prog_10_method_11_code
def yJ5_inflate_da8c8 : MethodName := ⟨RJ5, "inflate", "()V"⟩
abbrev cJ5_charAt_5068e : ByteArray := prog_10_method_14_code
def yJ5_charAt_5068e : MethodName := ⟨RJ5, "charAt", "(I)C"⟩
abbrev cJ5_append_cf1ce : ByteArray := prog_10_method_22_code
def yJ5_append_cf1ce : MethodName := ⟨RJ5, "append", "(Ljava/lang/String;)Ljava/lang/AbstractStringBuilder;"⟩
abbrev cJ5_appendNull_278bc : ByteArray := prog_10_method_26_code
def yJ5_appendNull_278bc : MethodName := ⟨RJ5, "appendNull", "()Ljava/lang/AbstractStringBuilder;"⟩
abbrev cJ5_append_c97b9 : ByteArray := prog_10_method_32_code
def yJ5_append_c97b9 : MethodName := ⟨RJ5, "append", "(I)Ljava/lang/AbstractStringBuilder;"⟩
abbrev cJ5_isLatin1_aae02 : ByteArray := prog_10_method_68_code
def yJ5_isLatin1_aae02 : MethodName := ⟨RJ5, "isLatin1", "()Z"⟩
abbrev cJ5_inflateIfNeededFor_a7421 : ByteArray := prog_10_method_71_code
def yJ5_inflateIfNeededFor_a7421 : MethodName := ⟨RJ5, "inflateIfNeededFor", "(Ljava/lang/String;)V"⟩
abbrev cJ5_putStringAt_47b60 : ByteArray := prog_10_method_73_code
def yJ5_putStringAt_47b60 : MethodName := ⟨RJ5, "putStringAt", "(ILjava/lang/String;)V"⟩
def RJx8e188 : String := "java/lang/Cloneable"
def TJx8e188 : u_T := fun k => match k with
  | _ => ("", "", "", false)
def tyJx8e188 : Nat → FieldType := fun k => match k with
  | _ => .int
theorem nmJx8e188 : ∀ a, a < 0 → ∀ b, b < 0 → a ≠ b → (TJx8e188 a).2.1 ≠ (TJx8e188 b).2.1 := by decide +kernel
theorem tyJx8e188_ok : ∀ k, k < 0 → parseFieldDescriptor (TJx8e188 k).2.2.1 = some (tyJx8e188 k) := by decide +kernel
def RJ6 : String := "java/lang/Integer"
def TJ6 : u_T := fun k => match k with
  | _ => ("", "", "", false)
def tyJ6 : Nat → FieldType := fun k => match k with
  | _ => .int
theorem nmJ6 : ∀ a, a < 0 → ∀ b, b < 0 → a ≠ b → (TJ6 a).2.1 ≠ (TJ6 b).2.1 := by decide +kernel
theorem tyJ6_ok : ∀ k, k < 0 → parseFieldDescriptor (TJ6 k).2.2.1 = some (tyJ6 k) := by decide +kernel
abbrev cJ6_getChars_ba4f3 : ByteArray := prog_16_method_12_code
def yJ6_getChars_ba4f3 : MethodName := ⟨RJ6, "getChars", "(II[B)I"⟩
abbrev cJ6_stringSize_0f7a4 : ByteArray := prog_16_method_13_code
def yJ6_stringSize_0f7a4 : MethodName := ⟨RJ6, "stringSize", "(I)I"⟩
def RJ9 : String := "java/lang/Math"
def TJ9 : u_T := fun k => match k with
  | _ => ("", "", "", false)
def tyJ9 : Nat → FieldType := fun k => match k with
  | _ => .int
theorem nmJ9 : ∀ a, a < 0 → ∀ b, b < 0 → a ≠ b → (TJ9 a).2.1 ≠ (TJ9 b).2.1 := by decide +kernel
theorem tyJ9_ok : ∀ k, k < 0 → parseFieldDescriptor (TJ9 k).2.2.1 = some (tyJ9 k) := by decide +kernel
abbrev cJ9_floorMod_7cf53 : ByteArray := prog_17_method_50_code
def yJ9_floorMod_7cf53 : MethodName := ⟨RJ9, "floorMod", "(II)I"⟩
abbrev cJ9_abs_0f7a4 : ByteArray := prog_17_method_59_code
def yJ9_abs_0f7a4 : MethodName := ⟨RJ9, "abs", "(I)I"⟩
abbrev cJ9_max_7cf53 : ByteArray := prog_17_method_65_code
def yJ9_max_7cf53 : MethodName := ⟨RJ9, "max", "(II)I"⟩
abbrev cJ9_min_7cf53 : ByteArray := prog_17_method_69_code
def yJ9_min_7cf53 : MethodName := ⟨RJ9, "min", "(II)I"⟩
def RJ0 : String := "java/lang/String"
def TJ0 : u_T := fun k => match k with
  | _ => ("", "", "", false)
def tyJ0 : Nat → FieldType := fun k => match k with
  | _ => .int
theorem nmJ0 : ∀ a, a < 0 → ∀ b, b < 0 → a ≠ b → (TJ0 a).2.1 ≠ (TJ0 b).2.1 := by decide +kernel
theorem tyJ0_ok : ∀ k, k < 0 → parseFieldDescriptor (TJ0 k).2.2.1 = some (tyJ0 k) := by decide +kernel
abbrev cJ0_length_8abf5 : ByteArray := prog_19_method_54_code
def yJ0_length_8abf5 : MethodName := ⟨RJ0, "length", "()I"⟩
abbrev cJ0_charAt_5068e : ByteArray := prog_19_method_56_code
def yJ0_charAt_5068e : MethodName := ⟨RJ0, "charAt", "(I)C"⟩
abbrev cJ0_getBytes_840e7 : ByteArray := prog_19_method_147_code
def yJ0_getBytes_840e7 : MethodName := ⟨RJ0, "getBytes", "([BIB)V"⟩
abbrev cJ0_coder_7d493 : ByteArray := prog_19_method_152_code
def yJ0_coder_7d493 : MethodName := ⟨RJ0, "coder", "()B"⟩
abbrev cJ0_isLatin1_aae02 : ByteArray := prog_19_method_154_code
def yJ0_isLatin1_aae02 : MethodName := ⟨RJ0, "isLatin1", "()Z"⟩
abbrev cJ0_checkIndex_df160 : ByteArray := prog_19_method_155_code
def yJ0_checkIndex_df160 : MethodName := ⟨RJ0, "checkIndex", "(II)V"⟩
abbrev cJ0_checkBoundsOffCount_cabcc : ByteArray := prog_19_method_157_code
def yJ0_checkBoundsOffCount_cabcc : MethodName := ⟨RJ0, "checkBoundsOffCount", "(III)I"⟩
abbrev cJ0_checkBoundsBeginEnd_23922 : ByteArray := prog_19_method_158_code
def yJ0_checkBoundsBeginEnd_23922 : MethodName := ⟨RJ0, "checkBoundsBeginEnd", "(III)V"⟩
def RJ4 : String := "java/lang/StringBuilder"
def TJ4 : u_T := fun k => match k with
  | 0 => ("java/lang/AbstractStringBuilder", "value", "[B", false)
  | 1 => ("java/lang/AbstractStringBuilder", "coder", "B", false)
  | 2 => ("java/lang/AbstractStringBuilder", "maybeLatin1", "Z", false)
  | _ => ("java/lang/AbstractStringBuilder", "count", "I", false)
def tyJ4 : Nat → FieldType := fun k => match k with
  | 0 => .array .byte
  | 1 => .byte
  | 2 => .boolean
  | _ => .int
theorem nmJ4 : ∀ a, a < 4 → ∀ b, b < 4 → a ≠ b → (TJ4 a).2.1 ≠ (TJ4 b).2.1 := by decide +kernel
theorem tyJ4_ok : ∀ k, k < 4 → parseFieldDescriptor (TJ4 k).2.2.1 = some (tyJ4 k) := by decide +kernel
abbrev cJ4_init_a7421 : ByteArray := prog_20_method_3_code
def yJ4_init_a7421 : MethodName := ⟨RJ4, "<init>", "(Ljava/lang/String;)V"⟩
abbrev cJ4_append_15ec4 : ByteArray := prog_20_method_7_code
def yJ4_append_15ec4 : MethodName := ⟨RJ4, "append", "(Ljava/lang/String;)Ljava/lang/StringBuilder;"⟩
abbrev cJ4_append_bf812 : ByteArray := prog_20_method_15_code
def yJ4_append_bf812 : MethodName := ⟨RJ4, "append", "(I)Ljava/lang/StringBuilder;"⟩
abbrev cJ4_append_cf1ce : ByteArray := prog_20_method_80_code
def yJ4_append_cf1ce : MethodName := ⟨RJ4, "append", "(Ljava/lang/String;)Ljava/lang/AbstractStringBuilder;"⟩
abbrev cJ4_charAt_5068e : ByteArray := prog_20_method_88_code
def yJ4_charAt_5068e : MethodName := ⟨RJ4, "charAt", "(I)C"⟩
abbrev cJ4_length_8abf5 : ByteArray := prog_20_method_93_code
def yJ4_length_8abf5 : MethodName := ⟨RJ4, "length", "()I"⟩
def RJ1 : String := "java/lang/StringLatin1"
def TJ1 : u_T := fun k => match k with
  | _ => ("", "", "", false)
def tyJ1 : Nat → FieldType := fun k => match k with
  | _ => .int
theorem nmJ1 : ∀ a, a < 0 → ∀ b, b < 0 → a ≠ b → (TJ1 a).2.1 ≠ (TJ1 b).2.1 := by decide +kernel
theorem tyJ1_ok : ∀ k, k < 0 → parseFieldDescriptor (TJ1 k).2.2.1 = some (tyJ1 k) := by decide +kernel
abbrev cJ1_charAt_3b067 : ByteArray := prog_21_method_2_code
def yJ1_charAt_3b067 : MethodName := ⟨RJ1, "charAt", "([BI)C"⟩
abbrev cJ1_inflate_0e8fd : ByteArray := prog_21_method_50_code
def yJ1_inflate_0e8fd : MethodName := ⟨RJ1, "inflate", "([BI[BII)V"⟩
def RJ2 : String := "java/lang/StringUTF16"
def TJ2 : u_T := fun k => match k with
  | _ => ("", "", "", false)
def tyJ2 : Nat → FieldType := fun k => match k with
  | _ => .int
theorem nmJ2 : ∀ a, a < 0 → ∀ b, b < 0 → a ≠ b → (TJ2 a).2.1 ≠ (TJ2 b).2.1 := by decide +kernel
theorem tyJ2_ok : ∀ k, k < 0 → parseFieldDescriptor (TJ2 k).2.2.1 = some (tyJ2 k) := by decide +kernel
abbrev cJ2_newBytesFor_77867 : ByteArray := prog_22_method_2_code
def yJ2_newBytesFor_77867 : MethodName := ⟨RJ2, "newBytesFor", "(I)[B"⟩
abbrev cJ2_newBytesLength_0f7a4 : ByteArray := prog_22_method_3_code
def yJ2_newBytesLength_0f7a4 : MethodName := ⟨RJ2, "newBytesLength", "(I)I"⟩
abbrev cJ2_putChar_b72d1 : ByteArray := prog_22_method_4_code
def yJ2_putChar_b72d1 : MethodName := ⟨RJ2, "putChar", "([BII)V"⟩
abbrev cJ2_getChar_3b067 : ByteArray := prog_22_method_5_code
def yJ2_getChar_3b067 : MethodName := ⟨RJ2, "getChar", "([BI)C"⟩
abbrev cJ2_length_9d52b : ByteArray := prog_22_method_6_code
def yJ2_length_9d52b : MethodName := ⟨RJ2, "length", "([B)I"⟩
abbrev cJ2_getChars_46870 : ByteArray := prog_22_method_77_code
def yJ2_getChars_46870 : MethodName := ⟨RJ2, "getChars", "(III[B)I"⟩
abbrev cJ2_putCharsAt_cd4e5 : ByteArray := prog_22_method_81_code
def yJ2_putCharsAt_cd4e5 : MethodName := ⟨RJ2, "putCharsAt", "([BICCCC)I"⟩
abbrev cJ2_charAt_3b067 : ByteArray := prog_22_method_83_code
def yJ2_charAt_3b067 : MethodName := ⟨RJ2, "charAt", "([BI)C"⟩
abbrev cJ2_inflate_0e8fd : ByteArray := prog_22_method_86_code
def yJ2_inflate_0e8fd : MethodName := ⟨RJ2, "inflate", "([BI[BII)V"⟩
abbrev cJ2_getChars_ba4f3 : ByteArray := prog_22_method_89_code
def yJ2_getChars_ba4f3 : MethodName := ⟨RJ2, "getChars", "(II[B)I"⟩
abbrev cJ2_checkIndex_2214a : ByteArray := prog_22_method_91_code
def yJ2_checkIndex_2214a : MethodName := ⟨RJ2, "checkIndex", "(I[B)V"⟩
abbrev cJ2_checkBoundsBeginEnd_d044e : ByteArray := prog_22_method_93_code
def yJ2_checkBoundsBeginEnd_d044e : MethodName := ⟨RJ2, "checkBoundsBeginEnd", "(II[B)V"⟩
abbrev cJ2_checkBoundsOffCount_d044e : ByteArray := prog_22_method_94_code
def yJ2_checkBoundsOffCount_d044e : MethodName := ⟨RJ2, "checkBoundsOffCount", "(II[B)V"⟩
def RJ10 : String := "java/lang/System"
def TJ10 : u_T := fun k => match k with
  | _ => ("", "", "", false)
def tyJ10 : Nat → FieldType := fun k => match k with
  | _ => .int
theorem nmJ10 : ∀ a, a < 0 → ∀ b, b < 0 → a ≠ b → (TJ10 a).2.1 ≠ (TJ10 b).2.1 := by decide +kernel
theorem tyJ10_ok : ∀ k, k < 0 → parseFieldDescriptor (TJ10 k).2.2.1 = some (tyJ10 k) := by decide +kernel
def RJ7 : String := "java/util/Arrays"
def TJ7 : u_T := fun k => match k with
  | _ => ("", "", "", false)
def tyJ7 : Nat → FieldType := fun k => match k with
  | _ => .int
theorem nmJ7 : ∀ a, a < 0 → ∀ b, b < 0 → a ≠ b → (TJ7 a).2.1 ≠ (TJ7 b).2.1 := by decide +kernel
theorem tyJ7_ok : ∀ k, k < 0 → parseFieldDescriptor (TJ7 k).2.2.1 = some (tyJ7 k) := by decide +kernel
abbrev cJ7_copyOf_9075b : ByteArray := prog_25_method_121_code
def yJ7_copyOf_9075b : MethodName := ⟨RJ7, "copyOf", "([BI)[B"⟩
def RJ8 : String := "jdk/internal/util/ArraysSupport"
def TJ8 : u_T := fun k => match k with
  | _ => ("", "", "", false)
def tyJ8 : Nat → FieldType := fun k => match k with
  | _ => .int
theorem nmJ8 : ∀ a, a < 0 → ∀ b, b < 0 → a ≠ b → (TJ8 a).2.1 ≠ (TJ8 b).2.1 := by decide +kernel
theorem tyJ8_ok : ∀ k, k < 0 → parseFieldDescriptor (TJ8 k).2.2.1 = some (tyJ8 k) := by decide +kernel
abbrev cJ8_newLength_cabcc : ByteArray := prog_26_method_27_code
def yJ8_newLength_cabcc : MethodName := ⟨RJ8, "newLength", "(III)I"⟩
abbrev cJ8_hugeLength_7cf53 : ByteArray := prog_26_method_28_code
def yJ8_hugeLength_7cf53 : MethodName := ⟨RJ8, "hugeLength", "(II)I"⟩
def RJ3 : String := "jdk/internal/util/Preconditions"
def TJ3 : u_T := fun k => match k with
  | _ => ("", "", "", false)
def tyJ3 : Nat → FieldType := fun k => match k with
  | _ => .int
theorem nmJ3 : ∀ a, a < 0 → ∀ b, b < 0 → a ≠ b → (TJ3 a).2.1 ≠ (TJ3 b).2.1 := by decide +kernel
theorem tyJ3_ok : ∀ k, k < 0 → parseFieldDescriptor (TJ3 k).2.2.1 = some (tyJ3 k) := by decide +kernel
abbrev cJ3_checkIndex_8e157 : ByteArray := prog_27_method_11_code
def yJ3_checkIndex_8e157 : MethodName := ⟨RJ3, "checkIndex", "(IILjava/util/function/BiFunction;)I"⟩
abbrev cJ3_checkFromToIndex_8c36e : ByteArray := prog_27_method_12_code
def yJ3_checkFromToIndex_8c36e : MethodName := ⟨RJ3, "checkFromToIndex", "(IIILjava/util/function/BiFunction;)I"⟩
abbrev cJ3_checkFromIndexSize_8c36e : ByteArray := prog_27_method_13_code
def yJ3_checkFromIndexSize_8c36e : MethodName := ⟨RJ3, "checkFromIndexSize", "(IIILjava/util/function/BiFunction;)I"⟩
def RL : String := "PageFeederLaw"
abbrev cL_cell : ByteArray := method_2_code
def yL_cell : MethodName := ⟨RL, "cell", "([II)I"⟩
abbrev cL_pick : ByteArray := method_3_code
def yL_pick : MethodName := ⟨RL, "pick", "([III)I"⟩
abbrev cL_begins : ByteArray := method_4_code
def yL_begins : MethodName := ⟨RL, "begins", "(LPageFeeder;[I)Z"⟩
abbrev cL_acts : ByteArray := method_5_code
def yL_acts : MethodName := ⟨RL, "acts", "(LPageFeeder;[II)Z"⟩
abbrev cL_law : ByteArray := code
def yL_law : MethodName := ⟨RL, "law", "([I)Z"⟩
abbrev cL_isWhole : ByteArray := method_7_code
def yL_isWhole : MethodName := ⟨RL, "isWhole", "(LPageFeeder;)Z"⟩
abbrev cL_isTold : ByteArray := method_8_code
def yL_isTold : MethodName := ⟨RL, "isTold", "(LPageFeeder;)Z"⟩
abbrev cL_refuses : ByteArray := method_9_code
def yL_refuses : MethodName := ⟨RL, "refuses", "(LPageFeeder;)Z"⟩
abbrev vwCl : List vw_C := [(RX0, TX0, 7), (RX1, TX1, 2), (RX2, TX2, 10), (RX3, TX3, 5), (RX4, TX4, 12), (RX5, TX5, 17), (RX6, TX6, 10), (RJ4, TJ4, 4)]
