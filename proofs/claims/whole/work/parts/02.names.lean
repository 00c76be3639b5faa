/-! ===== BEGIN printed: names, fields, word lists, decode rows ===== -/
def RX0 : String := "MacroReader$Bytes"
def TX0 : u_T := fun k => match k with
  | 0 => ("MacroReader$Bytes", "limit", "I", true)
  | 1 => ("MacroReader$Bytes", "row", "[B", false)
  | _ => ("MacroReader$Bytes", "size", "I", false)
def tyX0 : Nat → FieldType := fun k => match k with
  | 0 => .int
  | 1 => .array .byte
  | _ => .int
abbrev wsX00 : List Cond := u_ws RX0 TX0 3
theorem nmX0 : ∀ a, a < 3 → ∀ b, b < 3 → a ≠ b → (TX0 a).2.1 ≠ (TX0 b).2.1 := by decide +kernel
theorem tyX0_ok : ∀ k, k < 3 → parseFieldDescriptor (TX0 k).2.2.1 = some (tyX0 k) := by decide +kernel
abbrev cX0_init : ByteArray := prog_2_method_1_code
def yX0_init : MethodName := ⟨RX0, "<init>", "(II)V"⟩
abbrev cX0_size : ByteArray := prog_2_method_2_code
def yX0_size : MethodName := ⟨RX0, "size", "()I"⟩
abbrev cX0_clear : ByteArray := prog_2_method_3_code
def yX0_clear : MethodName := ⟨RX0, "clear", "()V"⟩
abbrev cX0_at : ByteArray := prog_2_method_4_code
def yX0_at : MethodName := ⟨RX0, "at", "(I)I"⟩
abbrev cX0_holds : ByteArray := prog_2_method_5_code
def yX0_holds : MethodName := ⟨RX0, "holds", "(II)Z"⟩
abbrev cX0_append : ByteArray := prog_2_method_6_code
def yX0_append : MethodName := ⟨RX0, "append", "(I)Z"⟩
abbrev cX0_appendPart : ByteArray := prog_2_method_7_code
def yX0_appendPart : MethodName := ⟨RX0, "appendPart", "(LMacroReader$Bytes;II)Z"⟩
abbrev cX0_appendDecimal : ByteArray := prog_2_method_8_code
def yX0_appendDecimal : MethodName := ⟨RX0, "appendDecimal", "(I)Z"⟩
abbrev cX0_behindBlanks : ByteArray := prog_2_method_9_code
def yX0_behindBlanks : MethodName := ⟨RX0, "behindBlanks", "(I)I"⟩
abbrev cX0_behindNameBytes : ByteArray := prog_2_method_10_code
def yX0_behindNameBytes : MethodName := ⟨RX0, "behindNameBytes", "(I)I"⟩
abbrev cX0_spells : ByteArray := prog_2_method_11_code
def yX0_spells : MethodName := ⟨RX0, "spells", "(Ljava/lang/String;II)Z"⟩
abbrev cX0_isSame : ByteArray := prog_2_method_12_code
def yX0_isSame : MethodName := ⟨RX0, "isSame", "(IILMacroReader$Bytes;I)Z"⟩
def RX1 : String := "MacroReader$Ints"
def TX1 : u_T := fun k => match k with
  | 0 => ("MacroReader$Ints", "row", "[I", false)
  | _ => ("MacroReader$Ints", "size", "I", false)
def tyX1 : Nat → FieldType := fun k => match k with
  | 0 => .array .int
  | _ => .int
abbrev wsX10 : List Cond := u_ws RX1 TX1 2
theorem nmX1 : ∀ a, a < 2 → ∀ b, b < 2 → a ≠ b → (TX1 a).2.1 ≠ (TX1 b).2.1 := by decide +kernel
theorem tyX1_ok : ∀ k, k < 2 → parseFieldDescriptor (TX1 k).2.2.1 = some (tyX1 k) := by decide +kernel
abbrev cX1_init : ByteArray := prog_3_method_1_code
def yX1_init : MethodName := ⟨RX1, "<init>", "()V"⟩
abbrev cX1_size : ByteArray := prog_3_method_2_code
def yX1_size : MethodName := ⟨RX1, "size", "()I"⟩
abbrev cX1_clear : ByteArray := prog_3_method_3_code
def yX1_clear : MethodName := ⟨RX1, "clear", "()V"⟩
abbrev cX1_at : ByteArray := prog_3_method_4_code
def yX1_at : MethodName := ⟨RX1, "at", "(I)I"⟩
abbrev cX1_add : ByteArray := prog_3_method_5_code
def yX1_add : MethodName := ⟨RX1, "add", "(I)V"⟩
def RX2 : String := "MacroReader$Macro"
def TX2 : u_T := fun k => match k with
  | 0 => ("MacroReader$Macro", "nameStart", "I", true)
  | 1 => ("MacroReader$Macro", "nameLength", "I", true)
  | 2 => ("MacroReader$Macro", "from", "I", true)
  | 3 => ("MacroReader$Macro", "to", "I", true)
  | 4 => ("MacroReader$Macro", "starts", "LMacroReader$Ints;", true)
  | _ => ("MacroReader$Macro", "lengths", "LMacroReader$Ints;", true)
def tyX2 : Nat → FieldType := fun k => match k with
  | 0 => .int
  | 1 => .int
  | 2 => .int
  | 3 => .int
  | 4 => .object "MacroReader$Ints"
  | _ => .object "MacroReader$Ints"
abbrev wsX20 : List Cond := u_ws RX2 TX2 6
theorem nmX2 : ∀ a, a < 6 → ∀ b, b < 6 → a ≠ b → (TX2 a).2.1 ≠ (TX2 b).2.1 := by decide +kernel
theorem tyX2_ok : ∀ k, k < 6 → parseFieldDescriptor (TX2 k).2.2.1 = some (tyX2 k) := by decide +kernel
abbrev cX2_init : ByteArray := prog_4_method_1_code
def yX2_init : MethodName := ⟨RX2, "<init>", "(LMacroReader$Tokens;III)V"⟩
abbrev cX2_places : ByteArray := prog_4_method_2_code
def yX2_places : MethodName := ⟨RX2, "places", "()I"⟩
abbrev cX2_placeLength : ByteArray := prog_4_method_3_code
def yX2_placeLength : MethodName := ⟨RX2, "placeLength", "(I)I"⟩
abbrev cX2_placeAt : ByteArray := prog_4_method_4_code
def yX2_placeAt : MethodName := ⟨RX2, "placeAt", "(LMacroReader$Bytes;II)I"⟩
def RX3 : String := "MacroReader$Nest"
def TX3 : u_T := fun k => match k with
  | 0 => ("MacroReader$Nest", "parts", "[LMacroReader$Part;", true)
  | _ => ("MacroReader$Nest", "size", "I", false)
def tyX3 : Nat → FieldType := fun k => match k with
  | 0 => .array (.object "MacroReader$Part")
  | _ => .int
abbrev wsX30 : List Cond := u_ws RX3 TX3 2
theorem nmX3 : ∀ a, a < 2 → ∀ b, b < 2 → a ≠ b → (TX3 a).2.1 ≠ (TX3 b).2.1 := by decide +kernel
theorem tyX3_ok : ∀ k, k < 2 → parseFieldDescriptor (TX3 k).2.2.1 = some (tyX3 k) := by decide +kernel
abbrev cX3_init : ByteArray := prog_5_method_1_code
def yX3_init : MethodName := ⟨RX3, "<init>", "()V"⟩
abbrev cX3_size : ByteArray := prog_5_method_2_code
def yX3_size : MethodName := ⟨RX3, "size", "()I"⟩
abbrev cX3_clear : ByteArray := prog_5_method_3_code
def yX3_clear : MethodName := ⟨RX3, "clear", "()V"⟩
abbrev cX3_isFull : ByteArray := prog_5_method_4_code
def yX3_isFull : MethodName := ⟨RX3, "isFull", "()Z"⟩
abbrev cX3_at : ByteArray := prog_5_method_5_code
def yX3_at : MethodName := ⟨RX3, "at", "(I)LMacroReader$Part;"⟩
abbrev cX3_spare : ByteArray := prog_5_method_6_code
def yX3_spare : MethodName := ⟨RX3, "spare", "()LMacroReader$Part;"⟩
abbrev cX3_open : ByteArray := prog_5_method_7_code
def yX3_open : MethodName := ⟨RX3, "open", "(I)LMacroReader$Part;"⟩
abbrev cX3_close : ByteArray := prog_5_method_8_code
def yX3_close : MethodName := ⟨RX3, "close", "()V"⟩
abbrev cX3_top : ByteArray := prog_5_method_9_code
def yX3_top : MethodName := ⟨RX3, "top", "()LMacroReader$Part;"⟩
abbrev cX3_topKind : ByteArray := prog_5_method_10_code
def yX3_topKind : MethodName := ⟨RX3, "topKind", "()I"⟩
abbrev cX3_innermostLines : ByteArray := prog_5_method_11_code
def yX3_innermostLines : MethodName := ⟨RX3, "innermostLines", "()LMacroReader$Part;"⟩
abbrev cX3_innermostMacro : ByteArray := prog_5_method_12_code
def yX3_innermostMacro : MethodName := ⟨RX3, "innermostMacro", "()LMacroReader$Part;"⟩
def RX4 : String := "MacroReader$Part"
def TX4 : u_T := fun k => match k with
  | 0 => ("MacroReader$Part", "kind", "I", false)
  | 1 => ("MacroReader$Part", "from", "I", false)
  | 2 => ("MacroReader$Part", "to", "I", false)
  | 3 => ("MacroReader$Part", "back", "I", false)
  | 4 => ("MacroReader$Part", "line", "I", false)
  | 5 => ("MacroReader$Part", "turnsLeft", "I", false)
  | 6 => ("MacroReader$Part", "serial", "I", false)
  | 7 => ("MacroReader$Part", "macro", "LMacroReader$Macro;", false)
  | 8 => ("MacroReader$Part", "given", "LMacroReader$Bytes;", true)
  | 9 => ("MacroReader$Part", "starts", "LMacroReader$Ints;", true)
  | _ => ("MacroReader$Part", "ends", "LMacroReader$Ints;", true)
def tyX4 : Nat → FieldType := fun k => match k with
  | 0 => .int
  | 1 => .int
  | 2 => .int
  | 3 => .int
  | 4 => .int
  | 5 => .int
  | 6 => .int
  | 7 => .object "MacroReader$Macro"
  | 8 => .object "MacroReader$Bytes"
  | 9 => .object "MacroReader$Ints"
  | _ => .object "MacroReader$Ints"
abbrev wsX40 : List Cond := u_ws RX4 TX4 11
theorem nmX4 : ∀ a, a < 11 → ∀ b, b < 11 → a ≠ b → (TX4 a).2.1 ≠ (TX4 b).2.1 := by decide +kernel
theorem tyX4_ok : ∀ k, k < 11 → parseFieldDescriptor (TX4 k).2.2.1 = some (tyX4 k) := by decide +kernel
abbrev cX4_init : ByteArray := prog_6_method_1_code
def yX4_init : MethodName := ⟨RX4, "<init>", "()V"⟩
abbrev cX4_hasLines : ByteArray := prog_6_method_2_code
def yX4_hasLines : MethodName := ⟨RX4, "hasLines", "()Z"⟩
abbrev cX4_lay : ByteArray := prog_6_method_3_code
def yX4_lay : MethodName := ⟨RX4, "lay", "(IIII)V"⟩
abbrev cX4_gather : ByteArray := prog_6_method_4_code
def yX4_gather : MethodName := ⟨RX4, "gather", "(LMacroReader$Bytes;LMacroReader$Tokens;LMacroReader$Macro;)Z"⟩
abbrev cX4_keep : ByteArray := prog_6_method_5_code
def yX4_keep : MethodName := ⟨RX4, "keep", "(LMacroReader$Tokens;II)V"⟩
abbrev cX4_write : ByteArray := prog_6_method_6_code
def yX4_write : MethodName := ⟨RX4, "write", "(LMacroReader$Bytes;IILMacroReader$Bytes;)Z"⟩
abbrev cX4_writeAt : ByteArray := prog_6_method_7_code
def yX4_writeAt : MethodName := ⟨RX4, "writeAt", "(LMacroReader$Bytes;IILMacroReader$Bytes;)I"⟩
def RX5 : String := "MacroReader$Source"
def TX5 : u_T := fun k => match k with
  | 0 => ("MacroReader$Source", "starts", "LMacroReader$Ints;", true)
  | 1 => ("MacroReader$Source", "ends", "LMacroReader$Ints;", true)
  | 2 => ("MacroReader$Source", "words", "LMacroReader$Ints;", true)
  | _ => ("MacroReader$Source", "bytes", "LMacroReader$Bytes;", false)
def tyX5 : Nat → FieldType := fun k => match k with
  | 0 => .object "MacroReader$Ints"
  | 1 => .object "MacroReader$Ints"
  | 2 => .object "MacroReader$Ints"
  | _ => .object "MacroReader$Bytes"
abbrev wsX50 : List Cond := u_ws RX5 TX5 4
theorem nmX5 : ∀ a, a < 4 → ∀ b, b < 4 → a ≠ b → (TX5 a).2.1 ≠ (TX5 b).2.1 := by decide +kernel
theorem tyX5_ok : ∀ k, k < 4 → parseFieldDescriptor (TX5 k).2.2.1 = some (tyX5 k) := by decide +kernel
abbrev cX5_init : ByteArray := prog_7_method_1_code
def yX5_init : MethodName := ⟨RX5, "<init>", "()V"⟩
abbrev cX5_exchange : ByteArray := prog_7_method_2_code
def yX5_exchange : MethodName := ⟨RX5, "exchange", "(LMacroReader$Bytes;)LMacroReader$Bytes;"⟩
abbrev cX5_addLine : ByteArray := prog_7_method_3_code
def yX5_addLine : MethodName := ⟨RX5, "addLine", "(II)V"⟩
abbrev cX5_bytes : ByteArray := prog_7_method_4_code
def yX5_bytes : MethodName := ⟨RX5, "bytes", "()LMacroReader$Bytes;"⟩
abbrev cX5_count : ByteArray := prog_7_method_5_code
def yX5_count : MethodName := ⟨RX5, "count", "()I"⟩
abbrev cX5_start : ByteArray := prog_7_method_6_code
def yX5_start : MethodName := ⟨RX5, "start", "(I)I"⟩
abbrev cX5_end : ByteArray := prog_7_method_7_code
def yX5_end : MethodName := ⟨RX5, "end", "(I)I"⟩
abbrev cX5_word : ByteArray := prog_7_method_8_code
def yX5_word : MethodName := ⟨RX5, "word", "(I)I"⟩
abbrev cX5_find : ByteArray := prog_7_method_9_code
def yX5_find : MethodName := ⟨RX5, "find", "(IIIZ)I"⟩
def RX6 : String := "MacroReader$Tokens"
def TX6 : u_T := fun k => match k with
  | 0 => ("MacroReader$Tokens", "bytes", "LMacroReader$Bytes;", true)
  | 1 => ("MacroReader$Tokens", "kinds", "LMacroReader$Ints;", true)
  | 2 => ("MacroReader$Tokens", "starts", "LMacroReader$Ints;", true)
  | 3 => ("MacroReader$Tokens", "ends", "LMacroReader$Ints;", true)
  | 4 => ("MacroReader$Tokens", "stop", "I", false)
  | 5 => ("MacroReader$Tokens", "value", "J", false)
  | _ => ("MacroReader$Tokens", "second", "J", false)
def tyX6 : Nat → FieldType := fun k => match k with
  | 0 => .object "MacroReader$Bytes"
  | 1 => .object "MacroReader$Ints"
  | 2 => .object "MacroReader$Ints"
  | 3 => .object "MacroReader$Ints"
  | 4 => .int
  | 5 => .long
  | _ => .long
abbrev wsX60 : List Cond := u_ws RX6 TX6 7
theorem nmX6 : ∀ a, a < 7 → ∀ b, b < 7 → a ≠ b → (TX6 a).2.1 ≠ (TX6 b).2.1 := by decide +kernel
theorem tyX6_ok : ∀ k, k < 7 → parseFieldDescriptor (TX6 k).2.2.1 = some (tyX6 k) := by decide +kernel
abbrev cX6_init : ByteArray := prog_8_method_1_code
def yX6_init : MethodName := ⟨RX6, "<init>", "(LMacroReader$Bytes;)V"⟩
abbrev cX6_count : ByteArray := prog_8_method_2_code
def yX6_count : MethodName := ⟨RX6, "count", "()I"⟩
abbrev cX6_kind : ByteArray := prog_8_method_3_code
def yX6_kind : MethodName := ⟨RX6, "kind", "(I)I"⟩
abbrev cX6_start : ByteArray := prog_8_method_4_code
def yX6_start : MethodName := ⟨RX6, "start", "(I)I"⟩
abbrev cX6_end : ByteArray := prog_8_method_5_code
def yX6_end : MethodName := ⟨RX6, "end", "(I)I"⟩
abbrev cX6_second : ByteArray := prog_8_method_6_code
def yX6_second : MethodName := ⟨RX6, "second", "()J"⟩
abbrev cX6_takeAll : ByteArray := prog_8_method_7_code
def yX6_takeAll : MethodName := ⟨RX6, "takeAll", "()Z"⟩
abbrev cX6_take : ByteArray := prog_8_method_8_code
def yX6_take : MethodName := ⟨RX6, "take", "(I)I"⟩
abbrev cX6_takeNumber : ByteArray := prog_8_method_9_code
def yX6_takeNumber : MethodName := ⟨RX6, "takeNumber", "(I)I"⟩
abbrev cX6_baseMarked : ByteArray := prog_8_method_10_code
def yX6_baseMarked : MethodName := ⟨RX6, "baseMarked", "(I)I"⟩
abbrev cX6_hasRoom : ByteArray := prog_8_method_11_code
def yX6_hasRoom : MethodName := ⟨RX6, "hasRoom", "(II)Z"⟩
abbrev cX6_takeCharacter : ByteArray := prog_8_method_12_code
def yX6_takeCharacter : MethodName := ⟨RX6, "takeCharacter", "(I)I"⟩
abbrev cX6_takeText : ByteArray := prog_8_method_13_code
def yX6_takeText : MethodName := ⟨RX6, "takeText", "(I)I"⟩
abbrev cX6_behindCharacter : ByteArray := prog_8_method_14_code
def yX6_behindCharacter : MethodName := ⟨RX6, "behindCharacter", "(II)I"⟩
abbrev cX6_worthOfEscape : ByteArray := prog_8_method_15_code
def yX6_worthOfEscape : MethodName := ⟨RX6, "worthOfEscape", "(I)I"⟩
abbrev cX6_takeSign : ByteArray := prog_8_method_16_code
def yX6_takeSign : MethodName := ⟨RX6, "takeSign", "(II)I"⟩
def RX7 : String := "MacroReader"
def TX7 : u_T := fun k => match k with
  | 0 => ("MacroReader", "source", "LMacroReader$Source;", true)
  | 1 => ("MacroReader", "read", "LMacroReader$Bytes;", true)
  | 2 => ("MacroReader", "tokens", "LMacroReader$Tokens;", true)
  | 3 => ("MacroReader", "nest", "LMacroReader$Nest;", true)
  | 4 => ("MacroReader", "macros", "Ljava/util/ArrayList;", true)
  | 5 => ("MacroReader", "text", "LMacroReader$Bytes;", false)
  | 6 => ("MacroReader", "position", "I", false)
  | 7 => ("MacroReader", "linesRead", "I", false)
  | 8 => ("MacroReader", "macrosRead", "I", false)
  | 9 => ("MacroReader", "toldLine", "I", false)
  | 10 => ("MacroReader", "faultKind", "I", false)
  | 11 => ("MacroReader", "reading", "Z", false)
  | _ => ("MacroReader", "plain", "Z", false)
def tyX7 : Nat → FieldType := fun k => match k with
  | 0 => .object "MacroReader$Source"
  | 1 => .object "MacroReader$Bytes"
  | 2 => .object "MacroReader$Tokens"
  | 3 => .object "MacroReader$Nest"
  | 4 => .object "java/util/ArrayList"
  | 5 => .object "MacroReader$Bytes"
  | 6 => .int
  | 7 => .int
  | 8 => .int
  | 9 => .int
  | 10 => .int
  | 11 => .boolean
  | _ => .boolean
abbrev wsX70 : List Cond := u_ws RX7 TX7 13
theorem nmX7 : ∀ a, a < 13 → ∀ b, b < 13 → a ≠ b → (TX7 a).2.1 ≠ (TX7 b).2.1 := by decide +kernel
theorem tyX7_ok : ∀ k, k < 13 → parseFieldDescriptor (TX7 k).2.2.1 = some (tyX7 k) := by decide +kernel
abbrev cX7_init : ByteArray := prog_1_method_1_code
def yX7_init : MethodName := ⟨RX7, "<init>", "()V"⟩
abbrev cX7_type : ByteArray := prog_1_method_2_code
def yX7_type : MethodName := ⟨RX7, "type", "(JI)Z"⟩
abbrev cX7_begin : ByteArray := prog_1_method_3_code
def yX7_begin : MethodName := ⟨RX7, "begin", "()I"⟩
abbrev cX7_next : ByteArray := prog_1_method_4_code
def yX7_next : MethodName := ⟨RX7, "next", "()I"⟩
abbrev cX7_octet : ByteArray := prog_1_method_5_code
def yX7_octet : MethodName := ⟨RX7, "octet", "(I)I"⟩
abbrev cX7_line : ByteArray := prog_1_method_6_code
def yX7_line : MethodName := ⟨RX7, "line", "()I"⟩
abbrev cX7_fault : ByteArray := prog_1_method_7_code
def yX7_fault : MethodName := ⟨RX7, "fault", "()I"⟩
abbrev cX7_depth : ByteArray := prog_1_method_8_code
def yX7_depth : MethodName := ⟨RX7, "depth", "()I"⟩
abbrev cX7_limit : ByteArray := prog_1_method_9_code
def yX7_limit : MethodName := ⟨RX7, "limit", "()I"⟩
abbrev cX7_readLine : ByteArray := prog_1_method_10_code
def yX7_readLine : MethodName := ⟨RX7, "readLine", "()I"⟩
abbrev cX7_fill : ByteArray := prog_1_method_11_code
def yX7_fill : MethodName := ⟨RX7, "fill", "(I)Z"⟩
abbrev cX7_obey : ByteArray := prog_1_method_12_code
def yX7_obey : MethodName := ⟨RX7, "obey", "(I)I"⟩
abbrev cX7_readIf : ByteArray := prog_1_method_13_code
def yX7_readIf : MethodName := ⟨RX7, "readIf", "()I"⟩
abbrev cX7_readElse : ByteArray := prog_1_method_14_code
def yX7_readElse : MethodName := ⟨RX7, "readElse", "()I"⟩
abbrev cX7_readEndif : ByteArray := prog_1_method_15_code
def yX7_readEndif : MethodName := ⟨RX7, "readEndif", "()I"⟩
abbrev cX7_readRept : ByteArray := prog_1_method_16_code
def yX7_readRept : MethodName := ⟨RX7, "readRept", "()I"⟩
abbrev cX7_readMacro : ByteArray := prog_1_method_17_code
def yX7_readMacro : MethodName := ⟨RX7, "readMacro", "()I"⟩
abbrev cX7_readMacroLines : ByteArray := prog_1_method_18_code
def yX7_readMacroLines : MethodName := ⟨RX7, "readMacroLines", "(LMacroReader$Macro;)I"⟩
abbrev cX7_endLines : ByteArray := prog_1_method_19_code
def yX7_endLines : MethodName := ⟨RX7, "endLines", "()I"⟩
abbrev cX7_tell : ByteArray := prog_1_method_20_code
def yX7_tell : MethodName := ⟨RX7, "tell", "(I)I"⟩
abbrev cX7_tellUnended : ByteArray := prog_1_method_21_code
def yX7_tellUnended : MethodName := ⟨RX7, "tellUnended", "()I"⟩
abbrev cX7_isEndMissing : ByteArray := prog_1_method_22_code
def yX7_isEndMissing : MethodName := ⟨RX7, "isEndMissing", "(I)Z"⟩
abbrev cX7_isNumberAlone : ByteArray := prog_1_method_23_code
def yX7_isNumberAlone : MethodName := ⟨RX7, "isNumberAlone", "()Z"⟩
abbrev cX7_isHeading : ByteArray := prog_1_method_24_code
def yX7_isHeading : MethodName := ⟨RX7, "isHeading", "()Z"⟩
abbrev cX7_isTaken : ByteArray := prog_1_method_25_code
def yX7_isTaken : MethodName := ⟨RX7, "isTaken", "(I)Z"⟩
abbrev cX7_macroNamed : ByteArray := prog_1_method_26_code
def yX7_macroNamed : MethodName := ⟨RX7, "macroNamed", "(I)LMacroReader$Macro;"⟩
abbrev cX7_wordIn : ByteArray := prog_1_method_27_code
def yX7_wordIn : MethodName := ⟨RX7, "wordIn", "(LMacroReader$Bytes;II)I"⟩
abbrev cX7_spelling : ByteArray := prog_1_method_28_code
def yX7_spelling : MethodName := ⟨RX7, "spelling", "(I)Ljava/lang/String;"⟩
abbrev cX7_endWord : ByteArray := prog_1_method_29_code
def yX7_endWord : MethodName := ⟨RX7, "endWord", "(I)I"⟩
abbrev cX7_isBlank : ByteArray := prog_1_method_30_code
def yX7_isBlank : MethodName := ⟨RX7, "isBlank", "(I)Z"⟩
abbrev cX7_isDigit : ByteArray := prog_1_method_31_code
def yX7_isDigit : MethodName := ⟨RX7, "isDigit", "(I)Z"⟩
abbrev cX7_isNameByte : ByteArray := prog_1_method_32_code
def yX7_isNameByte : MethodName := ⟨RX7, "isNameByte", "(I)Z"⟩
abbrev cX7_isPrintable : ByteArray := prog_1_method_33_code
def yX7_isPrintable : MethodName := ⟨RX7, "isPrintable", "(I)Z"⟩
abbrev cX7_digitIn : ByteArray := prog_1_method_34_code
def yX7_digitIn : MethodName := ⟨RX7, "digitIn", "(II)I"⟩
def RX8 : String := "MacroReaderModel"
def TX8 : u_T := fun k => match k with
  | 0 => ("MacroReaderModel", "thrown", "I", false)
  | 1 => ("MacroReaderModel", "text", "[B", true)
  | 2 => ("MacroReaderModel", "tape", "[B", true)
  | 3 => ("MacroReaderModel", "typed", "I", false)
  | 4 => ("MacroReaderModel", "sourceEnd", "I", false)
  | 5 => ("MacroReaderModel", "at", "I", false)
  | 6 => ("MacroReaderModel", "lineNumber", "I", false)
  | 7 => ("MacroReaderModel", "lineStart", "I", false)
  | 8 => ("MacroReaderModel", "lineEnd", "I", false)
  | 9 => ("MacroReaderModel", "linesRead", "I", false)
  | 10 => ("MacroReaderModel", "macrosRead", "I", false)
  | 11 => ("MacroReaderModel", "bad", "I", false)
  | 12 => ("MacroReaderModel", "badLine", "I", false)
  | 13 => ("MacroReaderModel", "told", "I", false)
  | 14 => ("MacroReaderModel", "notEnded", "Z", false)
  | 15 => ("MacroReaderModel", "ends", "Z", false)
  | 16 => ("MacroReaderModel", "hasLine", "Z", false)
  | 17 => ("MacroReaderModel", "line", "[B", true)
  | 18 => ("MacroReaderModel", "lineLength", "I", false)
  | 19 => ("MacroReaderModel", "frames", "I", false)
  | 20 => ("MacroReaderModel", "frameKind", "[I", true)
  | 21 => ("MacroReaderModel", "frameStop", "[I", true)
  | 22 => ("MacroReaderModel", "frameStopLine", "[I", true)
  | 23 => ("MacroReaderModel", "frameBody", "[I", true)
  | 24 => ("MacroReaderModel", "frameBodyLine", "[I", true)
  | 25 => ("MacroReaderModel", "frameLeft", "[I", true)
  | 26 => ("MacroReaderModel", "frameOwn", "[I", true)
  | 27 => ("MacroReaderModel", "frameMacro", "[I", true)
  | 28 => ("MacroReaderModel", "frameNumber", "[I", true)
  | 29 => ("MacroReaderModel", "frameElse", "[Z", true)
  | 30 => ("MacroReaderModel", "argument", "[[B", true)
  | 31 => ("MacroReaderModel", "argumentAt", "[[I", true)
  | 32 => ("MacroReaderModel", "arguments", "[I", true)
  | 33 => ("MacroReaderModel", "macros", "I", false)
  | 34 => ("MacroReaderModel", "macroName", "[I", true)
  | 35 => ("MacroReaderModel", "macroLength", "[I", true)
  | 36 => ("MacroReaderModel", "macroParameters", "[I", true)
  | 37 => ("MacroReaderModel", "macroBody", "[I", true)
  | 38 => ("MacroReaderModel", "macroBodyLine", "[I", true)
  | 39 => ("MacroReaderModel", "macroEnd", "[I", true)
  | 40 => ("MacroReaderModel", "macroEndLine", "[I", true)
  | 41 => ("MacroReaderModel", "tokens", "I", false)
  | 42 => ("MacroReaderModel", "token", "[I", true)
  | 43 => ("MacroReaderModel", "tokenStart", "[I", true)
  | 44 => ("MacroReaderModel", "tokenLength", "[I", true)
  | 45 => ("MacroReaderModel", "tokenValue", "[J", true)
  | 46 => ("MacroReaderModel", "foundAt", "I", false)
  | 47 => ("MacroReaderModel", "foundLine", "I", false)
  | 48 => ("MacroReaderModel", "foundWord", "I", false)
  | _ => ("MacroReaderModel", "foundBehind", "I", false)
def tyX8 : Nat → FieldType := fun k => match k with
  | 0 => .int
  | 1 => .array .byte
  | 2 => .array .byte
  | 3 => .int
  | 4 => .int
  | 5 => .int
  | 6 => .int
  | 7 => .int
  | 8 => .int
  | 9 => .int
  | 10 => .int
  | 11 => .int
  | 12 => .int
  | 13 => .int
  | 14 => .boolean
  | 15 => .boolean
  | 16 => .boolean
  | 17 => .array .byte
  | 18 => .int
  | 19 => .int
  | 20 => .array .int
  | 21 => .array .int
  | 22 => .array .int
  | 23 => .array .int
  | 24 => .array .int
  | 25 => .array .int
  | 26 => .array .int
  | 27 => .array .int
  | 28 => .array .int
  | 29 => .array .boolean
  | 30 => .array (.array .byte)
  | 31 => .array (.array .int)
  | 32 => .array .int
  | 33 => .int
  | 34 => .array .int
  | 35 => .array .int
  | 36 => .array .int
  | 37 => .array .int
  | 38 => .array .int
  | 39 => .array .int
  | 40 => .array .int
  | 41 => .int
  | 42 => .array .int
  | 43 => .array .int
  | 44 => .array .int
  | 45 => .array .long
  | 46 => .int
  | 47 => .int
  | 48 => .int
  | _ => .int
abbrev wsX80 : List Cond := u_ws RX8 TX8 50
theorem nmX8 : ∀ a, a < 50 → ∀ b, b < 50 → a ≠ b → (TX8 a).2.1 ≠ (TX8 b).2.1 := by decide +kernel
theorem tyX8_ok : ∀ k, k < 50 → parseFieldDescriptor (TX8 k).2.2.1 = some (tyX8 k) := by decide +kernel
abbrev cX8_init : ByteArray := prog_10_method_1_code
def yX8_init : MethodName := ⟨RX8, "<init>", "()V"⟩
abbrev cX8_thrown : ByteArray := prog_10_method_2_code
def yX8_thrown : MethodName := ⟨RX8, "thrown", "()I"⟩
abbrev cX8_type : ByteArray := prog_10_method_3_code
def yX8_type : MethodName := ⟨RX8, "type", "(JI)Z"⟩
abbrev cX8_isLetter : ByteArray := prog_10_method_4_code
def yX8_isLetter : MethodName := ⟨RX8, "isLetter", "(I)Z"⟩
abbrev cX8_isDigit : ByteArray := prog_10_method_5_code
def yX8_isDigit : MethodName := ⟨RX8, "isDigit", "(I)Z"⟩
abbrev cX8_isNamed : ByteArray := prog_10_method_6_code
def yX8_isNamed : MethodName := ⟨RX8, "isNamed", "(I)Z"⟩
abbrev cX8_digitOf : ByteArray := prog_10_method_7_code
def yX8_digitOf : MethodName := ⟨RX8, "digitOf", "(I)I"⟩
abbrev cX8_packed : ByteArray := prog_10_method_8_code
def yX8_packed : MethodName := ⟨RX8, "packed", "([BII)J"⟩
abbrev cX8_wordOf : ByteArray := prog_10_method_9_code
def yX8_wordOf : MethodName := ⟨RX8, "wordOf", "(J)I"⟩
abbrev cX8_ownLine : ByteArray := prog_10_method_10_code
def yX8_ownLine : MethodName := ⟨RX8, "ownLine", "()I"⟩
abbrev cX8_fail : ByteArray := prog_10_method_11_code
def yX8_fail : MethodName := ⟨RX8, "fail", "(I)V"⟩
abbrev cX8_firstWord : ByteArray := prog_10_method_12_code
def yX8_firstWord : MethodName := ⟨RX8, "firstWord", "(II)I"⟩
abbrev cX8_endOfLine : ByteArray := prog_10_method_13_code
def yX8_endOfLine : MethodName := ⟨RX8, "endOfLine", "(I)I"⟩
abbrev cX8_findEnd : ByteArray := prog_10_method_14_code
def yX8_findEnd : MethodName := ⟨RX8, "findEnd", "(IIIIIZ)Z"⟩
abbrev cX8_reader : ByteArray := prog_10_method_15_code
def yX8_reader : MethodName := ⟨RX8, "reader", "()I"⟩
abbrev cX8_macroFrame : ByteArray := prog_10_method_16_code
def yX8_macroFrame : MethodName := ⟨RX8, "macroFrame", "()I"⟩
abbrev cX8_nextLine : ByteArray := prog_10_method_17_code
def yX8_nextLine : MethodName := ⟨RX8, "nextLine", "()Z"⟩
abbrev cX8_append : ByteArray := prog_10_method_18_code
def yX8_append : MethodName := ⟨RX8, "append", "(I)V"⟩
abbrev cX8_parameterAt : ByteArray := prog_10_method_19_code
def yX8_parameterAt : MethodName := ⟨RX8, "parameterAt", "(III)I"⟩
abbrev cX8_appendNumber : ByteArray := prog_10_method_20_code
def yX8_appendNumber : MethodName := ⟨RX8, "appendNumber", "(I)V"⟩
abbrev cX8_expand : ByteArray := prog_10_method_21_code
def yX8_expand : MethodName := ⟨RX8, "expand", "()V"⟩
abbrev cX8_token : ByteArray := prog_10_method_22_code
def yX8_token : MethodName := ⟨RX8, "token", "(IIIJ)V"⟩
abbrev cX8_character : ByteArray := prog_10_method_23_code
def yX8_character : MethodName := ⟨RX8, "character", "(II)I"⟩
abbrev cX8_numberToken : ByteArray := prog_10_method_24_code
def yX8_numberToken : MethodName := ⟨RX8, "numberToken", "(I)I"⟩
abbrev cX8_readToken : ByteArray := prog_10_method_25_code
def yX8_readToken : MethodName := ⟨RX8, "readToken", "(I)I"⟩
abbrev cX8_readTokens : ByteArray := prog_10_method_26_code
def yX8_readTokens : MethodName := ⟨RX8, "readTokens", "()V"⟩
abbrev cX8_isSign : ByteArray := prog_10_method_27_code
def yX8_isSign : MethodName := ⟨RX8, "isSign", "(II)Z"⟩
abbrev cX8_isName : ByteArray := prog_10_method_28_code
def yX8_isName : MethodName := ⟨RX8, "isName", "(I)Z"⟩
abbrev cX8_macroNamed : ByteArray := prog_10_method_29_code
def yX8_macroNamed : MethodName := ⟨RX8, "macroNamed", "(I)I"⟩
abbrev cX8_nesting : ByteArray := prog_10_method_30_code
def yX8_nesting : MethodName := ⟨RX8, "nesting", "(II)V"⟩
abbrev cX8_parametersOf : ByteArray := prog_10_method_31_code
def yX8_parametersOf : MethodName := ⟨RX8, "parametersOf", "(I)I"⟩
abbrev cX8_split : ByteArray := prog_10_method_32_code
def yX8_split : MethodName := ⟨RX8, "split", "()V"⟩
abbrev cX8_enter : ByteArray := prog_10_method_33_code
def yX8_enter : MethodName := ⟨RX8, "enter", "(III)V"⟩
abbrev cX8_goBehind : ByteArray := prog_10_method_34_code
def yX8_goBehind : MethodName := ⟨RX8, "goBehind", "()V"⟩
abbrev cX8_call : ByteArray := prog_10_method_35_code
def yX8_call : MethodName := ⟨RX8, "call", "(I)V"⟩
abbrev cX8_structure : ByteArray := prog_10_method_36_code
def yX8_structure : MethodName := ⟨RX8, "structure", "(I)V"⟩
abbrev cX8_macro : ByteArray := prog_10_method_37_code
def yX8_macro : MethodName := ⟨RX8, "macro", "()V"⟩
abbrev cX8_readLine : ByteArray := prog_10_method_38_code
def yX8_readLine : MethodName := ⟨RX8, "readLine", "()Z"⟩
abbrev cX8_linesOfSource : ByteArray := prog_10_method_39_code
def yX8_linesOfSource : MethodName := ⟨RX8, "linesOfSource", "()I"⟩
abbrev cX8_begin : ByteArray := prog_10_method_40_code
def yX8_begin : MethodName := ⟨RX8, "begin", "()I"⟩
abbrev cX8_next : ByteArray := prog_10_method_41_code
def yX8_next : MethodName := ⟨RX8, "next", "()I"⟩
abbrev cX8_octet : ByteArray := prog_10_method_42_code
def yX8_octet : MethodName := ⟨RX8, "octet", "(I)I"⟩
abbrev cX8_line : ByteArray := prog_10_method_43_code
def yX8_line : MethodName := ⟨RX8, "line", "()I"⟩
abbrev cX8_fault : ByteArray := prog_10_method_44_code
def yX8_fault : MethodName := ⟨RX8, "fault", "()I"⟩
abbrev cX8_depth : ByteArray := prog_10_method_45_code
def yX8_depth : MethodName := ⟨RX8, "depth", "()I"⟩
def RJx145de : String := "java/io/Serializable"
def TJx145de : u_T := fun k => match k with
  | _ => ("", "", "", false)
def tyJx145de : Nat → FieldType := fun k => match k with
  | _ => .int
abbrev wsJx145de0 : List Cond := u_ws RJx145de TJx145de 0
theorem nmJx145de : ∀ a, a < 0 → ∀ b, b < 0 → a ≠ b → (TJx145de a).2.1 ≠ (TJx145de b).2.1 := by decide +kernel
theorem tyJx145de_ok : ∀ k, k < 0 → parseFieldDescriptor (TJx145de k).2.2.1 = some (tyJx145de k) := by decide +kernel
def RJx8e188 : String := "java/lang/Cloneable"
def TJx8e188 : u_T := fun k => match k with
  | _ => ("", "", "", false)
def tyJx8e188 : Nat → FieldType := fun k => match k with
  | _ => .int
abbrev wsJx8e1880 : List Cond := u_ws RJx8e188 TJx8e188 0
theorem nmJx8e188 : ∀ a, a < 0 → ∀ b, b < 0 → a ≠ b → (TJx8e188 a).2.1 ≠ (TJx8e188 b).2.1 := by decide +kernel
theorem tyJx8e188_ok : ∀ k, k < 0 → parseFieldDescriptor (TJx8e188 k).2.2.1 = some (tyJx8e188 k) := by decide +kernel
def RJxab1ab : String := "java/lang/Iterable"
def TJxab1ab : u_T := fun k => match k with
  | _ => ("", "", "", false)
def tyJxab1ab : Nat → FieldType := fun k => match k with
  | _ => .int
abbrev wsJxab1ab0 : List Cond := u_ws RJxab1ab TJxab1ab 0
theorem nmJxab1ab : ∀ a, a < 0 → ∀ b, b < 0 → a ≠ b → (TJxab1ab a).2.1 ≠ (TJxab1ab b).2.1 := by decide +kernel
theorem tyJxab1ab_ok : ∀ k, k < 0 → parseFieldDescriptor (TJxab1ab k).2.2.1 = some (tyJxab1ab k) := by decide +kernel
def RJ13 : String := "java/lang/Long"
def TJ13 : u_T := fun k => match k with
  | _ => ("", "", "", false)
def tyJ13 : Nat → FieldType := fun k => match k with
  | _ => .int
abbrev wsJ130 : List Cond := u_ws RJ13 TJ13 0
theorem nmJ13 : ∀ a, a < 0 → ∀ b, b < 0 → a ≠ b → (TJ13 a).2.1 ≠ (TJ13 b).2.1 := by decide +kernel
theorem tyJ13_ok : ∀ k, k < 0 → parseFieldDescriptor (TJ13 k).2.2.1 = some (tyJ13 k) := by decide +kernel
abbrev cJ13_compare_74951 : ByteArray := prog_16_method_42_code
def yJ13_compare_74951 : MethodName := ⟨RJ13, "compare", "(JJ)I"⟩
abbrev cJ13_compareUnsigned_74951 : ByteArray := prog_16_method_43_code
def yJ13_compareUnsigned_74951 : MethodName := ⟨RJ13, "compareUnsigned", "(JJ)I"⟩
def RJ9 : String := "java/lang/Math"
def TJ9 : u_T := fun k => match k with
  | _ => ("", "", "", false)
def tyJ9 : Nat → FieldType := fun k => match k with
  | _ => .int
abbrev wsJ90 : List Cond := u_ws RJ9 TJ9 0
theorem nmJ9 : ∀ a, a < 0 → ∀ b, b < 0 → a ≠ b → (TJ9 a).2.1 ≠ (TJ9 b).2.1 := by decide +kernel
theorem tyJ9_ok : ∀ k, k < 0 → parseFieldDescriptor (TJ9 k).2.2.1 = some (tyJ9 k) := by decide +kernel
abbrev cJ9_max_7cf53 : ByteArray := prog_17_method_65_code
def yJ9_max_7cf53 : MethodName := ⟨RJ9, "max", "(II)I"⟩
abbrev cJ9_min_7cf53 : ByteArray := prog_17_method_69_code
def yJ9_min_7cf53 : MethodName := ⟨RJ9, "min", "(II)I"⟩
def RJ0 : String := "java/lang/String"
def TJ0 : u_T := fun k => match k with
  | _ => ("", "", "", false)
def tyJ0 : Nat → FieldType := fun k => match k with
  | _ => .int
abbrev wsJ00 : List Cond := u_ws RJ0 TJ0 0
theorem nmJ0 : ∀ a, a < 0 → ∀ b, b < 0 → a ≠ b → (TJ0 a).2.1 ≠ (TJ0 b).2.1 := by decide +kernel
theorem tyJ0_ok : ∀ k, k < 0 → parseFieldDescriptor (TJ0 k).2.2.1 = some (tyJ0 k) := by decide +kernel
abbrev cJ0_length_8abf5 : ByteArray := prog_19_method_54_code
def yJ0_length_8abf5 : MethodName := ⟨RJ0, "length", "()I"⟩
abbrev cJ0_charAt_5068e : ByteArray := prog_19_method_56_code
def yJ0_charAt_5068e : MethodName := ⟨RJ0, "charAt", "(I)C"⟩
abbrev cJ0_coder_7d493 : ByteArray := prog_19_method_152_code
def yJ0_coder_7d493 : MethodName := ⟨RJ0, "coder", "()B"⟩
abbrev cJ0_isLatin1_aae02 : ByteArray := prog_19_method_154_code
def yJ0_isLatin1_aae02 : MethodName := ⟨RJ0, "isLatin1", "()Z"⟩
abbrev cJ0_checkIndex_df160 : ByteArray := prog_19_method_155_code
def yJ0_checkIndex_df160 : MethodName := ⟨RJ0, "checkIndex", "(II)V"⟩
def RJ1 : String := "java/lang/StringLatin1"
def TJ1 : u_T := fun k => match k with
  | _ => ("", "", "", false)
def tyJ1 : Nat → FieldType := fun k => match k with
  | _ => .int
abbrev wsJ10 : List Cond := u_ws RJ1 TJ1 0
theorem nmJ1 : ∀ a, a < 0 → ∀ b, b < 0 → a ≠ b → (TJ1 a).2.1 ≠ (TJ1 b).2.1 := by decide +kernel
theorem tyJ1_ok : ∀ k, k < 0 → parseFieldDescriptor (TJ1 k).2.2.1 = some (tyJ1 k) := by decide +kernel
abbrev cJ1_charAt_3b067 : ByteArray := prog_20_method_2_code
def yJ1_charAt_3b067 : MethodName := ⟨RJ1, "charAt", "([BI)C"⟩
def RJ2 : String := "java/lang/StringUTF16"
def TJ2 : u_T := fun k => match k with
  | _ => ("", "", "", false)
def tyJ2 : Nat → FieldType := fun k => match k with
  | _ => .int
abbrev wsJ20 : List Cond := u_ws RJ2 TJ2 0
theorem nmJ2 : ∀ a, a < 0 → ∀ b, b < 0 → a ≠ b → (TJ2 a).2.1 ≠ (TJ2 b).2.1 := by decide +kernel
theorem tyJ2_ok : ∀ k, k < 0 → parseFieldDescriptor (TJ2 k).2.2.1 = some (tyJ2 k) := by decide +kernel
abbrev cJ2_getChar_3b067 : ByteArray := prog_21_method_5_code
def yJ2_getChar_3b067 : MethodName := ⟨RJ2, "getChar", "([BI)C"⟩
abbrev cJ2_length_9d52b : ByteArray := prog_21_method_6_code
def yJ2_length_9d52b : MethodName := ⟨RJ2, "length", "([B)I"⟩
abbrev cJ2_charAt_3b067 : ByteArray := prog_21_method_83_code
def yJ2_charAt_3b067 : MethodName := ⟨RJ2, "charAt", "([BI)C"⟩
abbrev cJ2_checkIndex_2214a : ByteArray := prog_21_method_91_code
def yJ2_checkIndex_2214a : MethodName := ⟨RJ2, "checkIndex", "(I[B)V"⟩
def RJ10 : String := "java/lang/System"
def TJ10 : u_T := fun k => match k with
  | _ => ("", "", "", false)
def tyJ10 : Nat → FieldType := fun k => match k with
  | _ => .int
abbrev wsJ100 : List Cond := u_ws RJ10 TJ10 0
theorem nmJ10 : ∀ a, a < 0 → ∀ b, b < 0 → a ≠ b → (TJ10 a).2.1 ≠ (TJ10 b).2.1 := by decide +kernel
theorem tyJ10_ok : ∀ k, k < 0 → parseFieldDescriptor (TJ10 k).2.2.1 = some (tyJ10 k) := by decide +kernel
def RJxa1e45 : String := "java/util/AbstractCollection"
def TJxa1e45 : u_T := fun k => match k with
  | _ => ("", "", "", false)
def tyJxa1e45 : Nat → FieldType := fun k => match k with
  | _ => .int
abbrev wsJxa1e450 : List Cond := u_ws RJxa1e45 TJxa1e45 0
theorem nmJxa1e45 : ∀ a, a < 0 → ∀ b, b < 0 → a ≠ b → (TJxa1e45 a).2.1 ≠ (TJxa1e45 b).2.1 := by decide +kernel
theorem tyJxa1e45_ok : ∀ k, k < 0 → parseFieldDescriptor (TJxa1e45 k).2.2.1 = some (tyJxa1e45 k) := by decide +kernel
abbrev cJxa1e45_init_da8c8 : ByteArray := prog_24_method_1_code
def yJxa1e45_init_da8c8 : MethodName := ⟨RJxa1e45, "<init>", "()V"⟩
def RJxc12de : String := "java/util/AbstractList"
def TJxc12de : u_T := fun k => match k with
  | _ => ("", "", "", false)
def tyJxc12de : Nat → FieldType := fun k => match k with
  | _ => .int
abbrev wsJxc12de0 : List Cond := u_ws RJxc12de TJxc12de 0
theorem nmJxc12de : ∀ a, a < 0 → ∀ b, b < 0 → a ≠ b → (TJxc12de a).2.1 ≠ (TJxc12de b).2.1 := by decide +kernel
theorem tyJxc12de_ok : ∀ k, k < 0 → parseFieldDescriptor (TJxc12de k).2.2.1 = some (tyJxc12de k) := by decide +kernel
abbrev cJxc12de_init_da8c8 : ByteArray := prog_25_method_1_code
def yJxc12de_init_da8c8 : MethodName := ⟨RJxc12de, "<init>", "()V"⟩
def RJx4a65c : String := "java/util/ArrayList"
def TJx4a65c : u_T := fun k => match k with
  | 0 => ("java/util/AbstractList", "modCount", "I", false)
  | 1 => ("java/util/ArrayList", "elementData", "[Ljava/lang/Object;", false)
  | _ => ("java/util/ArrayList", "size", "I", false)
def tyJx4a65c : Nat → FieldType := fun k => match k with
  | 0 => .int
  | 1 => .array (.object "java/lang/Object")
  | _ => .int
abbrev wsJx4a65c0 : List Cond := u_ws RJx4a65c TJx4a65c 3
theorem nmJx4a65c : ∀ a, a < 3 → ∀ b, b < 3 → a ≠ b → (TJx4a65c a).2.1 ≠ (TJx4a65c b).2.1 := by decide +kernel
theorem tyJx4a65c_ok : ∀ k, k < 3 → parseFieldDescriptor (TJx4a65c k).2.2.1 = some (tyJx4a65c k) := by decide +kernel
abbrev cJx4a65c_init_da8c8 : ByteArray := prog_26_method_2_code
def yJx4a65c_init_da8c8 : MethodName := ⟨RJx4a65c, "<init>", "()V"⟩
abbrev cJx4a65c_grow_92f84 : ByteArray := prog_26_method_6_code
def yJx4a65c_grow_92f84 : MethodName := ⟨RJx4a65c, "grow", "(I)[Ljava/lang/Object;"⟩
abbrev cJx4a65c_grow_d5877 : ByteArray := prog_26_method_7_code
def yJx4a65c_grow_d5877 : MethodName := ⟨RJx4a65c, "grow", "()[Ljava/lang/Object;"⟩
abbrev cJx4a65c_size_8abf5 : ByteArray := prog_26_method_8_code
def yJx4a65c_size_8abf5 : MethodName := ⟨RJx4a65c, "size", "()I"⟩
abbrev cJx4a65c_elementData_915e3 : ByteArray := prog_26_method_18_code
def yJx4a65c_elementData_915e3 : MethodName := ⟨RJx4a65c, "elementData", "(I)Ljava/lang/Object;"⟩
abbrev cJx4a65c_get_915e3 : ByteArray := prog_26_method_20_code
def yJx4a65c_get_915e3 : MethodName := ⟨RJx4a65c, "get", "(I)Ljava/lang/Object;"⟩
abbrev cJx4a65c_add_72be8 : ByteArray := prog_26_method_24_code
def yJx4a65c_add_72be8 : MethodName := ⟨RJx4a65c, "add", "(Ljava/lang/Object;[Ljava/lang/Object;I)V"⟩
abbrev cJx4a65c_add_9ea2d : ByteArray := prog_26_method_25_code
def yJx4a65c_add_9ea2d : MethodName := ⟨RJx4a65c, "add", "(Ljava/lang/Object;)Z"⟩
abbrev cJx4a65c_clear_da8c8 : ByteArray := prog_26_method_40_code
def yJx4a65c_clear_da8c8 : MethodName := ⟨RJx4a65c, "clear", "()V"⟩
def RJ7 : String := "java/util/Arrays"
def TJ7 : u_T := fun k => match k with
  | _ => ("", "", "", false)
def tyJ7 : Nat → FieldType := fun k => match k with
  | _ => .int
abbrev wsJ70 : List Cond := u_ws RJ7 TJ7 0
theorem nmJ7 : ∀ a, a < 0 → ∀ b, b < 0 → a ≠ b → (TJ7 a).2.1 ≠ (TJ7 b).2.1 := by decide +kernel
theorem tyJ7_ok : ∀ k, k < 0 → parseFieldDescriptor (TJ7 k).2.2.1 = some (tyJ7 k) := by decide +kernel
abbrev cJ7_copyOf_1904c : ByteArray := prog_27_method_119_code
def yJ7_copyOf_1904c : MethodName := ⟨RJ7, "copyOf", "([Ljava/lang/Object;I)[Ljava/lang/Object;"⟩
abbrev cJ7_copyOf_6403c : ByteArray := prog_27_method_120_code
def yJ7_copyOf_6403c : MethodName := ⟨RJ7, "copyOf", "([Ljava/lang/Object;ILjava/lang/Class;)[Ljava/lang/Object;"⟩
abbrev cJ7_copyOf_9075b : ByteArray := prog_27_method_121_code
def yJ7_copyOf_9075b : MethodName := ⟨RJ7, "copyOf", "([BI)[B"⟩
abbrev cJ7_copyOf_59c91 : ByteArray := prog_27_method_123_code
def yJ7_copyOf_59c91 : MethodName := ⟨RJ7, "copyOf", "([II)[I"⟩
def RJx5ef63 : String := "java/util/Collection"
def TJx5ef63 : u_T := fun k => match k with
  | _ => ("", "", "", false)
def tyJx5ef63 : Nat → FieldType := fun k => match k with
  | _ => .int
abbrev wsJx5ef630 : List Cond := u_ws RJx5ef63 TJx5ef63 0
theorem nmJx5ef63 : ∀ a, a < 0 → ∀ b, b < 0 → a ≠ b → (TJx5ef63 a).2.1 ≠ (TJx5ef63 b).2.1 := by decide +kernel
theorem tyJx5ef63_ok : ∀ k, k < 0 → parseFieldDescriptor (TJx5ef63 k).2.2.1 = some (tyJx5ef63 k) := by decide +kernel
def RJxbd725 : String := "java/util/List"
def TJxbd725 : u_T := fun k => match k with
  | _ => ("", "", "", false)
def tyJxbd725 : Nat → FieldType := fun k => match k with
  | _ => .int
abbrev wsJxbd7250 : List Cond := u_ws RJxbd725 TJxbd725 0
theorem nmJxbd725 : ∀ a, a < 0 → ∀ b, b < 0 → a ≠ b → (TJxbd725 a).2.1 ≠ (TJxbd725 b).2.1 := by decide +kernel
theorem tyJxbd725_ok : ∀ k, k < 0 → parseFieldDescriptor (TJxbd725 k).2.2.1 = some (tyJxbd725 k) := by decide +kernel
def RJ15 : String := "java/util/Objects"
def TJ15 : u_T := fun k => match k with
  | _ => ("", "", "", false)
def tyJ15 : Nat → FieldType := fun k => match k with
  | _ => .int
abbrev wsJ150 : List Cond := u_ws RJ15 TJ15 0
theorem nmJ15 : ∀ a, a < 0 → ∀ b, b < 0 → a ≠ b → (TJ15 a).2.1 ≠ (TJ15 b).2.1 := by decide +kernel
theorem tyJ15_ok : ∀ k, k < 0 → parseFieldDescriptor (TJ15 k).2.2.1 = some (tyJ15 k) := by decide +kernel
abbrev cJ15_checkIndex_7cf53 : ByteArray := prog_30_method_17_code
def yJ15_checkIndex_7cf53 : MethodName := ⟨RJ15, "checkIndex", "(II)I"⟩
def RJxf0a74 : String := "java/util/RandomAccess"
def TJxf0a74 : u_T := fun k => match k with
  | _ => ("", "", "", false)
def tyJxf0a74 : Nat → FieldType := fun k => match k with
  | _ => .int
abbrev wsJxf0a740 : List Cond := u_ws RJxf0a74 TJxf0a74 0
theorem nmJxf0a74 : ∀ a, a < 0 → ∀ b, b < 0 → a ≠ b → (TJxf0a74 a).2.1 ≠ (TJxf0a74 b).2.1 := by decide +kernel
theorem tyJxf0a74_ok : ∀ k, k < 0 → parseFieldDescriptor (TJxf0a74 k).2.2.1 = some (tyJxf0a74 k) := by decide +kernel
def RJxa66e6 : String := "java/util/SequencedCollection"
def TJxa66e6 : u_T := fun k => match k with
  | _ => ("", "", "", false)
def tyJxa66e6 : Nat → FieldType := fun k => match k with
  | _ => .int
abbrev wsJxa66e60 : List Cond := u_ws RJxa66e6 TJxa66e6 0
theorem nmJxa66e6 : ∀ a, a < 0 → ∀ b, b < 0 → a ≠ b → (TJxa66e6 a).2.1 ≠ (TJxa66e6 b).2.1 := by decide +kernel
theorem tyJxa66e6_ok : ∀ k, k < 0 → parseFieldDescriptor (TJxa66e6 k).2.2.1 = some (tyJxa66e6 k) := by decide +kernel
def RJ8 : String := "jdk/internal/util/ArraysSupport"
def TJ8 : u_T := fun k => match k with
  | _ => ("", "", "", false)
def tyJ8 : Nat → FieldType := fun k => match k with
  | _ => .int
abbrev wsJ80 : List Cond := u_ws RJ8 TJ8 0
theorem nmJ8 : ∀ a, a < 0 → ∀ b, b < 0 → a ≠ b → (TJ8 a).2.1 ≠ (TJ8 b).2.1 := by decide +kernel
theorem tyJ8_ok : ∀ k, k < 0 → parseFieldDescriptor (TJ8 k).2.2.1 = some (tyJ8 k) := by decide +kernel
abbrev cJ8_newLength_cabcc : ByteArray := prog_33_method_27_code
def yJ8_newLength_cabcc : MethodName := ⟨RJ8, "newLength", "(III)I"⟩
abbrev cJ8_hugeLength_7cf53 : ByteArray := prog_33_method_28_code
def yJ8_hugeLength_7cf53 : MethodName := ⟨RJ8, "hugeLength", "(II)I"⟩
def RJ3 : String := "jdk/internal/util/Preconditions"
def TJ3 : u_T := fun k => match k with
  | _ => ("", "", "", false)
def tyJ3 : Nat → FieldType := fun k => match k with
  | _ => .int
abbrev wsJ30 : List Cond := u_ws RJ3 TJ3 0
theorem nmJ3 : ∀ a, a < 0 → ∀ b, b < 0 → a ≠ b → (TJ3 a).2.1 ≠ (TJ3 b).2.1 := by decide +kernel
theorem tyJ3_ok : ∀ k, k < 0 → parseFieldDescriptor (TJ3 k).2.2.1 = some (tyJ3 k) := by decide +kernel
abbrev cJ3_checkIndex_8e157 : ByteArray := prog_34_method_11_code
def yJ3_checkIndex_8e157 : MethodName := ⟨RJ3, "checkIndex", "(IILjava/util/function/BiFunction;)I"⟩
def RL : String := "MacroReaderLaw"
abbrev cL_next : ByteArray := method_3_code
def yL_next : MethodName := ⟨RL, "next", "(LMacroReader;[J)I"⟩
abbrev cL_law : ByteArray := code
def yL_law : MethodName := ⟨RL, "law", "([I)Z"⟩
theorem inX0 : ∀ w ∈ wsX00, w ∈ lw_tbl := by decide +kernel
theorem inX1 : ∀ w ∈ wsX10, w ∈ lw_tbl := by decide +kernel
theorem inX2 : ∀ w ∈ wsX20, w ∈ lw_tbl := by decide +kernel
theorem inX3 : ∀ w ∈ wsX30, w ∈ lw_tbl := by decide +kernel
theorem inX4 : ∀ w ∈ wsX40, w ∈ lw_tbl := by decide +kernel
theorem inX5 : ∀ w ∈ wsX50, w ∈ lw_tbl := by decide +kernel
theorem inX6 : ∀ w ∈ wsX60, w ∈ lw_tbl := by decide +kernel
theorem inX7 : ∀ w ∈ wsX70, w ∈ lw_tbl := by decide +kernel
theorem inX8 : ∀ w ∈ wsX80, w ∈ lw_tbl := by decide +kernel
theorem inJx145de : ∀ w ∈ wsJx145de0, w ∈ lw_tbl := by decide +kernel
theorem inJx8e188 : ∀ w ∈ wsJx8e1880, w ∈ lw_tbl := by decide +kernel
theorem inJxab1ab : ∀ w ∈ wsJxab1ab0, w ∈ lw_tbl := by decide +kernel
theorem inJ13 : ∀ w ∈ wsJ130, w ∈ lw_tbl := by decide +kernel
theorem inJ9 : ∀ w ∈ wsJ90, w ∈ lw_tbl := by decide +kernel
theorem inJ0 : ∀ w ∈ wsJ00, w ∈ lw_tbl := by decide +kernel
theorem inJ1 : ∀ w ∈ wsJ10, w ∈ lw_tbl := by decide +kernel
theorem inJ2 : ∀ w ∈ wsJ20, w ∈ lw_tbl := by decide +kernel
theorem inJ10 : ∀ w ∈ wsJ100, w ∈ lw_tbl := by decide +kernel
theorem inJxa1e45 : ∀ w ∈ wsJxa1e450, w ∈ lw_tbl := by decide +kernel
theorem inJxc12de : ∀ w ∈ wsJxc12de0, w ∈ lw_tbl := by decide +kernel
theorem inJx4a65c : ∀ w ∈ wsJx4a65c0, w ∈ lw_tbl := by decide +kernel
theorem inJ7 : ∀ w ∈ wsJ70, w ∈ lw_tbl := by decide +kernel
theorem inJx5ef63 : ∀ w ∈ wsJx5ef630, w ∈ lw_tbl := by decide +kernel
theorem inJxbd725 : ∀ w ∈ wsJxbd7250, w ∈ lw_tbl := by decide +kernel
theorem inJ15 : ∀ w ∈ wsJ150, w ∈ lw_tbl := by decide +kernel
theorem inJxf0a74 : ∀ w ∈ wsJxf0a740, w ∈ lw_tbl := by decide +kernel
theorem inJxa66e6 : ∀ w ∈ wsJxa66e60, w ∈ lw_tbl := by decide +kernel
theorem inJ8 : ∀ w ∈ wsJ80, w ∈ lw_tbl := by decide +kernel
theorem inJ3 : ∀ w ∈ wsJ30, w ∈ lw_tbl := by decide +kernel
abbrev vwCl : List vw_C := [(RJx4a65c, TJx4a65c, 3), (RX0, TX0, 3), (RX1, TX1, 2), (RX2, TX2, 6), (RX3, TX3, 2), (RX4, TX4, 11), (RX5, TX5, 4), (RX6, TX6, 7), (RX7, TX7, 13), (RX8, TX8, 50)]
