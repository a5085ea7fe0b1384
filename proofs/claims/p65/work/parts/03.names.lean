/-! ===== BEGIN printed: names, fields, word lists, decode rows ===== -/
def RX0 : String := "TrigramReaders$Bytes"
def TX0 : u_T := fun k => match k with
  | 0 => ("TrigramReaders$Bytes", "row", "[I", true)
  | _ => ("TrigramReaders$Bytes", "length", "I", false)
def tyX0 : Nat → FieldType := fun k => match k with
  | 0 => .array .int
  | _ => .int
abbrev wsX00 : List Cond := u_ws RX0 TX0 2
theorem nmX0 : ∀ a, a < 2 → ∀ b, b < 2 → a ≠ b → (TX0 a).2.1 ≠ (TX0 b).2.1 := by decide +kernel
theorem tyX0_ok : ∀ k, k < 2 → parseFieldDescriptor (TX0 k).2.2.1 = some (tyX0 k) := by decide +kernel
abbrev cX0_init : ByteArray := prog_2_method_1_code
def yX0_init : MethodName := ⟨RX0, "<init>", "()V"⟩
abbrev cX0_clear : ByteArray := prog_2_method_2_code
def yX0_clear : MethodName := ⟨RX0, "clear", "()V"⟩
abbrev cX0_append : ByteArray := prog_2_method_3_code
def yX0_append : MethodName := ⟨RX0, "append", "(I)V"⟩
abbrev cX0_appendFour : ByteArray := prog_2_method_4_code
def yX0_appendFour : MethodName := ⟨RX0, "appendFour", "(I)V"⟩
abbrev cX0_at : ByteArray := prog_2_method_6_code
def yX0_at : MethodName := ⟨RX0, "at", "(I)I"⟩
abbrev cX0_isName : ByteArray := prog_2_method_7_code
def yX0_isName : MethodName := ⟨RX0, "isName", "(II)Z"⟩
abbrev cX0_isDocument : ByteArray := prog_2_method_8_code
def yX0_isDocument : MethodName := ⟨RX0, "isDocument", "(II)Z"⟩
def RX1 : String := "TrigramReaders$Chance"
def TX1 : u_T := fun k => match k with
  | 0 => ("TrigramReaders$Chance", "top", "J", false)
  | 1 => ("TrigramReaders$Chance", "bottom", "J", false)
  | 2 => ("TrigramReaders$Chance", "escapeFactors", "I", false)
  | _ => ("TrigramReaders$Chance", "excluded", "I", false)
def tyX1 : Nat → FieldType := fun k => match k with
  | 0 => .long
  | 1 => .long
  | 2 => .int
  | _ => .int
abbrev wsX10 : List Cond := u_ws RX1 TX1 4
theorem nmX1 : ∀ a, a < 4 → ∀ b, b < 4 → a ≠ b → (TX1 a).2.1 ≠ (TX1 b).2.1 := by decide +kernel
theorem tyX1_ok : ∀ k, k < 4 → parseFieldDescriptor (TX1 k).2.2.1 = some (tyX1 k) := by decide +kernel
abbrev cX1_init : ByteArray := prog_3_method_1_code
def yX1_init : MethodName := ⟨RX1, "<init>", "()V"⟩
abbrev cX1_find : ByteArray := prog_3_method_2_code
def yX1_find : MethodName := ⟨RX1, "find", "(LTrigramReaders$Reader;III)V"⟩
abbrev cX1_visit : ByteArray := prog_3_method_3_code
def yX1_visit : MethodName := ⟨RX1, "visit", "(LTrigramReaders$Counts;III)Z"⟩
abbrev cX1_divisorFor : ByteArray := prog_3_method_4_code
def yX1_divisorFor : MethodName := ⟨RX1, "divisorFor", "(III)I"⟩
abbrev cX1_reduce : ByteArray := prog_3_method_5_code
def yX1_reduce : MethodName := ⟨RX1, "reduce", "()V"⟩
abbrev cX1_bits : ByteArray := prog_3_method_6_code
def yX1_bits : MethodName := ⟨RX1, "bits", "()I"⟩
def RX2 : String := "TrigramReaders$Counts"
def TX2 : u_T := fun k => match k with
  | 0 => ("TrigramReaders$Counts", "keys", "[I", true)
  | 1 => ("TrigramReaders$Counts", "values", "[I", true)
  | _ => ("TrigramReaders$Counts", "size", "I", false)
def tyX2 : Nat → FieldType := fun k => match k with
  | 0 => .array .int
  | 1 => .array .int
  | _ => .int
abbrev wsX20 : List Cond := u_ws RX2 TX2 3
theorem nmX2 : ∀ a, a < 3 → ∀ b, b < 3 → a ≠ b → (TX2 a).2.1 ≠ (TX2 b).2.1 := by decide +kernel
theorem tyX2_ok : ∀ k, k < 3 → parseFieldDescriptor (TX2 k).2.2.1 = some (tyX2 k) := by decide +kernel
abbrev cX2_init : ByteArray := prog_4_method_1_code
def yX2_init : MethodName := ⟨RX2, "<init>", "()V"⟩
abbrev cX2_copyFrom : ByteArray := prog_4_method_2_code
def yX2_copyFrom : MethodName := ⟨RX2, "copyFrom", "(LTrigramReaders$Counts;)V"⟩
abbrev cX2_placeOf : ByteArray := prog_4_method_3_code
def yX2_placeOf : MethodName := ⟨RX2, "placeOf", "(I)I"⟩
abbrev cX2_valueOf : ByteArray := prog_4_method_4_code
def yX2_valueOf : MethodName := ⟨RX2, "valueOf", "(I)I"⟩
abbrev cX2_add : ByteArray := prog_4_method_5_code
def yX2_add : MethodName := ⟨RX2, "add", "(II)V"⟩
abbrev cX2_addAll : ByteArray := prog_4_method_6_code
def yX2_addAll : MethodName := ⟨RX2, "addAll", "(LTrigramReaders$Counts;)V"⟩
abbrev cX2_countPosition : ByteArray := prog_4_method_7_code
def yX2_countPosition : MethodName := ⟨RX2, "countPosition", "(LTrigramReaders$Document;I)V"⟩
abbrev cX2_countDocument : ByteArray := prog_4_method_8_code
def yX2_countDocument : MethodName := ⟨RX2, "countDocument", "(LTrigramReaders$Document;)V"⟩
abbrev cX2_halve : ByteArray := prog_4_method_9_code
def yX2_halve : MethodName := ⟨RX2, "halve", "()V"⟩
abbrev cX2_symbolsIn : ByteArray := prog_4_method_10_code
def yX2_symbolsIn : MethodName := ⟨RX2, "symbolsIn", "(I)I"⟩
abbrev cX2_sumIn : ByteArray := prog_4_method_11_code
def yX2_sumIn : MethodName := ⟨RX2, "sumIn", "(I)I"⟩
def RX3 : String := "TrigramReaders$Document"
def TX3 : u_T := fun k => match k with
  | 0 => ("TrigramReaders$Document", "symbols", "[I", true)
  | 1 => ("TrigramReaders$Document", "length", "I", false)
  | _ => ("TrigramReaders$Document", "yearAdded", "I", false)
def tyX3 : Nat → FieldType := fun k => match k with
  | 0 => .array .int
  | 1 => .int
  | _ => .int
abbrev wsX30 : List Cond := u_ws RX3 TX3 3
theorem nmX3 : ∀ a, a < 3 → ∀ b, b < 3 → a ≠ b → (TX3 a).2.1 ≠ (TX3 b).2.1 := by decide +kernel
theorem tyX3_ok : ∀ k, k < 3 → parseFieldDescriptor (TX3 k).2.2.1 = some (tyX3 k) := by decide +kernel
abbrev cX3_init : ByteArray := prog_5_method_1_code
def yX3_init : MethodName := ⟨RX3, "<init>", "()V"⟩
abbrev cX3_copyFrom : ByteArray := prog_5_method_2_code
def yX3_copyFrom : MethodName := ⟨RX3, "copyFrom", "(LTrigramReaders$Document;)V"⟩
abbrev cX3_take : ByteArray := prog_5_method_3_code
def yX3_take : MethodName := ⟨RX3, "take", "(LTrigramReaders$Bytes;III)V"⟩
abbrev cX3_symbolAt : ByteArray := prog_5_method_4_code
def yX3_symbolAt : MethodName := ⟨RX3, "symbolAt", "(I)I"⟩
def RX4 : String := "TrigramReaders$Parser"
def TX4 : u_T := fun k => match k with
  | 0 => ("TrigramReaders$Parser", "text", "LTrigramReaders$Bytes;", true)
  | 1 => ("TrigramReaders$Parser", "target", "LTrigramReaders$State;", true)
  | 2 => ("TrigramReaders$Parser", "kind", "I", false)
  | 3 => ("TrigramReaders$Parser", "tokenStart", "I", false)
  | 4 => ("TrigramReaders$Parser", "tokenEnd", "I", false)
  | 5 => ("TrigramReaders$Parser", "errorCode", "I", false)
  | _ => ("TrigramReaders$Parser", "errorPosition", "I", false)
def tyX4 : Nat → FieldType := fun k => match k with
  | 0 => .object "TrigramReaders$Bytes"
  | 1 => .object "TrigramReaders$State"
  | 2 => .int
  | 3 => .int
  | 4 => .int
  | 5 => .int
  | _ => .int
abbrev wsX40 : List Cond := u_ws RX4 TX4 7
theorem nmX4 : ∀ a, a < 7 → ∀ b, b < 7 → a ≠ b → (TX4 a).2.1 ≠ (TX4 b).2.1 := by decide +kernel
theorem tyX4_ok : ∀ k, k < 7 → parseFieldDescriptor (TX4 k).2.2.1 = some (tyX4 k) := by decide +kernel
abbrev cX4_init : ByteArray := prog_6_method_1_code
def yX4_init : MethodName := ⟨RX4, "<init>", "(LTrigramReaders$Bytes;LTrigramReaders$State;)V"⟩
abbrev cX4_parseAll : ByteArray := prog_6_method_2_code
def yX4_parseAll : MethodName := ⟨RX4, "parseAll", "()Z"⟩
abbrev cX4_parseReader : ByteArray := prog_6_method_3_code
def yX4_parseReader : MethodName := ⟨RX4, "parseReader", "()Z"⟩
abbrev cX4_parseDocument : ByteArray := prog_6_method_4_code
def yX4_parseDocument : MethodName := ⟨RX4, "parseDocument", "()Z"⟩
abbrev cX4_parseTrain : ByteArray := prog_6_method_5_code
def yX4_parseTrain : MethodName := ⟨RX4, "parseTrain", "()Z"⟩
abbrev cX4_parseYear : ByteArray := prog_6_method_6_code
def yX4_parseYear : MethodName := ⟨RX4, "parseYear", "()Z"⟩
abbrev cX4_parseSemicolon : ByteArray := prog_6_method_7_code
def yX4_parseSemicolon : MethodName := ⟨RX4, "parseSemicolon", "()Z"⟩
abbrev cX4_fail : ByteArray := prog_6_method_8_code
def yX4_fail : MethodName := ⟨RX4, "fail", "(I)Z"⟩
abbrev cX4_next : ByteArray := prog_6_method_9_code
def yX4_next : MethodName := ⟨RX4, "next", "()V"⟩
abbrev cX4_isBlank : ByteArray := prog_6_method_10_code
def yX4_isBlank : MethodName := ⟨RX4, "isBlank", "(I)Z"⟩
abbrev cX4_kindOf : ByteArray := prog_6_method_11_code
def yX4_kindOf : MethodName := ⟨RX4, "kindOf", "(I)I"⟩
abbrev cX4_isWord : ByteArray := prog_6_method_12_code
def yX4_isWord : MethodName := ⟨RX4, "isWord", "(Ljava/lang/String;)Z"⟩
abbrev cX4_methodWord : ByteArray := prog_6_method_13_code
def yX4_methodWord : MethodName := ⟨RX4, "methodWord", "()I"⟩
abbrev cX4_numberValue : ByteArray := prog_6_method_14_code
def yX4_numberValue : MethodName := ⟨RX4, "numberValue", "()I"⟩
def RX5 : String := "TrigramReaders$Ranking"
def TX5 : u_T := fun k => match k with
  | 0 => ("TrigramReaders$Ranking", "symbols", "[I", true)
  | 1 => ("TrigramReaders$Ranking", "weights", "[I", true)
  | 2 => ("TrigramReaders$Ranking", "size", "I", false)
  | _ => ("TrigramReaders$Ranking", "placed", "I", false)
def tyX5 : Nat → FieldType := fun k => match k with
  | 0 => .array .int
  | 1 => .array .int
  | 2 => .int
  | _ => .int
abbrev wsX50 : List Cond := u_ws RX5 TX5 4
theorem nmX5 : ∀ a, a < 4 → ∀ b, b < 4 → a ≠ b → (TX5 a).2.1 ≠ (TX5 b).2.1 := by decide +kernel
theorem tyX5_ok : ∀ k, k < 4 → parseFieldDescriptor (TX5 k).2.2.1 = some (tyX5 k) := by decide +kernel
abbrev cX5_init : ByteArray := prog_7_method_1_code
def yX5_init : MethodName := ⟨RX5, "<init>", "()V"⟩
abbrev cX5_fill : ByteArray := prog_7_method_2_code
def yX5_fill : MethodName := ⟨RX5, "fill", "(LTrigramReaders$Counts;II)V"⟩
abbrev cX5_appendOrder : ByteArray := prog_7_method_3_code
def yX5_appendOrder : MethodName := ⟨RX5, "appendOrder", "(LTrigramReaders$Counts;I)V"⟩
abbrev cX5_insert : ByteArray := prog_7_method_4_code
def yX5_insert : MethodName := ⟨RX5, "insert", "(III)V"⟩
abbrev cX5_guess : ByteArray := prog_7_method_5_code
def yX5_guess : MethodName := ⟨RX5, "guess", "(I)I"⟩
abbrev cX5_guessesUntil : ByteArray := prog_7_method_6_code
def yX5_guessesUntil : MethodName := ⟨RX5, "guessesUntil", "(I)I"⟩
def RX6 : String := "TrigramReaders$Reader"
def TX6 : u_T := fun k => match k with
  | 0 => ("TrigramReaders$Reader", "name", "[I", true)
  | 1 => ("TrigramReaders$Reader", "nameLength", "I", false)
  | 2 => ("TrigramReaders$Reader", "method", "I", false)
  | 3 => ("TrigramReaders$Reader", "counts", "LTrigramReaders$Counts;", true)
  | 4 => ("TrigramReaders$Reader", "symbolsTrained", "I", false)
  | _ => ("TrigramReaders$Reader", "trainings", "[I", true)
def tyX6 : Nat → FieldType := fun k => match k with
  | 0 => .array .int
  | 1 => .int
  | 2 => .int
  | 3 => .object "TrigramReaders$Counts"
  | 4 => .int
  | _ => .array .int
abbrev wsX60 : List Cond := u_ws RX6 TX6 6
theorem nmX6 : ∀ a, a < 6 → ∀ b, b < 6 → a ≠ b → (TX6 a).2.1 ≠ (TX6 b).2.1 := by decide +kernel
theorem tyX6_ok : ∀ k, k < 6 → parseFieldDescriptor (TX6 k).2.2.1 = some (tyX6 k) := by decide +kernel
abbrev cX6_init : ByteArray := prog_8_method_1_code
def yX6_init : MethodName := ⟨RX6, "<init>", "()V"⟩
abbrev cX6_copyFrom : ByteArray := prog_8_method_2_code
def yX6_copyFrom : MethodName := ⟨RX6, "copyFrom", "(LTrigramReaders$Reader;)V"⟩
abbrev cX6_begin : ByteArray := prog_8_method_3_code
def yX6_begin : MethodName := ⟨RX6, "begin", "(LTrigramReaders$Bytes;III)V"⟩
abbrev cX6_clearTrainings : ByteArray := prog_8_method_4_code
def yX6_clearTrainings : MethodName := ⟨RX6, "clearTrainings", "()V"⟩
abbrev cX6_nameAt : ByteArray := prog_8_method_5_code
def yX6_nameAt : MethodName := ⟨RX6, "nameAt", "(I)I"⟩
abbrev cX6_isNamed : ByteArray := prog_8_method_6_code
def yX6_isNamed : MethodName := ⟨RX6, "isNamed", "(LTrigramReaders$Bytes;II)Z"⟩
abbrev cX6_trainingsOn : ByteArray := prog_8_method_7_code
def yX6_trainingsOn : MethodName := ⟨RX6, "trainingsOn", "(I)I"⟩
abbrev cX6_recordTraining : ByteArray := prog_8_method_8_code
def yX6_recordTraining : MethodName := ⟨RX6, "recordTraining", "(II)V"⟩
abbrev cX6_takeIn : ByteArray := prog_8_method_9_code
def yX6_takeIn : MethodName := ⟨RX6, "takeIn", "(LTrigramReaders$Reader;)V"⟩
def RX7 : String := "TrigramReaders$State"
def TX7 : u_T := fun k => match k with
  | 0 => ("TrigramReaders$State", "readers", "[LTrigramReaders$Reader;", true)
  | 1 => ("TrigramReaders$State", "readersUsed", "I", false)
  | 2 => ("TrigramReaders$State", "documents", "[LTrigramReaders$Document;", true)
  | 3 => ("TrigramReaders$State", "documentsUsed", "I", false)
  | _ => ("TrigramReaders$State", "currentYear", "I", false)
def tyX7 : Nat → FieldType := fun k => match k with
  | 0 => .array (.object "TrigramReaders$Reader")
  | 1 => .int
  | 2 => .array (.object "TrigramReaders$Document")
  | 3 => .int
  | _ => .int
abbrev wsX70 : List Cond := u_ws RX7 TX7 5
theorem nmX7 : ∀ a, a < 5 → ∀ b, b < 5 → a ≠ b → (TX7 a).2.1 ≠ (TX7 b).2.1 := by decide +kernel
theorem tyX7_ok : ∀ k, k < 5 → parseFieldDescriptor (TX7 k).2.2.1 = some (tyX7 k) := by decide +kernel
abbrev cX7_init : ByteArray := prog_9_method_1_code
def yX7_init : MethodName := ⟨RX7, "<init>", "()V"⟩
abbrev cX7_copyFrom : ByteArray := prog_9_method_2_code
def yX7_copyFrom : MethodName := ⟨RX7, "copyFrom", "(LTrigramReaders$State;)V"⟩
abbrev cX7_clear : ByteArray := prog_9_method_3_code
def yX7_clear : MethodName := ⟨RX7, "clear", "()V"⟩
abbrev cX7_readerNamed : ByteArray := prog_9_method_4_code
def yX7_readerNamed : MethodName := ⟨RX7, "readerNamed", "(LTrigramReaders$Bytes;II)LTrigramReaders$Reader;"⟩
abbrev cX7_readerAt : ByteArray := prog_9_method_5_code
def yX7_readerAt : MethodName := ⟨RX7, "readerAt", "(I)LTrigramReaders$Reader;"⟩
abbrev cX7_documentAt : ByteArray := prog_9_method_6_code
def yX7_documentAt : MethodName := ⟨RX7, "documentAt", "(I)LTrigramReaders$Document;"⟩
abbrev cX7_putReader : ByteArray := prog_9_method_7_code
def yX7_putReader : MethodName := ⟨RX7, "putReader", "(LTrigramReaders$Bytes;III)V"⟩
abbrev cX7_putDocument : ByteArray := prog_9_method_8_code
def yX7_putDocument : MethodName := ⟨RX7, "putDocument", "(LTrigramReaders$Bytes;II)V"⟩
abbrev cX7_passYear : ByteArray := prog_9_method_9_code
def yX7_passYear : MethodName := ⟨RX7, "passYear", "()V"⟩
def RX8 : String := "TrigramReaders"
def TX8 : u_T := fun k => match k with
  | 0 => ("TrigramReaders", "state", "LTrigramReaders$State;", true)
  | 1 => ("TrigramReaders", "loaded", "LTrigramReaders$State;", true)
  | 2 => ("TrigramReaders", "past", "[LTrigramReaders$State;", true)
  | 3 => ("TrigramReaders", "pastNext", "I", false)
  | 4 => ("TrigramReaders", "pastCount", "I", false)
  | 5 => ("TrigramReaders", "slots", "[LTrigramReaders$State;", true)
  | 6 => ("TrigramReaders", "slotUsed", "[Z", true)
  | 7 => ("TrigramReaders", "input", "LTrigramReaders$Bytes;", true)
  | 8 => ("TrigramReaders", "output", "LTrigramReaders$Bytes;", true)
  | 9 => ("TrigramReaders", "loadErrorCode", "I", false)
  | 10 => ("TrigramReaders", "loadErrorPosition", "I", false)
  | 11 => ("TrigramReaders", "trial", "LTrigramReaders$Counts;", true)
  | 12 => ("TrigramReaders", "ranking", "LTrigramReaders$Ranking;", true)
  | 13 => ("TrigramReaders", "chance", "LTrigramReaders$Chance;", true)
  | _ => ("TrigramReaders", "decodedRanks", "[I", true)
def tyX8 : Nat → FieldType := fun k => match k with
  | 0 => .object "TrigramReaders$State"
  | 1 => .object "TrigramReaders$State"
  | 2 => .array (.object "TrigramReaders$State")
  | 3 => .int
  | 4 => .int
  | 5 => .array (.object "TrigramReaders$State")
  | 6 => .array .boolean
  | 7 => .object "TrigramReaders$Bytes"
  | 8 => .object "TrigramReaders$Bytes"
  | 9 => .int
  | 10 => .int
  | 11 => .object "TrigramReaders$Counts"
  | 12 => .object "TrigramReaders$Ranking"
  | 13 => .object "TrigramReaders$Chance"
  | _ => .array .int
abbrev wsX80 : List Cond := u_ws RX8 TX8 15
theorem nmX8 : ∀ a, a < 15 → ∀ b, b < 15 → a ≠ b → (TX8 a).2.1 ≠ (TX8 b).2.1 := by decide +kernel
theorem tyX8_ok : ∀ k, k < 15 → parseFieldDescriptor (TX8 k).2.2.1 = some (tyX8 k) := by decide +kernel
abbrev cX8_init : ByteArray := prog_1_method_1_code
def yX8_init : MethodName := ⟨RX8, "<init>", "()V"⟩
abbrev cX8_firstState : ByteArray := prog_1_method_2_code
def yX8_firstState : MethodName := ⟨RX8, "firstState", "()LTrigramReaders$State;"⟩
abbrev cX8_appendInput : ByteArray := prog_1_method_3_code
def yX8_appendInput : MethodName := ⟨RX8, "appendInput", "(IIIII)I"⟩
abbrev cX8_truncateInput : ByteArray := prog_1_method_4_code
def yX8_truncateInput : MethodName := ⟨RX8, "truncateInput", "(I)I"⟩
abbrev cX8_load : ByteArray := prog_1_method_5_code
def yX8_load : MethodName := ⟨RX8, "load", "()I"⟩
abbrev cX8_errorCode : ByteArray := prog_1_method_6_code
def yX8_errorCode : MethodName := ⟨RX8, "errorCode", "()I"⟩
abbrev cX8_readerCount : ByteArray := prog_1_method_9_code
def yX8_readerCount : MethodName := ⟨RX8, "readerCount", "()I"⟩
abbrev cX8_escapeMethod : ByteArray := prog_1_method_11_code
def yX8_escapeMethod : MethodName := ⟨RX8, "escapeMethod", "(I)I"⟩
abbrev cX8_documentCount : ByteArray := prog_1_method_12_code
def yX8_documentCount : MethodName := ⟨RX8, "documentCount", "()I"⟩
abbrev cX8_documentLength : ByteArray := prog_1_method_13_code
def yX8_documentLength : MethodName := ⟨RX8, "documentLength", "(I)I"⟩
abbrev cX8_documentSymbol : ByteArray := prog_1_method_14_code
def yX8_documentSymbol : MethodName := ⟨RX8, "documentSymbol", "(II)I"⟩
abbrev cX8_countOrder0 : ByteArray := prog_1_method_16_code
def yX8_countOrder0 : MethodName := ⟨RX8, "countOrder0", "(II)I"⟩
abbrev cX8_countOrder1 : ByteArray := prog_1_method_17_code
def yX8_countOrder1 : MethodName := ⟨RX8, "countOrder1", "(III)I"⟩
abbrev cX8_countOrder2 : ByteArray := prog_1_method_18_code
def yX8_countOrder2 : MethodName := ⟨RX8, "countOrder2", "(IIII)I"⟩
abbrev cX8_contextTotal : ByteArray := prog_1_method_19_code
def yX8_contextTotal : MethodName := ⟨RX8, "contextTotal", "(III)I"⟩
abbrev cX8_contextSymbols : ByteArray := prog_1_method_20_code
def yX8_contextSymbols : MethodName := ⟨RX8, "contextSymbols", "(III)I"⟩
abbrev cX8_positiveCounts : ByteArray := prog_1_method_22_code
def yX8_positiveCounts : MethodName := ⟨RX8, "positiveCounts", "(I)I"⟩
abbrev cX8_timesTrained : ByteArray := prog_1_method_23_code
def yX8_timesTrained : MethodName := ⟨RX8, "timesTrained", "(II)I"⟩
abbrev cX8_trainedSymbols : ByteArray := prog_1_method_24_code
def yX8_trainedSymbols : MethodName := ⟨RX8, "trainedSymbols", "(I)I"⟩
abbrev cX8_trainingGap : ByteArray := prog_1_method_25_code
def yX8_trainingGap : MethodName := ⟨RX8, "trainingGap", "(I)I"⟩
abbrev cX8_symbolAtRank : ByteArray := prog_1_method_26_code
def yX8_symbolAtRank : MethodName := ⟨RX8, "symbolAtRank", "(IIII)I"⟩
abbrev cX8_rank : ByteArray := prog_1_method_27_code
def yX8_rank : MethodName := ⟨RX8, "rank", "(IIII)I"⟩
abbrev cX8_foundOrder : ByteArray := prog_1_method_28_code
def yX8_foundOrder : MethodName := ⟨RX8, "foundOrder", "(IIII)I"⟩
abbrev cX8_escapes : ByteArray := prog_1_method_29_code
def yX8_escapes : MethodName := ⟨RX8, "escapes", "(IIII)I"⟩
abbrev cX8_numerator : ByteArray := prog_1_method_30_code
def yX8_numerator : MethodName := ⟨RX8, "numerator", "(IIII)J"⟩
abbrev cX8_denominator : ByteArray := prog_1_method_31_code
def yX8_denominator : MethodName := ⟨RX8, "denominator", "(IIII)J"⟩
abbrev cX8_probability : ByteArray := prog_1_method_32_code
def yX8_probability : MethodName := ⟨RX8, "probability", "(IIII)D"⟩
abbrev cX8_codeLength : ByteArray := prog_1_method_33_code
def yX8_codeLength : MethodName := ⟨RX8, "codeLength", "(IIII)I"⟩
abbrev cX8_train : ByteArray := prog_1_method_51_code
def yX8_train : MethodName := ⟨RX8, "train", "(II)I"⟩
abbrev cX8_learn : ByteArray := prog_1_method_52_code
def yX8_learn : MethodName := ⟨RX8, "learn", "(II)I"⟩
abbrev cX8_forget : ByteArray := prog_1_method_53_code
def yX8_forget : MethodName := ⟨RX8, "forget", "(I)I"⟩
abbrev cX8_setEscapeMethod : ByteArray := prog_1_method_54_code
def yX8_setEscapeMethod : MethodName := ⟨RX8, "setEscapeMethod", "(II)I"⟩
abbrev cX8_endYear : ByteArray := prog_1_method_55_code
def yX8_endYear : MethodName := ⟨RX8, "endYear", "()I"⟩
abbrev cX8_merge : ByteArray := prog_1_method_56_code
def yX8_merge : MethodName := ⟨RX8, "merge", "(II)I"⟩
abbrev cX8_remember : ByteArray := prog_1_method_65_code
def yX8_remember : MethodName := ⟨RX8, "remember", "()V"⟩
abbrev cX8_existingReader : ByteArray := prog_1_method_66_code
def yX8_existingReader : MethodName := ⟨RX8, "existingReader", "(I)LTrigramReaders$Reader;"⟩
abbrev cX8_existingDocument : ByteArray := prog_1_method_67_code
def yX8_existingDocument : MethodName := ⟨RX8, "existingDocument", "(I)LTrigramReaders$Document;"⟩
abbrev cX8_requireMethod : ByteArray := prog_1_method_69_code
def yX8_requireMethod : MethodName := ⟨RX8, "requireMethod", "(I)V"⟩
abbrev cX8_requireSymbol : ByteArray := prog_1_method_70_code
def yX8_requireSymbol : MethodName := ⟨RX8, "requireSymbol", "(I)V"⟩
abbrev cX8_requireContext : ByteArray := prog_1_method_71_code
def yX8_requireContext : MethodName := ⟨RX8, "requireContext", "(II)V"⟩
abbrev cX8_isSymbol : ByteArray := prog_1_method_72_code
def yX8_isSymbol : MethodName := ⟨RX8, "isSymbol", "(I)Z"⟩
abbrev cX8_firstOrder : ByteArray := prog_1_method_73_code
def yX8_firstOrder : MethodName := ⟨RX8, "firstOrder", "(II)I"⟩
abbrev cX8_contextStart : ByteArray := prog_1_method_74_code
def yX8_contextStart : MethodName := ⟨RX8, "contextStart", "(III)I"⟩
abbrev cX8_chanceOf : ByteArray := prog_1_method_75_code
def yX8_chanceOf : MethodName := ⟨RX8, "chanceOf", "(IIII)LTrigramReaders$Chance;"⟩
abbrev cX8_guessIn : ByteArray := prog_1_method_76_code
def yX8_guessIn : MethodName := ⟨RX8, "guessIn", "(LTrigramReaders$Counts;III)I"⟩
abbrev cX8_rankIn : ByteArray := prog_1_method_77_code
def yX8_rankIn : MethodName := ⟨RX8, "rankIn", "(LTrigramReaders$Counts;III)I"⟩
abbrev cX8_orderOf : ByteArray := prog_1_method_78_code
def yX8_orderOf : MethodName := ⟨RX8, "orderOf", "(LTrigramReaders$Counts;III)I"⟩
abbrev cX8_rankOfPosition : ByteArray := prog_1_method_80_code
def yX8_rankOfPosition : MethodName := ⟨RX8, "rankOfPosition", "(LTrigramReaders$Counts;LTrigramReaders$Document;I)I"⟩
abbrev cX8_guessesFor : ByteArray := prog_1_method_81_code
def yX8_guessesFor : MethodName := ⟨RX8, "guessesFor", "(LTrigramReaders$Counts;LTrigramReaders$Document;)I"⟩
abbrev cX8_guessesWhileLearning : ByteArray := prog_1_method_82_code
def yX8_guessesWhileLearning : MethodName := ⟨RX8, "guessesWhileLearning", "(LTrigramReaders$Counts;LTrigramReaders$Document;)I"⟩
abbrev cX8_isDigit : ByteArray := prog_1_method_86_code
def yX8_isDigit : MethodName := ⟨RX8, "isDigit", "(I)Z"⟩
abbrev cX8_isLetter : ByteArray := prog_1_method_87_code
def yX8_isLetter : MethodName := ⟨RX8, "isLetter", "(I)Z"⟩
abbrev cX8_withDigit : ByteArray := prog_1_method_88_code
def yX8_withDigit : MethodName := ⟨RX8, "withDigit", "(II)I"⟩
def RX9 : String := "TrigramReadersModel"
def TX9 : u_T := fun k => match k with
  | _ => ("", "", "", false)
def tyX9 : Nat → FieldType := fun k => match k with
  | _ => .int
abbrev wsX90 : List Cond := u_ws RX9 TX9 0
theorem nmX9 : ∀ a, a < 0 → ∀ b, b < 0 → a ≠ b → (TX9 a).2.1 ≠ (TX9 b).2.1 := by decide +kernel
theorem tyX9_ok : ∀ k, k < 0 → parseFieldDescriptor (TX9 k).2.2.1 = some (tyX9 k) := by decide +kernel
def RJx145de : String := "java/io/Serializable"
def TJx145de : u_T := fun k => match k with
  | _ => ("", "", "", false)
def tyJx145de : Nat → FieldType := fun k => match k with
  | _ => .int
abbrev wsJx145de0 : List Cond := u_ws RJx145de TJx145de 0
theorem nmJx145de : ∀ a, a < 0 → ∀ b, b < 0 → a ≠ b → (TJx145de a).2.1 ≠ (TJx145de b).2.1 := by decide +kernel
theorem tyJx145de_ok : ∀ k, k < 0 → parseFieldDescriptor (TJx145de k).2.2.1 = some (tyJx145de k) := by decide +kernel
def RJ5 : String := "java/lang/AbstractStringBuilder"
def TJ5 : u_T := fun k => match k with
  | _ => ("", "", "", false)
def tyJ5 : Nat → FieldType := fun k => match k with
  | _ => .int
abbrev wsJ50 : List Cond := u_ws RJ5 TJ5 0
theorem nmJ5 : ∀ a, a < 0 → ∀ b, b < 0 → a ≠ b → (TJ5 a).2.1 ≠ (TJ5 b).2.1 := by decide +kernel
theorem tyJ5_ok : ∀ k, k < 0 → parseFieldDescriptor (TJ5 k).2.2.1 = some (tyJ5 k) := by decide +kernel
abbrev cJ5_init_d00df : ByteArray := prog_13_method_2_code
def yJ5_init_d00df : MethodName := ⟨RJ5, "<init>", "(I)V"⟩
abbrev cJ5_length_8abf5 : ByteArray := prog_13_method_6_code
def yJ5_length_8abf5 : MethodName := ⟨RJ5, "length", "()I"⟩
abbrev cJ5_ensureCapacityInternal_d00df : ByteArray := prog_13_method_9_code
def yJ5_ensureCapacityInternal_d00df : MethodName := ⟨RJ5, "ensureCapacityInternal", "(I)V"⟩
abbrev cJ5_newCapacity_0f7a4 : ByteArray := prog_13_method_10_code
def yJ5_newCapacity_0f7a4 : MethodName := ⟨RJ5, "newCapacity", "(I)I"⟩
abbrev cJ5_inflate_da8c8 : ByteArray := prog_13_method_11_code
def yJ5_inflate_da8c8 : MethodName := ⟨RJ5, "inflate", "()V"⟩
abbrev cJ5_append_cf1ce : ByteArray := prog_13_method_22_code
def yJ5_append_cf1ce : MethodName := ⟨RJ5, "append", "(Ljava/lang/String;)Ljava/lang/AbstractStringBuilder;"⟩
abbrev cJ5_appendNull_278bc : ByteArray := prog_13_method_26_code
def yJ5_appendNull_278bc : MethodName := ⟨RJ5, "appendNull", "()Ljava/lang/AbstractStringBuilder;"⟩
abbrev cJ5_append_3fe6f : ByteArray := prog_13_method_31_code
def yJ5_append_3fe6f : MethodName := ⟨RJ5, "append", "(C)Ljava/lang/AbstractStringBuilder;"⟩
abbrev cJ5_append_c97b9 : ByteArray := prog_13_method_32_code
def yJ5_append_c97b9 : MethodName := ⟨RJ5, "append", "(I)Ljava/lang/AbstractStringBuilder;"⟩
abbrev cJ5_getValue_6d5f1 : ByteArray := prog_13_method_64_code
def yJ5_getValue_6d5f1 : MethodName := ⟨RJ5, "getValue", "()[B"⟩
abbrev cJ5_isLatin1_aae02 : ByteArray := prog_13_method_68_code
def yJ5_isLatin1_aae02 : MethodName := ⟨RJ5, "isLatin1", "()Z"⟩
abbrev cJ5_inflateIfNeededFor_a7421 : ByteArray := prog_13_method_71_code
def yJ5_inflateIfNeededFor_a7421 : MethodName := ⟨RJ5, "inflateIfNeededFor", "(Ljava/lang/String;)V"⟩
abbrev cJ5_putStringAt_47b60 : ByteArray := prog_13_method_73_code
def yJ5_putStringAt_47b60 : MethodName := ⟨RJ5, "putStringAt", "(ILjava/lang/String;)V"⟩
def RJx2cfe8 : String := "java/lang/Appendable"
def TJx2cfe8 : u_T := fun k => match k with
  | _ => ("", "", "", false)
def tyJx2cfe8 : Nat → FieldType := fun k => match k with
  | _ => .int
abbrev wsJx2cfe80 : List Cond := u_ws RJx2cfe8 TJx2cfe8 0
theorem nmJx2cfe8 : ∀ a, a < 0 → ∀ b, b < 0 → a ≠ b → (TJx2cfe8 a).2.1 ≠ (TJx2cfe8 b).2.1 := by decide +kernel
theorem tyJx2cfe8_ok : ∀ k, k < 0 → parseFieldDescriptor (TJx2cfe8 k).2.2.1 = some (tyJx2cfe8 k) := by decide +kernel
def RJx9f9b0 : String := "java/lang/CharSequence"
def TJx9f9b0 : u_T := fun k => match k with
  | _ => ("", "", "", false)
def tyJx9f9b0 : Nat → FieldType := fun k => match k with
  | _ => .int
abbrev wsJx9f9b00 : List Cond := u_ws RJx9f9b0 TJx9f9b0 0
theorem nmJx9f9b0 : ∀ a, a < 0 → ∀ b, b < 0 → a ≠ b → (TJx9f9b0 a).2.1 ≠ (TJx9f9b0 b).2.1 := by decide +kernel
theorem tyJx9f9b0_ok : ∀ k, k < 0 → parseFieldDescriptor (TJx9f9b0 k).2.2.1 = some (tyJx9f9b0 k) := by decide +kernel
def RJx8e188 : String := "java/lang/Cloneable"
def TJx8e188 : u_T := fun k => match k with
  | _ => ("", "", "", false)
def tyJx8e188 : Nat → FieldType := fun k => match k with
  | _ => .int
abbrev wsJx8e1880 : List Cond := u_ws RJx8e188 TJx8e188 0
theorem nmJx8e188 : ∀ a, a < 0 → ∀ b, b < 0 → a ≠ b → (TJx8e188 a).2.1 ≠ (TJx8e188 b).2.1 := by decide +kernel
theorem tyJx8e188_ok : ∀ k, k < 0 → parseFieldDescriptor (TJx8e188 k).2.2.1 = some (tyJx8e188 k) := by decide +kernel
def RJxb160c : String := "java/lang/Comparable"
def TJxb160c : u_T := fun k => match k with
  | _ => ("", "", "", false)
def tyJxb160c : Nat → FieldType := fun k => match k with
  | _ => .int
abbrev wsJxb160c0 : List Cond := u_ws RJxb160c TJxb160c 0
theorem nmJxb160c : ∀ a, a < 0 → ∀ b, b < 0 → a ≠ b → (TJxb160c a).2.1 ≠ (TJxb160c b).2.1 := by decide +kernel
theorem tyJxb160c_ok : ∀ k, k < 0 → parseFieldDescriptor (TJxb160c k).2.2.1 = some (tyJxb160c k) := by decide +kernel
def RJ6 : String := "java/lang/Integer"
def TJ6 : u_T := fun k => match k with
  | _ => ("", "", "", false)
def tyJ6 : Nat → FieldType := fun k => match k with
  | _ => .int
abbrev wsJ60 : List Cond := u_ws RJ6 TJ6 0
theorem nmJ6 : ∀ a, a < 0 → ∀ b, b < 0 → a ≠ b → (TJ6 a).2.1 ≠ (TJ6 b).2.1 := by decide +kernel
theorem tyJ6_ok : ∀ k, k < 0 → parseFieldDescriptor (TJ6 k).2.2.1 = some (tyJ6 k) := by decide +kernel
abbrev cJ6_getChars_ba4f3 : ByteArray := prog_22_method_12_code
def yJ6_getChars_ba4f3 : MethodName := ⟨RJ6, "getChars", "(II[B)I"⟩
abbrev cJ6_stringSize_0f7a4 : ByteArray := prog_22_method_13_code
def yJ6_stringSize_0f7a4 : MethodName := ⟨RJ6, "stringSize", "(I)I"⟩
abbrev cJ6_bitCount_0f7a4 : ByteArray := prog_22_method_49_code
def yJ6_bitCount_0f7a4 : MethodName := ⟨RJ6, "bitCount", "(I)I"⟩
def RJ9 : String := "java/lang/Math"
def TJ9 : u_T := fun k => match k with
  | _ => ("", "", "", false)
def tyJ9 : Nat → FieldType := fun k => match k with
  | _ => .int
abbrev wsJ90 : List Cond := u_ws RJ9 TJ9 0
theorem nmJ9 : ∀ a, a < 0 → ∀ b, b < 0 → a ≠ b → (TJ9 a).2.1 ≠ (TJ9 b).2.1 := by decide +kernel
theorem tyJ9_ok : ∀ k, k < 0 → parseFieldDescriptor (TJ9 k).2.2.1 = some (tyJ9 k) := by decide +kernel
abbrev cJ9_max_7cf53 : ByteArray := prog_23_method_65_code
def yJ9_max_7cf53 : MethodName := ⟨RJ9, "max", "(II)I"⟩
abbrev cJ9_min_7cf53 : ByteArray := prog_23_method_69_code
def yJ9_min_7cf53 : MethodName := ⟨RJ9, "min", "(II)I"⟩
def RJxd2413 : String := "java/lang/Number"
def TJxd2413 : u_T := fun k => match k with
  | _ => ("", "", "", false)
def tyJxd2413 : Nat → FieldType := fun k => match k with
  | _ => .int
abbrev wsJxd24130 : List Cond := u_ws RJxd2413 TJxd2413 0
theorem nmJxd2413 : ∀ a, a < 0 → ∀ b, b < 0 → a ≠ b → (TJxd2413 a).2.1 ≠ (TJxd2413 b).2.1 := by decide +kernel
theorem tyJxd2413_ok : ∀ k, k < 0 → parseFieldDescriptor (TJxd2413 k).2.2.1 = some (tyJxd2413 k) := by decide +kernel
def RJ0 : String := "java/lang/String"
def TJ0 : u_T := fun k => match k with
  | 0 => ("java/lang/String", "value", "[B", true)
  | 1 => ("java/lang/String", "coder", "B", true)
  | 2 => ("java/lang/String", "hash", "I", false)
  | _ => ("java/lang/String", "hashIsZero", "Z", false)
def tyJ0 : Nat → FieldType := fun k => match k with
  | 0 => .array .byte
  | 1 => .byte
  | 2 => .int
  | _ => .boolean
abbrev wsJ00 : List Cond := u_ws RJ0 TJ0 4
theorem nmJ0 : ∀ a, a < 4 → ∀ b, b < 4 → a ≠ b → (TJ0 a).2.1 ≠ (TJ0 b).2.1 := by decide +kernel
theorem tyJ0_ok : ∀ k, k < 4 → parseFieldDescriptor (TJ0 k).2.2.1 = some (tyJ0 k) := by decide +kernel
abbrev cJ0_init_81219 : ByteArray := prog_26_method_53_code
def yJ0_init_81219 : MethodName := ⟨RJ0, "<init>", "(Ljava/lang/StringBuilder;)V"⟩
abbrev cJ0_length_8abf5 : ByteArray := prog_26_method_54_code
def yJ0_length_8abf5 : MethodName := ⟨RJ0, "length", "()I"⟩
abbrev cJ0_charAt_5068e : ByteArray := prog_26_method_56_code
def yJ0_charAt_5068e : MethodName := ⟨RJ0, "charAt", "(I)C"⟩
abbrev cJ0_getBytes_840e7 : ByteArray := prog_26_method_147_code
def yJ0_getBytes_840e7 : MethodName := ⟨RJ0, "getBytes", "([BIB)V"⟩
abbrev cJ0_init_db425 : ByteArray := prog_26_method_150_code
def yJ0_init_db425 : MethodName := ⟨RJ0, "<init>", "(Ljava/lang/AbstractStringBuilder;Ljava/lang/Void;)V"⟩
abbrev cJ0_coder_7d493 : ByteArray := prog_26_method_152_code
def yJ0_coder_7d493 : MethodName := ⟨RJ0, "coder", "()B"⟩
abbrev cJ0_isLatin1_aae02 : ByteArray := prog_26_method_154_code
def yJ0_isLatin1_aae02 : MethodName := ⟨RJ0, "isLatin1", "()Z"⟩
abbrev cJ0_checkIndex_df160 : ByteArray := prog_26_method_155_code
def yJ0_checkIndex_df160 : MethodName := ⟨RJ0, "checkIndex", "(II)V"⟩
abbrev cJ0_checkBoundsOffCount_cabcc : ByteArray := prog_26_method_157_code
def yJ0_checkBoundsOffCount_cabcc : MethodName := ⟨RJ0, "checkBoundsOffCount", "(III)I"⟩
abbrev cJ0_checkBoundsBeginEnd_23922 : ByteArray := prog_26_method_158_code
def yJ0_checkBoundsBeginEnd_23922 : MethodName := ⟨RJ0, "checkBoundsBeginEnd", "(III)V"⟩
def RJ4 : String := "java/lang/StringBuilder"
def TJ4 : u_T := fun k => match k with
  | 0 => ("java/lang/AbstractStringBuilder", "value", "[B", false)
  | 1 => ("java/lang/AbstractStringBuilder", "coder", "B", false)
  | 2 => ("java/lang/AbstractStringBuilder", "maybeLatin1", "Z", false)
  | _ => ("java/lang/AbstractStringBuilder", "count", "I", false)
def tyJ4 : Nat → FieldType := fun k => match k with
  | 0 => .array .byte
  | 1 => .byte
  | 2 => .boolean
  | _ => .int
abbrev wsJ40 : List Cond := u_ws RJ4 TJ4 4
theorem nmJ4 : ∀ a, a < 4 → ∀ b, b < 4 → a ≠ b → (TJ4 a).2.1 ≠ (TJ4 b).2.1 := by decide +kernel
theorem tyJ4_ok : ∀ k, k < 4 → parseFieldDescriptor (TJ4 k).2.2.1 = some (tyJ4 k) := by decide +kernel
abbrev cJ4_init_da8c8 : ByteArray := prog_27_method_1_code
def yJ4_init_da8c8 : MethodName := ⟨RJ4, "<init>", "()V"⟩
abbrev cJ4_append_15ec4 : ByteArray := prog_27_method_7_code
def yJ4_append_15ec4 : MethodName := ⟨RJ4, "append", "(Ljava/lang/String;)Ljava/lang/StringBuilder;"⟩
abbrev cJ4_append_cf468 : ByteArray := prog_27_method_14_code
def yJ4_append_cf468 : MethodName := ⟨RJ4, "append", "(C)Ljava/lang/StringBuilder;"⟩
abbrev cJ4_append_bf812 : ByteArray := prog_27_method_15_code
def yJ4_append_bf812 : MethodName := ⟨RJ4, "append", "(I)Ljava/lang/StringBuilder;"⟩
abbrev cJ4_toString_0e30d : ByteArray := prog_27_method_42_code
def yJ4_toString_0e30d : MethodName := ⟨RJ4, "toString", "()Ljava/lang/String;"⟩
abbrev cJ4_length_8abf5 : ByteArray := prog_27_method_93_code
def yJ4_length_8abf5 : MethodName := ⟨RJ4, "length", "()I"⟩
def RJ1 : String := "java/lang/StringLatin1"
def TJ1 : u_T := fun k => match k with
  | _ => ("", "", "", false)
def tyJ1 : Nat → FieldType := fun k => match k with
  | _ => .int
abbrev wsJ10 : List Cond := u_ws RJ1 TJ1 0
theorem nmJ1 : ∀ a, a < 0 → ∀ b, b < 0 → a ≠ b → (TJ1 a).2.1 ≠ (TJ1 b).2.1 := by decide +kernel
theorem tyJ1_ok : ∀ k, k < 0 → parseFieldDescriptor (TJ1 k).2.2.1 = some (tyJ1 k) := by decide +kernel
abbrev cJ1_charAt_3b067 : ByteArray := prog_28_method_2_code
def yJ1_charAt_3b067 : MethodName := ⟨RJ1, "charAt", "([BI)C"⟩
abbrev cJ1_canEncode_fc78d : ByteArray := prog_28_method_3_code
def yJ1_canEncode_fc78d : MethodName := ⟨RJ1, "canEncode", "(C)Z"⟩
abbrev cJ1_inflate_0e8fd : ByteArray := prog_28_method_50_code
def yJ1_inflate_0e8fd : MethodName := ⟨RJ1, "inflate", "([BI[BII)V"⟩
def RJ2 : String := "java/lang/StringUTF16"
def TJ2 : u_T := fun k => match k with
  | _ => ("", "", "", false)
def tyJ2 : Nat → FieldType := fun k => match k with
  | _ => .int
abbrev wsJ20 : List Cond := u_ws RJ2 TJ2 0
theorem nmJ2 : ∀ a, a < 0 → ∀ b, b < 0 → a ≠ b → (TJ2 a).2.1 ≠ (TJ2 b).2.1 := by decide +kernel
theorem tyJ2_ok : ∀ k, k < 0 → parseFieldDescriptor (TJ2 k).2.2.1 = some (tyJ2 k) := by decide +kernel
abbrev cJ2_newBytesFor_77867 : ByteArray := prog_29_method_2_code
def yJ2_newBytesFor_77867 : MethodName := ⟨RJ2, "newBytesFor", "(I)[B"⟩
abbrev cJ2_newBytesLength_0f7a4 : ByteArray := prog_29_method_3_code
def yJ2_newBytesLength_0f7a4 : MethodName := ⟨RJ2, "newBytesLength", "(I)I"⟩
abbrev cJ2_putChar_b72d1 : ByteArray := prog_29_method_4_code
def yJ2_putChar_b72d1 : MethodName := ⟨RJ2, "putChar", "([BII)V"⟩
abbrev cJ2_getChar_3b067 : ByteArray := prog_29_method_5_code
def yJ2_getChar_3b067 : MethodName := ⟨RJ2, "getChar", "([BI)C"⟩
abbrev cJ2_length_9d52b : ByteArray := prog_29_method_6_code
def yJ2_length_9d52b : MethodName := ⟨RJ2, "length", "([B)I"⟩
abbrev cJ2_coderFromArrayLen_85cad : ByteArray := prog_29_method_15_code
def yJ2_coderFromArrayLen_85cad : MethodName := ⟨RJ2, "coderFromArrayLen", "([BI)B"⟩
abbrev cJ2_compress_39247 : ByteArray := prog_29_method_17_code
def yJ2_compress_39247 : MethodName := ⟨RJ2, "compress", "([BII)[B"⟩
abbrev cJ2_compress_5af95 : ByteArray := prog_29_method_22_code
def yJ2_compress_5af95 : MethodName := ⟨RJ2, "compress", "([BI[BII)I"⟩
abbrev cJ2_putCharSB_b72d1 : ByteArray := prog_29_method_71_code
def yJ2_putCharSB_b72d1 : MethodName := ⟨RJ2, "putCharSB", "([BII)V"⟩
abbrev cJ2_getChars_46870 : ByteArray := prog_29_method_77_code
def yJ2_getChars_46870 : MethodName := ⟨RJ2, "getChars", "(III[B)I"⟩
abbrev cJ2_putCharsAt_cd4e5 : ByteArray := prog_29_method_81_code
def yJ2_putCharsAt_cd4e5 : MethodName := ⟨RJ2, "putCharsAt", "([BICCCC)I"⟩
abbrev cJ2_charAt_3b067 : ByteArray := prog_29_method_83_code
def yJ2_charAt_3b067 : MethodName := ⟨RJ2, "charAt", "([BI)C"⟩
abbrev cJ2_inflate_0e8fd : ByteArray := prog_29_method_86_code
def yJ2_inflate_0e8fd : MethodName := ⟨RJ2, "inflate", "([BI[BII)V"⟩
abbrev cJ2_getChars_ba4f3 : ByteArray := prog_29_method_89_code
def yJ2_getChars_ba4f3 : MethodName := ⟨RJ2, "getChars", "(II[B)I"⟩
abbrev cJ2_checkIndex_2214a : ByteArray := prog_29_method_91_code
def yJ2_checkIndex_2214a : MethodName := ⟨RJ2, "checkIndex", "(I[B)V"⟩
abbrev cJ2_checkBoundsBeginEnd_d044e : ByteArray := prog_29_method_93_code
def yJ2_checkBoundsBeginEnd_d044e : MethodName := ⟨RJ2, "checkBoundsBeginEnd", "(II[B)V"⟩
abbrev cJ2_checkBoundsOffCount_d044e : ByteArray := prog_29_method_94_code
def yJ2_checkBoundsOffCount_d044e : MethodName := ⟨RJ2, "checkBoundsOffCount", "(II[B)V"⟩
def RJ10 : String := "java/lang/System"
def TJ10 : u_T := fun k => match k with
  | _ => ("", "", "", false)
def tyJ10 : Nat → FieldType := fun k => match k with
  | _ => .int
abbrev wsJ100 : List Cond := u_ws RJ10 TJ10 0
theorem nmJ10 : ∀ a, a < 0 → ∀ b, b < 0 → a ≠ b → (TJ10 a).2.1 ≠ (TJ10 b).2.1 := by decide +kernel
theorem tyJ10_ok : ∀ k, k < 0 → parseFieldDescriptor (TJ10 k).2.2.1 = some (tyJ10 k) := by decide +kernel
def RJxfd54e : String := "java/lang/constant/Constable"
def TJxfd54e : u_T := fun k => match k with
  | _ => ("", "", "", false)
def tyJxfd54e : Nat → FieldType := fun k => match k with
  | _ => .int
abbrev wsJxfd54e0 : List Cond := u_ws RJxfd54e TJxfd54e 0
theorem nmJxfd54e : ∀ a, a < 0 → ∀ b, b < 0 → a ≠ b → (TJxfd54e a).2.1 ≠ (TJxfd54e b).2.1 := by decide +kernel
theorem tyJxfd54e_ok : ∀ k, k < 0 → parseFieldDescriptor (TJxfd54e k).2.2.1 = some (tyJxfd54e k) := by decide +kernel
def RJx3cf43 : String := "java/lang/constant/ConstantDesc"
def TJx3cf43 : u_T := fun k => match k with
  | _ => ("", "", "", false)
def tyJx3cf43 : Nat → FieldType := fun k => match k with
  | _ => .int
abbrev wsJx3cf430 : List Cond := u_ws RJx3cf43 TJx3cf43 0
theorem nmJx3cf43 : ∀ a, a < 0 → ∀ b, b < 0 → a ≠ b → (TJx3cf43 a).2.1 ≠ (TJx3cf43 b).2.1 := by decide +kernel
theorem tyJx3cf43_ok : ∀ k, k < 0 → parseFieldDescriptor (TJx3cf43 k).2.2.1 = some (tyJx3cf43 k) := by decide +kernel
def RJ7 : String := "java/util/Arrays"
def TJ7 : u_T := fun k => match k with
  | _ => ("", "", "", false)
def tyJ7 : Nat → FieldType := fun k => match k with
  | _ => .int
abbrev wsJ70 : List Cond := u_ws RJ7 TJ7 0
theorem nmJ7 : ∀ a, a < 0 → ∀ b, b < 0 → a ≠ b → (TJ7 a).2.1 ≠ (TJ7 b).2.1 := by decide +kernel
theorem tyJ7_ok : ∀ k, k < 0 → parseFieldDescriptor (TJ7 k).2.2.1 = some (tyJ7 k) := by decide +kernel
abbrev cJ7_copyOf_9075b : ByteArray := prog_34_method_121_code
def yJ7_copyOf_9075b : MethodName := ⟨RJ7, "copyOf", "([BI)[B"⟩
abbrev cJ7_checkLength_df160 : ByteArray := prog_34_method_131_code
def yJ7_checkLength_df160 : MethodName := ⟨RJ7, "checkLength", "(II)V"⟩
abbrev cJ7_copyOfRange_39247 : ByteArray := prog_34_method_132_code
def yJ7_copyOfRange_39247 : MethodName := ⟨RJ7, "copyOfRange", "([BII)[B"⟩
abbrev cJ7_copyOfRangeByte_39247 : ByteArray := prog_34_method_133_code
def yJ7_copyOfRangeByte_39247 : MethodName := ⟨RJ7, "copyOfRangeByte", "([BII)[B"⟩
def RJ8 : String := "jdk/internal/util/ArraysSupport"
def TJ8 : u_T := fun k => match k with
  | _ => ("", "", "", false)
def tyJ8 : Nat → FieldType := fun k => match k with
  | _ => .int
abbrev wsJ80 : List Cond := u_ws RJ8 TJ8 0
theorem nmJ8 : ∀ a, a < 0 → ∀ b, b < 0 → a ≠ b → (TJ8 a).2.1 ≠ (TJ8 b).2.1 := by decide +kernel
theorem tyJ8_ok : ∀ k, k < 0 → parseFieldDescriptor (TJ8 k).2.2.1 = some (tyJ8 k) := by decide +kernel
abbrev cJ8_newLength_cabcc : ByteArray := prog_36_method_27_code
def yJ8_newLength_cabcc : MethodName := ⟨RJ8, "newLength", "(III)I"⟩
abbrev cJ8_hugeLength_7cf53 : ByteArray := prog_36_method_28_code
def yJ8_hugeLength_7cf53 : MethodName := ⟨RJ8, "hugeLength", "(II)I"⟩
def RJ3 : String := "jdk/internal/util/Preconditions"
def TJ3 : u_T := fun k => match k with
  | _ => ("", "", "", false)
def tyJ3 : Nat → FieldType := fun k => match k with
  | _ => .int
abbrev wsJ30 : List Cond := u_ws RJ3 TJ3 0
theorem nmJ3 : ∀ a, a < 0 → ∀ b, b < 0 → a ≠ b → (TJ3 a).2.1 ≠ (TJ3 b).2.1 := by decide +kernel
theorem tyJ3_ok : ∀ k, k < 0 → parseFieldDescriptor (TJ3 k).2.2.1 = some (tyJ3 k) := by decide +kernel
abbrev cJ3_checkIndex_8e157 : ByteArray := prog_37_method_11_code
def yJ3_checkIndex_8e157 : MethodName := ⟨RJ3, "checkIndex", "(IILjava/util/function/BiFunction;)I"⟩
abbrev cJ3_checkFromToIndex_8c36e : ByteArray := prog_37_method_12_code
def yJ3_checkFromToIndex_8c36e : MethodName := ⟨RJ3, "checkFromToIndex", "(IIILjava/util/function/BiFunction;)I"⟩
abbrev cJ3_checkFromIndexSize_8c36e : ByteArray := prog_37_method_13_code
def yJ3_checkFromIndexSize_8c36e : MethodName := ⟨RJ3, "checkFromIndexSize", "(IIILjava/util/function/BiFunction;)I"⟩
def RL : String := "TrigramReadersLaw"
abbrev cL_cell : ByteArray := method_2_code
def yL_cell : MethodName := ⟨RL, "cell", "([II)I"⟩
abbrev cL_says : ByteArray := method_3_code
def yL_says : MethodName := ⟨RL, "says", "(LTrigramReaders;Ljava/lang/String;)V"⟩
abbrev cL_loaded : ByteArray := method_4_code
def yL_loaded : MethodName := ⟨RL, "loaded", "(LTrigramReaders;)I"⟩
abbrev cL_document : ByteArray := method_5_code
def yL_document : MethodName := ⟨RL, "document", "(II)[I"⟩
abbrev cL_word : ByteArray := method_6_code
def yL_word : MethodName := ⟨RL, "word", "([I)Ljava/lang/String;"⟩
abbrev cL_text : ByteArray := method_7_code
def yL_text : MethodName := ⟨RL, "text", "([I)Ljava/lang/String;"⟩
abbrev cL_acts : ByteArray := method_8_code
def yL_acts : MethodName := ⟨RL, "acts", "(LTrigramReaders;I)I"⟩
abbrev cL_law : ByteArray := code
def yL_law : MethodName := ⟨RL, "law", "([I)Z"⟩
abbrev cL_counts : ByteArray := method_10_code
def yL_counts : MethodName := ⟨RL, "counts", "(LTrigramReaders;II)[I"⟩
abbrev cL_times : ByteArray := method_11_code
def yL_times : MethodName := ⟨RL, "times", "(LTrigramReaders;III)I"⟩
abbrev cL_isTold : ByteArray := method_12_code
def yL_isTold : MethodName := ⟨RL, "isTold", "(LTrigramReaders;I)Z"⟩
abbrev cL_count : ByteArray := method_13_code
def yL_count : MethodName := ⟨RL, "count", "(LTrigramReaders;IIIII)I"⟩
abbrev cL_divisor : ByteArray := method_14_code
def yL_divisor : MethodName := ⟨RL, "divisor", "(JJ)J"⟩
abbrev cL_isRanked : ByteArray := method_15_code
def yL_isRanked : MethodName := ⟨RL, "isRanked", "(LTrigramReaders;I)Z"⟩
abbrev cL_isFraction : ByteArray := method_16_code
def yL_isFraction : MethodName := ⟨RL, "isFraction", "(LTrigramReaders;IIII)Z"⟩
abbrev vwCl : List vw_C := [(RX0, TX0, 2), (RX1, TX1, 4), (RX2, TX2, 3), (RX3, TX3, 3), (RX4, TX4, 7), (RX5, TX5, 4), (RX6, TX6, 6), (RX7, TX7, 5), (RX8, TX8, 15), (RJ4, TJ4, 4), (RJ0, TJ0, 4)]
/-! ===== END names ===== -/
def LW : List Cond := lw_tbl.filter goodWord
theorem LW_mem {w : Cond} (h : w ∈ lw_tbl) (g : goodWord w = true) : w ∈ LW := List.mem_filter.mpr ⟨h, g⟩
theorem LW_tbl {w : Cond} (h : w ∈ LW) : w ∈ lw_tbl := (List.mem_filter.mp h).1
theorem mt_t {w : Cond} (h : w ∈ tables_1) : w ∈ lw_tbl := List.mem_append_right _ h
theorem mt_1 {w : Cond} (h : w ∈ tables_1_1) : w ∈ lw_tbl := mt_t (show w ∈ tables_1_1 ++ (tables_1_2 ++ (tables_1_3 ++ (tables_1_4 ++ (tables_1_5 ++ (tables_1_6))))) from List.mem_append_left _ h)
theorem mt_2 {w : Cond} (h : w ∈ tables_1_2) : w ∈ lw_tbl := mt_t (show w ∈ tables_1_1 ++ (tables_1_2 ++ (tables_1_3 ++ (tables_1_4 ++ (tables_1_5 ++ (tables_1_6))))) from List.mem_append_right _ (List.mem_append_left _ h))
theorem mt_3 {w : Cond} (h : w ∈ tables_1_3) : w ∈ lw_tbl := mt_t (show w ∈ tables_1_1 ++ (tables_1_2 ++ (tables_1_3 ++ (tables_1_4 ++ (tables_1_5 ++ (tables_1_6))))) from List.mem_append_right _ (List.mem_append_right _ (List.mem_append_left _ h)))
theorem mt_4 {w : Cond} (h : w ∈ tables_1_4) : w ∈ lw_tbl := mt_t (show w ∈ tables_1_1 ++ (tables_1_2 ++ (tables_1_3 ++ (tables_1_4 ++ (tables_1_5 ++ (tables_1_6))))) from List.mem_append_right _ (List.mem_append_right _ (List.mem_append_right _ (List.mem_append_left _ h))))
theorem mt_5 {w : Cond} (h : w ∈ tables_1_5) : w ∈ lw_tbl := mt_t (show w ∈ tables_1_1 ++ (tables_1_2 ++ (tables_1_3 ++ (tables_1_4 ++ (tables_1_5 ++ (tables_1_6))))) from List.mem_append_right _ (List.mem_append_right _ (List.mem_append_right _ (List.mem_append_right _ (List.mem_append_left _ h)))))
theorem mt_6 {w : Cond} (h : w ∈ tables_1_6) : w ∈ lw_tbl := mt_t (show w ∈ tables_1_1 ++ (tables_1_2 ++ (tables_1_3 ++ (tables_1_4 ++ (tables_1_5 ++ (tables_1_6))))) from List.mem_append_right _ (List.mem_append_right _ (List.mem_append_right _ (List.mem_append_right _ (List.mem_append_right _ (h))))))
theorem t1_0 : (Jvm.Cond.initialized "TrigramReadersLaw") ∈ LW := LW_mem (mt_1 (List.mem_of_getElem? (i := 0) rfl)) rfl
theorem t1_1 : (Jvm.Cond.initialized "TrigramReaders") ∈ LW := LW_mem (mt_1 (List.mem_of_getElem? (i := 1) rfl)) rfl
theorem t1_2 : (Jvm.Cond.initialized "TrigramReaders$Bytes") ∈ LW := LW_mem (mt_1 (List.mem_of_getElem? (i := 2) rfl)) rfl
theorem t1_3 : (Jvm.Cond.initialized "java/lang/String") ∈ LW := LW_mem (mt_1 (List.mem_of_getElem? (i := 3) rfl)) rfl
theorem t1_4 : (Jvm.Cond.initialized "java/lang/StringLatin1") ∈ LW := LW_mem (mt_1 (List.mem_of_getElem? (i := 4) rfl)) rfl
theorem t1_5 : (Jvm.Cond.initialized "jdk/internal/util/Preconditions") ∈ LW := LW_mem (mt_1 (List.mem_of_getElem? (i := 5) rfl)) rfl
theorem t1_6 : (Jvm.Cond.initialized "java/lang/StringUTF16") ∈ LW := LW_mem (mt_1 (List.mem_of_getElem? (i := 6) rfl)) rfl
theorem t1_7 : (Jvm.Cond.initialized "TrigramReaders$State") ∈ LW := LW_mem (mt_1 (List.mem_of_getElem? (i := 7) rfl)) rfl
theorem t1_8 : (Jvm.Cond.initialized "TrigramReaders$Reader") ∈ LW := LW_mem (mt_1 (List.mem_of_getElem? (i := 8) rfl)) rfl
theorem t1_9 : (Jvm.Cond.initialized "TrigramReaders$Counts") ∈ LW := LW_mem (mt_1 (List.mem_of_getElem? (i := 9) rfl)) rfl
theorem t1_10 : (Jvm.Cond.initialized "TrigramReaders$Document") ∈ LW := LW_mem (mt_1 (List.mem_of_getElem? (i := 10) rfl)) rfl
theorem t1_11 : (Jvm.Cond.initialized "TrigramReaders$Parser") ∈ LW := LW_mem (mt_1 (List.mem_of_getElem? (i := 11) rfl)) rfl
theorem t1_12 : (Jvm.Cond.initialized "java/lang/Math") ∈ LW := LW_mem (mt_1 (List.mem_of_getElem? (i := 12) rfl)) rfl
theorem t1_13 : (Jvm.Cond.initialized "java/lang/System") ∈ LW := LW_mem (mt_1 (List.mem_of_getElem? (i := 13) rfl)) rfl
theorem t1_14 : (Jvm.Cond.initialized "TrigramReaders$Ranking") ∈ LW := LW_mem (mt_1 (List.mem_of_getElem? (i := 14) rfl)) rfl
theorem t1_15 : (Jvm.Cond.initialized "TrigramReaders$Chance") ∈ LW := LW_mem (mt_1 (List.mem_of_getElem? (i := 15) rfl)) rfl
theorem t1_16 : (Jvm.Cond.initialized "java/lang/AbstractStringBuilder") ∈ LW := LW_mem (mt_1 (List.mem_of_getElem? (i := 16) rfl)) rfl
theorem t1_17 : (Jvm.Cond.initialized "java/lang/StringBuilder") ∈ LW := LW_mem (mt_1 (List.mem_of_getElem? (i := 17) rfl)) rfl
theorem t1_18 : (Jvm.Cond.initialized "jdk/internal/util/ArraysSupport") ∈ LW := LW_mem (mt_1 (List.mem_of_getElem? (i := 18) rfl)) rfl
theorem t1_19 : (Jvm.Cond.initialized "java/util/Arrays") ∈ LW := LW_mem (mt_1 (List.mem_of_getElem? (i := 19) rfl)) rfl
theorem t1_20 : (Jvm.Cond.initialized "java/lang/Throwable") ∈ LW := LW_mem (mt_1 (List.mem_of_getElem? (i := 20) rfl)) rfl
theorem t1_21 : (Jvm.Cond.initialized "java/lang/Exception") ∈ LW := LW_mem (mt_1 (List.mem_of_getElem? (i := 21) rfl)) rfl
theorem t1_22 : (Jvm.Cond.initialized "java/lang/RuntimeException") ∈ LW := LW_mem (mt_1 (List.mem_of_getElem? (i := 22) rfl)) rfl
theorem t1_23 : (Jvm.Cond.initialized "java/lang/IllegalArgumentException") ∈ LW := LW_mem (mt_1 (List.mem_of_getElem? (i := 23) rfl)) rfl
theorem t1_24 : (Jvm.Cond.initialized "java/lang/Number") ∈ LW := LW_mem (mt_1 (List.mem_of_getElem? (i := 24) rfl)) rfl
theorem t1_25 : (Jvm.Cond.initialized "java/lang/Integer") ∈ LW := LW_mem (mt_1 (List.mem_of_getElem? (i := 25) rfl)) rfl
theorem t1_26 : (Jvm.Cond.initialized "java/lang/IllegalStateException") ∈ LW := LW_mem (mt_1 (List.mem_of_getElem? (i := 26) rfl)) rfl
theorem t1_27 : (Jvm.Cond.initialized "java/lang/IndexOutOfBoundsException") ∈ LW := LW_mem (mt_1 (List.mem_of_getElem? (i := 27) rfl)) rfl
theorem t1_28 : (Jvm.Cond.initialized "java/util/NoSuchElementException") ∈ LW := LW_mem (mt_1 (List.mem_of_getElem? (i := 28) rfl)) rfl
theorem t1_29 : (Jvm.Cond.classLink "TrigramReadersLaw" (19 : Nat) "TrigramReaders") ∈ LW := LW_mem (mt_1 (List.mem_of_getElem? (i := 29) rfl)) rfl
theorem t1_30 : (Jvm.Cond.instantiable "TrigramReaders" (15 : Nat)) ∈ LW := LW_mem (mt_1 (List.mem_of_getElem? (i := 30) rfl)) rfl
theorem t1_31 : (Jvm.Cond.methodLink "TrigramReadersLaw" (103 : Nat) ({ cls := "TrigramReaders", name := "<init>", desc := "()V" } : Jvm.MethodName)) ∈ LW := LW_mem (mt_1 (List.mem_of_getElem? (i := 31) rfl)) rfl
theorem t1_32 : (Jvm.Cond.instanceMethod ({ cls := "TrigramReaders", name := "<init>", desc := "()V" } : Jvm.MethodName)) ∈ LW := LW_mem (mt_1 (List.mem_of_getElem? (i := 32) rfl)) rfl
theorem t1_33 : (Jvm.Cond.code ({ cls := "TrigramReaders", name := "<init>", desc := "()V" } : Jvm.MethodName) prog_1_method_1_code (2 : Nat) (Option.none : Option Jvm.ClassFile.FieldType)) ∈ LW := LW_mem (mt_1 (List.mem_of_getElem? (i := 33) rfl)) rfl
theorem t1_34 : (Jvm.Cond.methodLink "TrigramReaders" (3 : Nat) ({ cls := "java/lang/Object", name := "<init>", desc := "()V" } : Jvm.MethodName)) ∈ LW := LW_mem (mt_1 (List.mem_of_getElem? (i := 34) rfl)) rfl
theorem t1_35 : (Jvm.Cond.instanceMethod ({ cls := "java/lang/Object", name := "<init>", desc := "()V" } : Jvm.MethodName)) ∈ LW := LW_mem (mt_1 (List.mem_of_getElem? (i := 35) rfl)) rfl
theorem t1_36 : (Jvm.Cond.code ({ cls := "java/lang/Object", name := "<init>", desc := "()V" } : Jvm.MethodName) object_method_1_code (1 : Nat) (Option.none : Option Jvm.ClassFile.FieldType)) ∈ LW := LW_mem (mt_1 (List.mem_of_getElem? (i := 36) rfl)) rfl
theorem t1_37 : (Jvm.Cond.methodLink "TrigramReaders" (9 : Nat) ({ cls := "TrigramReaders", name := "firstState", desc := "()LTrigramReaders$State;" } : Jvm.MethodName)) ∈ LW := LW_mem (mt_1 (List.mem_of_getElem? (i := 37) rfl)) rfl
theorem t1_38 : (Jvm.Cond.static ({ cls := "TrigramReaders", name := "firstState", desc := "()LTrigramReaders$State;" } : Jvm.MethodName)) ∈ LW := LW_mem (mt_1 (List.mem_of_getElem? (i := 38) rfl)) rfl
theorem t1_39 : (Jvm.Cond.code ({ cls := "TrigramReaders", name := "firstState", desc := "()LTrigramReaders$State;" } : Jvm.MethodName) prog_1_method_2_code (3 : Nat) (Option.some (Jvm.ClassFile.FieldType.object "TrigramReaders$State"))) ∈ LW := LW_mem (mt_1 (List.mem_of_getElem? (i := 39) rfl)) rfl
theorem t1_40 : (Jvm.Cond.classLink "TrigramReaders" (41 : Nat) "TrigramReaders$Bytes") ∈ LW := LW_mem (mt_1 (List.mem_of_getElem? (i := 40) rfl)) rfl
theorem t1_41 : (Jvm.Cond.instantiable "TrigramReaders$Bytes" (2 : Nat)) ∈ LW := LW_mem (mt_1 (List.mem_of_getElem? (i := 41) rfl)) rfl
theorem t1_43 : (Jvm.Cond.instanceMethod ({ cls := "TrigramReaders$Bytes", name := "<init>", desc := "()V" } : Jvm.MethodName)) ∈ LW := LW_mem (mt_1 (List.mem_of_getElem? (i := 43) rfl)) rfl
theorem t1_44 : (Jvm.Cond.code ({ cls := "TrigramReaders$Bytes", name := "<init>", desc := "()V" } : Jvm.MethodName) prog_2_method_1_code (1 : Nat) (Option.none : Option Jvm.ClassFile.FieldType)) ∈ LW := LW_mem (mt_1 (List.mem_of_getElem? (i := 44) rfl)) rfl
theorem t1_45 : (Jvm.Cond.methodLink "TrigramReaders$Bytes" (3 : Nat) ({ cls := "java/lang/Object", name := "<init>", desc := "()V" } : Jvm.MethodName)) ∈ LW := LW_mem (mt_1 (List.mem_of_getElem? (i := 45) rfl)) rfl
theorem t1_46 : (Jvm.Cond.fieldLink "TrigramReaders$Bytes" (9 : Nat) "TrigramReaders$Bytes" "row" "[I") ∈ LW := LW_mem (mt_1 (List.mem_of_getElem? (i := 46) rfl)) rfl
theorem t1_47 : (Jvm.Cond.fieldLink "TrigramReaders$Bytes" (15 : Nat) "TrigramReaders$Bytes" "length" "I") ∈ LW := LW_mem (mt_1 (List.mem_of_getElem? (i := 47) rfl)) rfl
theorem t1_48 : (Jvm.Cond.fieldLink "TrigramReaders" (107 : Nat) "TrigramReaders$Bytes" "length" "I") ∈ LW := LW_mem (mt_1 (List.mem_of_getElem? (i := 48) rfl)) rfl
theorem t1_49 : (Jvm.Cond.fieldLink "TrigramReaders$Parser" (138 : Nat) "TrigramReaders$Bytes" "length" "I") ∈ LW := LW_mem (mt_1 (List.mem_of_getElem? (i := 49) rfl)) rfl
theorem t1_50 : (Jvm.Cond.laysFinal "TrigramReaders$Bytes" "TrigramReaders$Bytes" "row" "[I") ∈ LW := LW_mem (mt_1 (List.mem_of_getElem? (i := 50) rfl)) rfl
theorem t1_52 : (Jvm.Cond.lays "TrigramReaders$Bytes" "TrigramReaders$Bytes" "length" "I") ∈ LW := LW_mem (mt_1 (List.mem_of_getElem? (i := 52) rfl)) rfl
theorem t1_55 : (Jvm.Cond.arrayClass Jvm.ClassFile.FieldType.int) ∈ LW := LW_mem (mt_1 (List.mem_of_getElem? (i := 55) rfl)) rfl
theorem t1_57 : (Jvm.Cond.methodLink "TrigramReaders" (84 : Nat) ({ cls := "java/lang/String", name := "length", desc := "()I" } : Jvm.MethodName)) ∈ LW := LW_mem (mt_1 (List.mem_of_getElem? (i := 57) rfl)) rfl
theorem t1_58 : (Jvm.Cond.instanceMethod ({ cls := "java/lang/String", name := "length", desc := "()I" } : Jvm.MethodName)) ∈ LW := LW_mem (mt_1 (List.mem_of_getElem? (i := 58) rfl)) rfl
theorem t1_59 : (Jvm.Cond.selects "java/lang/String" ({ cls := "java/lang/String", name := "length", desc := "()I" } : Jvm.MethodName) ({ cls := "java/lang/String", name := "length", desc := "()I" } : Jvm.MethodName)) ∈ LW := LW_mem (mt_1 (List.mem_of_getElem? (i := 59) rfl)) rfl
theorem t1_60 : (Jvm.Cond.code ({ cls := "java/lang/String", name := "length", desc := "()I" } : Jvm.MethodName) prog_26_method_54_code (1 : Nat) (Option.some Jvm.ClassFile.FieldType.int)) ∈ LW := LW_mem (mt_1 (List.mem_of_getElem? (i := 60) rfl)) rfl
theorem t1_61 : (Jvm.Cond.methodLink "java/lang/String" (335 : Nat) ({ cls := "java/lang/String", name := "coder", desc := "()B" } : Jvm.MethodName)) ∈ LW := LW_mem (mt_1 (List.mem_of_getElem? (i := 61) rfl)) rfl
theorem t1_62 : (Jvm.Cond.instanceMethod ({ cls := "java/lang/String", name := "coder", desc := "()B" } : Jvm.MethodName)) ∈ LW := LW_mem (mt_1 (List.mem_of_getElem? (i := 62) rfl)) rfl
theorem t1_63 : (Jvm.Cond.selects "java/lang/String" ({ cls := "java/lang/String", name := "coder", desc := "()B" } : Jvm.MethodName) ({ cls := "java/lang/String", name := "coder", desc := "()B" } : Jvm.MethodName)) ∈ LW := LW_mem (mt_1 (List.mem_of_getElem? (i := 63) rfl)) rfl
theorem t1_64 : (Jvm.Cond.code ({ cls := "java/lang/String", name := "coder", desc := "()B" } : Jvm.MethodName) prog_26_method_152_code (1 : Nat) (Option.some Jvm.ClassFile.FieldType.byte)) ∈ LW := LW_mem (mt_1 (List.mem_of_getElem? (i := 64) rfl)) rfl
theorem t1_65 : (Jvm.Cond.fieldLink "java/lang/String" (38 : Nat) "java/lang/String" "COMPACT_STRINGS" "Z") ∈ LW := LW_mem (mt_1 (List.mem_of_getElem? (i := 65) rfl)) rfl
theorem t1_67 : (Jvm.Cond.methodLink "TrigramReaders" (90 : Nat) ({ cls := "java/lang/String", name := "charAt", desc := "(I)C" } : Jvm.MethodName)) ∈ LW := LW_mem (mt_1 (List.mem_of_getElem? (i := 67) rfl)) rfl
theorem t1_68 : (Jvm.Cond.instanceMethod ({ cls := "java/lang/String", name := "charAt", desc := "(I)C" } : Jvm.MethodName)) ∈ LW := LW_mem (mt_1 (List.mem_of_getElem? (i := 68) rfl)) rfl
theorem t1_69 : (Jvm.Cond.selects "java/lang/String" ({ cls := "java/lang/String", name := "charAt", desc := "(I)C" } : Jvm.MethodName) ({ cls := "java/lang/String", name := "charAt", desc := "(I)C" } : Jvm.MethodName)) ∈ LW := LW_mem (mt_1 (List.mem_of_getElem? (i := 69) rfl)) rfl
theorem t1_70 : (Jvm.Cond.code ({ cls := "java/lang/String", name := "charAt", desc := "(I)C" } : Jvm.MethodName) prog_26_method_56_code (2 : Nat) (Option.some Jvm.ClassFile.FieldType.char)) ∈ LW := LW_mem (mt_1 (List.mem_of_getElem? (i := 70) rfl)) rfl
theorem t1_71 : (Jvm.Cond.methodLink "java/lang/String" (492 : Nat) ({ cls := "java/lang/String", name := "isLatin1", desc := "()Z" } : Jvm.MethodName)) ∈ LW := LW_mem (mt_1 (List.mem_of_getElem? (i := 71) rfl)) rfl
theorem t1_72 : (Jvm.Cond.instanceMethod ({ cls := "java/lang/String", name := "isLatin1", desc := "()Z" } : Jvm.MethodName)) ∈ LW := LW_mem (mt_1 (List.mem_of_getElem? (i := 72) rfl)) rfl
theorem t1_73 : (Jvm.Cond.selects "java/lang/String" ({ cls := "java/lang/String", name := "isLatin1", desc := "()Z" } : Jvm.MethodName) ({ cls := "java/lang/String", name := "isLatin1", desc := "()Z" } : Jvm.MethodName)) ∈ LW := LW_mem (mt_1 (List.mem_of_getElem? (i := 73) rfl)) rfl
theorem t1_74 : (Jvm.Cond.code ({ cls := "java/lang/String", name := "isLatin1", desc := "()Z" } : Jvm.MethodName) prog_26_method_154_code (1 : Nat) (Option.some Jvm.ClassFile.FieldType.boolean)) ∈ LW := LW_mem (mt_1 (List.mem_of_getElem? (i := 74) rfl)) rfl
theorem t1_75 : (Jvm.Cond.methodLink "java/lang/String" (495 : Nat) ({ cls := "java/lang/StringLatin1", name := "charAt", desc := "([BI)C" } : Jvm.MethodName)) ∈ LW := LW_mem (mt_1 (List.mem_of_getElem? (i := 75) rfl)) rfl
theorem t1_76 : (Jvm.Cond.static ({ cls := "java/lang/StringLatin1", name := "charAt", desc := "([BI)C" } : Jvm.MethodName)) ∈ LW := LW_mem (mt_1 (List.mem_of_getElem? (i := 76) rfl)) rfl
theorem t1_77 : (Jvm.Cond.code ({ cls := "java/lang/StringLatin1", name := "charAt", desc := "([BI)C" } : Jvm.MethodName) prog_28_method_2_code (2 : Nat) (Option.some Jvm.ClassFile.FieldType.char)) ∈ LW := LW_mem (mt_1 (List.mem_of_getElem? (i := 77) rfl)) rfl
theorem t1_78 : (Jvm.Cond.methodLink "java/lang/StringLatin1" (9 : Nat) ({ cls := "java/lang/String", name := "checkIndex", desc := "(II)V" } : Jvm.MethodName)) ∈ LW := LW_mem (mt_1 (List.mem_of_getElem? (i := 78) rfl)) rfl
theorem t1_79 : (Jvm.Cond.static ({ cls := "java/lang/String", name := "checkIndex", desc := "(II)V" } : Jvm.MethodName)) ∈ LW := LW_mem (mt_1 (List.mem_of_getElem? (i := 79) rfl)) rfl
theorem t1_80 : (Jvm.Cond.code ({ cls := "java/lang/String", name := "checkIndex", desc := "(II)V" } : Jvm.MethodName) prog_26_method_155_code (2 : Nat) (Option.none : Option Jvm.ClassFile.FieldType)) ∈ LW := LW_mem (mt_1 (List.mem_of_getElem? (i := 80) rfl)) rfl
theorem t1_81 : (Jvm.Cond.fieldLink "java/lang/String" (1053 : Nat) "jdk/internal/util/Preconditions" "SIOOBE_FORMATTER" "Ljava/util/function/BiFunction;") ∈ LW := LW_mem (mt_1 (List.mem_of_getElem? (i := 81) rfl)) rfl
theorem t1_83 : (Jvm.Cond.methodLink "java/lang/String" (1059 : Nat) ({ cls := "jdk/internal/util/Preconditions", name := "checkIndex", desc := "(IILjava/util/function/BiFunction;)I" } : Jvm.MethodName)) ∈ LW := LW_mem (mt_1 (List.mem_of_getElem? (i := 83) rfl)) rfl
theorem t1_84 : (Jvm.Cond.static ({ cls := "jdk/internal/util/Preconditions", name := "checkIndex", desc := "(IILjava/util/function/BiFunction;)I" } : Jvm.MethodName)) ∈ LW := LW_mem (mt_1 (List.mem_of_getElem? (i := 84) rfl)) rfl
theorem t1_85 : (Jvm.Cond.code ({ cls := "jdk/internal/util/Preconditions", name := "checkIndex", desc := "(IILjava/util/function/BiFunction;)I" } : Jvm.MethodName) prog_37_method_11_code (3 : Nat) (Option.some Jvm.ClassFile.FieldType.int)) ∈ LW := LW_mem (mt_1 (List.mem_of_getElem? (i := 85) rfl)) rfl
theorem t1_86 : (Jvm.Cond.methodLink "java/lang/String" (498 : Nat) ({ cls := "java/lang/StringUTF16", name := "charAt", desc := "([BI)C" } : Jvm.MethodName)) ∈ LW := LW_mem (mt_1 (List.mem_of_getElem? (i := 86) rfl)) rfl
theorem t1_87 : (Jvm.Cond.static ({ cls := "java/lang/StringUTF16", name := "charAt", desc := "([BI)C" } : Jvm.MethodName)) ∈ LW := LW_mem (mt_1 (List.mem_of_getElem? (i := 87) rfl)) rfl
theorem t1_88 : (Jvm.Cond.code ({ cls := "java/lang/StringUTF16", name := "charAt", desc := "([BI)C" } : Jvm.MethodName) prog_29_method_83_code (2 : Nat) (Option.some Jvm.ClassFile.FieldType.char)) ∈ LW := LW_mem (mt_1 (List.mem_of_getElem? (i := 88) rfl)) rfl
theorem t1_89 : (Jvm.Cond.methodLink "java/lang/StringUTF16" (67 : Nat) ({ cls := "java/lang/StringUTF16", name := "checkIndex", desc := "(I[B)V" } : Jvm.MethodName)) ∈ LW := LW_mem (mt_1 (List.mem_of_getElem? (i := 89) rfl)) rfl
theorem t1_90 : (Jvm.Cond.static ({ cls := "java/lang/StringUTF16", name := "checkIndex", desc := "(I[B)V" } : Jvm.MethodName)) ∈ LW := LW_mem (mt_1 (List.mem_of_getElem? (i := 90) rfl)) rfl
theorem t1_91 : (Jvm.Cond.code ({ cls := "java/lang/StringUTF16", name := "checkIndex", desc := "(I[B)V" } : Jvm.MethodName) prog_29_method_91_code (2 : Nat) (Option.none : Option Jvm.ClassFile.FieldType)) ∈ LW := LW_mem (mt_1 (List.mem_of_getElem? (i := 91) rfl)) rfl
theorem t1_92 : (Jvm.Cond.methodLink "java/lang/StringUTF16" (48 : Nat) ({ cls := "java/lang/StringUTF16", name := "length", desc := "([B)I" } : Jvm.MethodName)) ∈ LW := LW_mem (mt_1 (List.mem_of_getElem? (i := 92) rfl)) rfl
theorem t1_93 : (Jvm.Cond.static ({ cls := "java/lang/StringUTF16", name := "length", desc := "([B)I" } : Jvm.MethodName)) ∈ LW := LW_mem (mt_1 (List.mem_of_getElem? (i := 93) rfl)) rfl
theorem t1_94 : (Jvm.Cond.code ({ cls := "java/lang/StringUTF16", name := "length", desc := "([B)I" } : Jvm.MethodName) prog_29_method_6_code (1 : Nat) (Option.some Jvm.ClassFile.FieldType.int)) ∈ LW := LW_mem (mt_1 (List.mem_of_getElem? (i := 94) rfl)) rfl
theorem t1_95 : (Jvm.Cond.methodLink "java/lang/StringUTF16" (414 : Nat) ({ cls := "java/lang/String", name := "checkIndex", desc := "(II)V" } : Jvm.MethodName)) ∈ LW := LW_mem (mt_1 (List.mem_of_getElem? (i := 95) rfl)) rfl
theorem t1_96 : (Jvm.Cond.methodLink "java/lang/StringUTF16" (71 : Nat) ({ cls := "java/lang/StringUTF16", name := "getChar", desc := "([BI)C" } : Jvm.MethodName)) ∈ LW := LW_mem (mt_1 (List.mem_of_getElem? (i := 96) rfl)) rfl
theorem t1_97 : (Jvm.Cond.static ({ cls := "java/lang/StringUTF16", name := "getChar", desc := "([BI)C" } : Jvm.MethodName)) ∈ LW := LW_mem (mt_1 (List.mem_of_getElem? (i := 97) rfl)) rfl
theorem t1_98 : (Jvm.Cond.code ({ cls := "java/lang/StringUTF16", name := "getChar", desc := "([BI)C" } : Jvm.MethodName) prog_29_method_5_code (2 : Nat) (Option.some Jvm.ClassFile.FieldType.char)) ∈ LW := LW_mem (mt_1 (List.mem_of_getElem? (i := 98) rfl)) rfl
theorem t1_99 : (Jvm.Cond.fieldLink "java/lang/StringUTF16" (44 : Nat) "java/lang/StringUTF16" "$assertionsDisabled" "Z") ∈ LW := LW_mem (mt_1 (List.mem_of_getElem? (i := 99) rfl)) rfl
theorem t1_101 : (Jvm.Cond.fieldLink "java/lang/StringUTF16" (59 : Nat) "java/lang/StringUTF16" "HI_BYTE_SHIFT" "I") ∈ LW := LW_mem (mt_1 (List.mem_of_getElem? (i := 101) rfl)) rfl
theorem t1_103 : (Jvm.Cond.fieldLink "java/lang/StringUTF16" (63 : Nat) "java/lang/StringUTF16" "LO_BYTE_SHIFT" "I") ∈ LW := LW_mem (mt_1 (List.mem_of_getElem? (i := 103) rfl)) rfl
theorem t1_105 : (Jvm.Cond.methodLink "TrigramReaders" (94 : Nat) ({ cls := "TrigramReaders$Bytes", name := "append", desc := "(I)V" } : Jvm.MethodName)) ∈ LW := LW_mem (mt_1 (List.mem_of_getElem? (i := 105) rfl)) rfl
theorem t1_106 : (Jvm.Cond.instanceMethod ({ cls := "TrigramReaders$Bytes", name := "append", desc := "(I)V" } : Jvm.MethodName)) ∈ LW := LW_mem (mt_1 (List.mem_of_getElem? (i := 106) rfl)) rfl
theorem t1_107 : (Jvm.Cond.selects "TrigramReaders$Bytes" ({ cls := "TrigramReaders$Bytes", name := "append", desc := "(I)V" } : Jvm.MethodName) ({ cls := "TrigramReaders$Bytes", name := "append", desc := "(I)V" } : Jvm.MethodName)) ∈ LW := LW_mem (mt_1 (List.mem_of_getElem? (i := 107) rfl)) rfl
theorem t1_108 : (Jvm.Cond.code ({ cls := "TrigramReaders$Bytes", name := "append", desc := "(I)V" } : Jvm.MethodName) prog_2_method_3_code (2 : Nat) (Option.none : Option Jvm.ClassFile.FieldType)) ∈ LW := LW_mem (mt_1 (List.mem_of_getElem? (i := 108) rfl)) rfl
theorem t1_109 : (Jvm.Cond.classLink "TrigramReaders" (17 : Nat) "TrigramReaders$State") ∈ LW := LW_mem (mt_1 (List.mem_of_getElem? (i := 109) rfl)) rfl
theorem t1_110 : (Jvm.Cond.instantiable "TrigramReaders$State" (5 : Nat)) ∈ LW := LW_mem (mt_1 (List.mem_of_getElem? (i := 110) rfl)) rfl
theorem t1_111 : (Jvm.Cond.methodLink "TrigramReaders" (19 : Nat) ({ cls := "TrigramReaders$State", name := "<init>", desc := "()V" } : Jvm.MethodName)) ∈ LW := LW_mem (mt_1 (List.mem_of_getElem? (i := 111) rfl)) rfl
theorem t1_112 : (Jvm.Cond.instanceMethod ({ cls := "TrigramReaders$State", name := "<init>", desc := "()V" } : Jvm.MethodName)) ∈ LW := LW_mem (mt_1 (List.mem_of_getElem? (i := 112) rfl)) rfl
theorem t1_113 : (Jvm.Cond.code ({ cls := "TrigramReaders$State", name := "<init>", desc := "()V" } : Jvm.MethodName) prog_9_method_1_code (2 : Nat) (Option.none : Option Jvm.ClassFile.FieldType)) ∈ LW := LW_mem (mt_1 (List.mem_of_getElem? (i := 113) rfl)) rfl
theorem t1_114 : (Jvm.Cond.methodLink "TrigramReaders$State" (3 : Nat) ({ cls := "java/lang/Object", name := "<init>", desc := "()V" } : Jvm.MethodName)) ∈ LW := LW_mem (mt_1 (List.mem_of_getElem? (i := 114) rfl)) rfl
theorem t1_115 : (Jvm.Cond.classLink "TrigramReaders$State" (9 : Nat) "TrigramReaders$Reader") ∈ LW := LW_mem (mt_1 (List.mem_of_getElem? (i := 115) rfl)) rfl
theorem t1_117 : (Jvm.Cond.classLink "TrigramReaders$State" (21 : Nat) "TrigramReaders$Document") ∈ LW := LW_mem (mt_1 (List.mem_of_getElem? (i := 117) rfl)) rfl
theorem t1_119 : (Jvm.Cond.instantiable "TrigramReaders$Reader" (6 : Nat)) ∈ LW := LW_mem (mt_1 (List.mem_of_getElem? (i := 119) rfl)) rfl
theorem t1_121 : (Jvm.Cond.instanceMethod ({ cls := "TrigramReaders$Reader", name := "<init>", desc := "()V" } : Jvm.MethodName)) ∈ LW := LW_mem (mt_1 (List.mem_of_getElem? (i := 121) rfl)) rfl
theorem t1_122 : (Jvm.Cond.code ({ cls := "TrigramReaders$Reader", name := "<init>", desc := "()V" } : Jvm.MethodName) prog_8_method_1_code (1 : Nat) (Option.none : Option Jvm.ClassFile.FieldType)) ∈ LW := LW_mem (mt_1 (List.mem_of_getElem? (i := 122) rfl)) rfl
theorem t1_123 : (Jvm.Cond.methodLink "TrigramReaders$Reader" (3 : Nat) ({ cls := "java/lang/Object", name := "<init>", desc := "()V" } : Jvm.MethodName)) ∈ LW := LW_mem (mt_1 (List.mem_of_getElem? (i := 123) rfl)) rfl
theorem t1_124 : (Jvm.Cond.classLink "TrigramReaders$Reader" (22 : Nat) "TrigramReaders$Counts") ∈ LW := LW_mem (mt_1 (List.mem_of_getElem? (i := 124) rfl)) rfl
theorem t1_125 : (Jvm.Cond.instantiable "TrigramReaders$Counts" (3 : Nat)) ∈ LW := LW_mem (mt_1 (List.mem_of_getElem? (i := 125) rfl)) rfl
theorem t1_127 : (Jvm.Cond.instanceMethod ({ cls := "TrigramReaders$Counts", name := "<init>", desc := "()V" } : Jvm.MethodName)) ∈ LW := LW_mem (mt_1 (List.mem_of_getElem? (i := 127) rfl)) rfl
theorem t1_128 : (Jvm.Cond.code ({ cls := "TrigramReaders$Counts", name := "<init>", desc := "()V" } : Jvm.MethodName) prog_4_method_1_code (1 : Nat) (Option.none : Option Jvm.ClassFile.FieldType)) ∈ LW := LW_mem (mt_1 (List.mem_of_getElem? (i := 128) rfl)) rfl
theorem t1_129 : (Jvm.Cond.methodLink "TrigramReaders$Counts" (3 : Nat) ({ cls := "java/lang/Object", name := "<init>", desc := "()V" } : Jvm.MethodName)) ∈ LW := LW_mem (mt_1 (List.mem_of_getElem? (i := 129) rfl)) rfl
theorem t1_130 : (Jvm.Cond.fieldLink "TrigramReaders$Counts" (9 : Nat) "TrigramReaders$Counts" "keys" "[I") ∈ LW := LW_mem (mt_1 (List.mem_of_getElem? (i := 130) rfl)) rfl
theorem t1_131 : (Jvm.Cond.fieldLink "TrigramReaders$Ranking" (48 : Nat) "TrigramReaders$Counts" "keys" "[I") ∈ LW := LW_mem (mt_1 (List.mem_of_getElem? (i := 131) rfl)) rfl
theorem t1_132 : (Jvm.Cond.fieldLink "TrigramReaders$Chance" (63 : Nat) "TrigramReaders$Counts" "keys" "[I") ∈ LW := LW_mem (mt_1 (List.mem_of_getElem? (i := 132) rfl)) rfl
theorem t1_133 : (Jvm.Cond.fieldLink "TrigramReaders$Counts" (15 : Nat) "TrigramReaders$Counts" "values" "[I") ∈ LW := LW_mem (mt_1 (List.mem_of_getElem? (i := 133) rfl)) rfl
theorem t1_134 : (Jvm.Cond.fieldLink "TrigramReaders$Ranking" (51 : Nat) "TrigramReaders$Counts" "values" "[I") ∈ LW := LW_mem (mt_1 (List.mem_of_getElem? (i := 134) rfl)) rfl
theorem t1_135 : (Jvm.Cond.fieldLink "TrigramReaders$Chance" (67 : Nat) "TrigramReaders$Counts" "values" "[I") ∈ LW := LW_mem (mt_1 (List.mem_of_getElem? (i := 135) rfl)) rfl
theorem t1_136 : (Jvm.Cond.fieldLink "TrigramReaders$Counts" (18 : Nat) "TrigramReaders$Counts" "size" "I") ∈ LW := LW_mem (mt_1 (List.mem_of_getElem? (i := 136) rfl)) rfl
theorem t1_137 : (Jvm.Cond.fieldLink "TrigramReaders$Ranking" (47 : Nat) "TrigramReaders$Counts" "size" "I") ∈ LW := LW_mem (mt_1 (List.mem_of_getElem? (i := 137) rfl)) rfl
theorem t1_138 : (Jvm.Cond.fieldLink "TrigramReaders$Chance" (60 : Nat) "TrigramReaders$Counts" "size" "I") ∈ LW := LW_mem (mt_1 (List.mem_of_getElem? (i := 138) rfl)) rfl
theorem t1_139 : (Jvm.Cond.fieldLink "TrigramReaders$Reader" (54 : Nat) "TrigramReaders$Counts" "size" "I") ∈ LW := LW_mem (mt_1 (List.mem_of_getElem? (i := 139) rfl)) rfl
theorem t1_140 : (Jvm.Cond.fieldLink "TrigramReaders" (215 : Nat) "TrigramReaders$Counts" "size" "I") ∈ LW := LW_mem (mt_1 (List.mem_of_getElem? (i := 140) rfl)) rfl
theorem t1_141 : (Jvm.Cond.laysFinal "TrigramReaders$Counts" "TrigramReaders$Counts" "keys" "[I") ∈ LW := LW_mem (mt_1 (List.mem_of_getElem? (i := 141) rfl)) rfl
theorem t1_143 : (Jvm.Cond.laysFinal "TrigramReaders$Counts" "TrigramReaders$Counts" "values" "[I") ∈ LW := LW_mem (mt_1 (List.mem_of_getElem? (i := 143) rfl)) rfl
theorem t1_145 : (Jvm.Cond.lays "TrigramReaders$Counts" "TrigramReaders$Counts" "size" "I") ∈ LW := LW_mem (mt_1 (List.mem_of_getElem? (i := 145) rfl)) rfl
theorem t1_148 : (Jvm.Cond.arrayClass Jvm.ClassFile.FieldType.byte) ∈ LW := LW_mem (mt_1 (List.mem_of_getElem? (i := 148) rfl)) rfl
theorem t1_149 : (Jvm.Cond.fieldLink "TrigramReaders$Reader" (9 : Nat) "TrigramReaders$Reader" "name" "[I") ∈ LW := LW_mem (mt_1 (List.mem_of_getElem? (i := 149) rfl)) rfl
theorem t1_150 : (Jvm.Cond.fieldLink "TrigramReaders$Reader" (15 : Nat) "TrigramReaders$Reader" "nameLength" "I") ∈ LW := LW_mem (mt_1 (List.mem_of_getElem? (i := 150) rfl)) rfl
theorem t1_151 : (Jvm.Cond.fieldLink "TrigramReaders$Reader" (19 : Nat) "TrigramReaders$Reader" "method" "I") ∈ LW := LW_mem (mt_1 (List.mem_of_getElem? (i := 151) rfl)) rfl
theorem t1_152 : (Jvm.Cond.fieldLink "TrigramReaders$Chance" (35 : Nat) "TrigramReaders$Reader" "method" "I") ∈ LW := LW_mem (mt_1 (List.mem_of_getElem? (i := 152) rfl)) rfl
theorem t1_153 : (Jvm.Cond.fieldLink "TrigramReaders" (164 : Nat) "TrigramReaders$Reader" "method" "I") ∈ LW := LW_mem (mt_1 (List.mem_of_getElem? (i := 153) rfl)) rfl
theorem t1_154 : (Jvm.Cond.fieldLink "TrigramReaders$Reader" (25 : Nat) "TrigramReaders$Reader" "counts" "LTrigramReaders$Counts;") ∈ LW := LW_mem (mt_1 (List.mem_of_getElem? (i := 154) rfl)) rfl
theorem t1_155 : (Jvm.Cond.fieldLink "TrigramReaders$Chance" (29 : Nat) "TrigramReaders$Reader" "counts" "LTrigramReaders$Counts;") ∈ LW := LW_mem (mt_1 (List.mem_of_getElem? (i := 155) rfl)) rfl
theorem t1_156 : (Jvm.Cond.fieldLink "TrigramReaders$Parser" (110 : Nat) "TrigramReaders$Reader" "counts" "LTrigramReaders$Counts;") ∈ LW := LW_mem (mt_1 (List.mem_of_getElem? (i := 156) rfl)) rfl
theorem t1_157 : (Jvm.Cond.fieldLink "TrigramReaders$State" (53 : Nat) "TrigramReaders$Reader" "counts" "LTrigramReaders$Counts;") ∈ LW := LW_mem (mt_1 (List.mem_of_getElem? (i := 157) rfl)) rfl
theorem t1_158 : (Jvm.Cond.fieldLink "TrigramReaders" (188 : Nat) "TrigramReaders$Reader" "counts" "LTrigramReaders$Counts;") ∈ LW := LW_mem (mt_1 (List.mem_of_getElem? (i := 158) rfl)) rfl
theorem t1_159 : (Jvm.Cond.fieldLink "TrigramReaders$Reader" (29 : Nat) "TrigramReaders$Reader" "symbolsTrained" "I") ∈ LW := LW_mem (mt_1 (List.mem_of_getElem? (i := 159) rfl)) rfl
theorem t1_160 : (Jvm.Cond.fieldLink "TrigramReaders" (221 : Nat) "TrigramReaders$Reader" "symbolsTrained" "I") ∈ LW := LW_mem (mt_1 (List.mem_of_getElem? (i := 160) rfl)) rfl
theorem t1_161 : (Jvm.Cond.fieldLink "TrigramReaders$Reader" (32 : Nat) "TrigramReaders$Reader" "trainings" "[I") ∈ LW := LW_mem (mt_1 (List.mem_of_getElem? (i := 161) rfl)) rfl
theorem t1_162 : (Jvm.Cond.laysFinal "TrigramReaders$Reader" "TrigramReaders$Reader" "name" "[I") ∈ LW := LW_mem (mt_1 (List.mem_of_getElem? (i := 162) rfl)) rfl
theorem t1_164 : (Jvm.Cond.lays "TrigramReaders$Reader" "TrigramReaders$Reader" "nameLength" "I") ∈ LW := LW_mem (mt_1 (List.mem_of_getElem? (i := 164) rfl)) rfl
theorem t1_166 : (Jvm.Cond.lays "TrigramReaders$Reader" "TrigramReaders$Reader" "method" "I") ∈ LW := LW_mem (mt_1 (List.mem_of_getElem? (i := 166) rfl)) rfl
theorem t1_168 : (Jvm.Cond.laysFinal "TrigramReaders$Reader" "TrigramReaders$Reader" "counts" "LTrigramReaders$Counts;") ∈ LW := LW_mem (mt_1 (List.mem_of_getElem? (i := 168) rfl)) rfl
theorem t1_170 : (Jvm.Cond.lays "TrigramReaders$Reader" "TrigramReaders$Reader" "symbolsTrained" "I") ∈ LW := LW_mem (mt_1 (List.mem_of_getElem? (i := 170) rfl)) rfl
theorem t1_172 : (Jvm.Cond.laysFinal "TrigramReaders$Reader" "TrigramReaders$Reader" "trainings" "[I") ∈ LW := LW_mem (mt_1 (List.mem_of_getElem? (i := 172) rfl)) rfl
theorem t1_175 : (Jvm.Cond.instantiable "TrigramReaders$Document" (3 : Nat)) ∈ LW := LW_mem (mt_1 (List.mem_of_getElem? (i := 175) rfl)) rfl
theorem t1_177 : (Jvm.Cond.instanceMethod ({ cls := "TrigramReaders$Document", name := "<init>", desc := "()V" } : Jvm.MethodName)) ∈ LW := LW_mem (mt_1 (List.mem_of_getElem? (i := 177) rfl)) rfl
theorem t1_178 : (Jvm.Cond.code ({ cls := "TrigramReaders$Document", name := "<init>", desc := "()V" } : Jvm.MethodName) prog_5_method_1_code (1 : Nat) (Option.none : Option Jvm.ClassFile.FieldType)) ∈ LW := LW_mem (mt_1 (List.mem_of_getElem? (i := 178) rfl)) rfl
theorem t1_179 : (Jvm.Cond.methodLink "TrigramReaders$Document" (3 : Nat) ({ cls := "java/lang/Object", name := "<init>", desc := "()V" } : Jvm.MethodName)) ∈ LW := LW_mem (mt_1 (List.mem_of_getElem? (i := 179) rfl)) rfl
theorem t1_180 : (Jvm.Cond.fieldLink "TrigramReaders$Document" (9 : Nat) "TrigramReaders$Document" "symbols" "[I") ∈ LW := LW_mem (mt_1 (List.mem_of_getElem? (i := 180) rfl)) rfl
theorem t1_181 : (Jvm.Cond.fieldLink "TrigramReaders$Document" (15 : Nat) "TrigramReaders$Document" "length" "I") ∈ LW := LW_mem (mt_1 (List.mem_of_getElem? (i := 181) rfl)) rfl
theorem t1_182 : (Jvm.Cond.fieldLink "TrigramReaders$Parser" (122 : Nat) "TrigramReaders$Document" "length" "I") ∈ LW := LW_mem (mt_1 (List.mem_of_getElem? (i := 182) rfl)) rfl
theorem t1_183 : (Jvm.Cond.fieldLink "TrigramReaders$Counts" (54 : Nat) "TrigramReaders$Document" "length" "I") ∈ LW := LW_mem (mt_1 (List.mem_of_getElem? (i := 183) rfl)) rfl
theorem t1_184 : (Jvm.Cond.fieldLink "TrigramReaders" (174 : Nat) "TrigramReaders$Document" "length" "I") ∈ LW := LW_mem (mt_1 (List.mem_of_getElem? (i := 184) rfl)) rfl
theorem t1_185 : (Jvm.Cond.fieldLink "TrigramReaders$Document" (19 : Nat) "TrigramReaders$Document" "yearAdded" "I") ∈ LW := LW_mem (mt_1 (List.mem_of_getElem? (i := 185) rfl)) rfl
theorem t1_186 : (Jvm.Cond.laysFinal "TrigramReaders$Document" "TrigramReaders$Document" "symbols" "[I") ∈ LW := LW_mem (mt_1 (List.mem_of_getElem? (i := 186) rfl)) rfl
theorem t1_188 : (Jvm.Cond.lays "TrigramReaders$Document" "TrigramReaders$Document" "length" "I") ∈ LW := LW_mem (mt_1 (List.mem_of_getElem? (i := 188) rfl)) rfl
theorem t1_190 : (Jvm.Cond.lays "TrigramReaders$Document" "TrigramReaders$Document" "yearAdded" "I") ∈ LW := LW_mem (mt_1 (List.mem_of_getElem? (i := 190) rfl)) rfl
theorem t1_193 : (Jvm.Cond.fieldLink "TrigramReaders$State" (11 : Nat) "TrigramReaders$State" "readers" "[LTrigramReaders$Reader;") ∈ LW := LW_mem (mt_1 (List.mem_of_getElem? (i := 193) rfl)) rfl
theorem t1_194 : (Jvm.Cond.fieldLink "TrigramReaders$State" (17 : Nat) "TrigramReaders$State" "readersUsed" "I") ∈ LW := LW_mem (mt_1 (List.mem_of_getElem? (i := 194) rfl)) rfl
theorem t1_195 : (Jvm.Cond.fieldLink "TrigramReaders$Parser" (67 : Nat) "TrigramReaders$State" "readersUsed" "I") ∈ LW := LW_mem (mt_1 (List.mem_of_getElem? (i := 195) rfl)) rfl
theorem t1_196 : (Jvm.Cond.fieldLink "TrigramReaders" (143 : Nat) "TrigramReaders$State" "readersUsed" "I") ∈ LW := LW_mem (mt_1 (List.mem_of_getElem? (i := 196) rfl)) rfl
theorem t1_197 : (Jvm.Cond.fieldLink "TrigramReaders$State" (23 : Nat) "TrigramReaders$State" "documents" "[LTrigramReaders$Document;") ∈ LW := LW_mem (mt_1 (List.mem_of_getElem? (i := 197) rfl)) rfl
theorem t1_198 : (Jvm.Cond.fieldLink "TrigramReaders$State" (27 : Nat) "TrigramReaders$State" "documentsUsed" "I") ∈ LW := LW_mem (mt_1 (List.mem_of_getElem? (i := 198) rfl)) rfl
theorem t1_199 : (Jvm.Cond.fieldLink "TrigramReaders$Parser" (93 : Nat) "TrigramReaders$State" "documentsUsed" "I") ∈ LW := LW_mem (mt_1 (List.mem_of_getElem? (i := 199) rfl)) rfl
theorem t1_200 : (Jvm.Cond.fieldLink "TrigramReaders" (167 : Nat) "TrigramReaders$State" "documentsUsed" "I") ∈ LW := LW_mem (mt_1 (List.mem_of_getElem? (i := 200) rfl)) rfl
theorem t1_201 : (Jvm.Cond.fieldLink "TrigramReaders$State" (30 : Nat) "TrigramReaders$State" "currentYear" "I") ∈ LW := LW_mem (mt_1 (List.mem_of_getElem? (i := 201) rfl)) rfl
theorem t1_202 : (Jvm.Cond.fieldLink "TrigramReaders" (146 : Nat) "TrigramReaders$State" "currentYear" "I") ∈ LW := LW_mem (mt_1 (List.mem_of_getElem? (i := 202) rfl)) rfl
theorem t1_203 : (Jvm.Cond.laysFinal "TrigramReaders$State" "TrigramReaders$State" "readers" "[LTrigramReaders$Reader;") ∈ LW := LW_mem (mt_1 (List.mem_of_getElem? (i := 203) rfl)) rfl
theorem t1_205 : (Jvm.Cond.lays "TrigramReaders$State" "TrigramReaders$State" "readersUsed" "I") ∈ LW := LW_mem (mt_1 (List.mem_of_getElem? (i := 205) rfl)) rfl
theorem t1_207 : (Jvm.Cond.laysFinal "TrigramReaders$State" "TrigramReaders$State" "documents" "[LTrigramReaders$Document;") ∈ LW := LW_mem (mt_1 (List.mem_of_getElem? (i := 207) rfl)) rfl
theorem t1_209 : (Jvm.Cond.lays "TrigramReaders$State" "TrigramReaders$State" "documentsUsed" "I") ∈ LW := LW_mem (mt_1 (List.mem_of_getElem? (i := 209) rfl)) rfl
theorem t1_211 : (Jvm.Cond.lays "TrigramReaders$State" "TrigramReaders$State" "currentYear" "I") ∈ LW := LW_mem (mt_1 (List.mem_of_getElem? (i := 211) rfl)) rfl
theorem t1_214 : (Jvm.Cond.classLink "TrigramReaders" (98 : Nat) "TrigramReaders$Parser") ∈ LW := LW_mem (mt_1 (List.mem_of_getElem? (i := 214) rfl)) rfl
theorem t1_215 : (Jvm.Cond.instantiable "TrigramReaders$Parser" (7 : Nat)) ∈ LW := LW_mem (mt_1 (List.mem_of_getElem? (i := 215) rfl)) rfl
theorem t1_216 : (Jvm.Cond.methodLink "TrigramReaders" (100 : Nat) ({ cls := "TrigramReaders$Parser", name := "<init>", desc := "(LTrigramReaders$Bytes;LTrigramReaders$State;)V" } : Jvm.MethodName)) ∈ LW := LW_mem (mt_1 (List.mem_of_getElem? (i := 216) rfl)) rfl
theorem t1_217 : (Jvm.Cond.instanceMethod ({ cls := "TrigramReaders$Parser", name := "<init>", desc := "(LTrigramReaders$Bytes;LTrigramReaders$State;)V" } : Jvm.MethodName)) ∈ LW := LW_mem (mt_1 (List.mem_of_getElem? (i := 217) rfl)) rfl
theorem t1_218 : (Jvm.Cond.code ({ cls := "TrigramReaders$Parser", name := "<init>", desc := "(LTrigramReaders$Bytes;LTrigramReaders$State;)V" } : Jvm.MethodName) prog_6_method_1_code (3 : Nat) (Option.none : Option Jvm.ClassFile.FieldType)) ∈ LW := LW_mem (mt_1 (List.mem_of_getElem? (i := 218) rfl)) rfl
theorem t1_219 : (Jvm.Cond.methodLink "TrigramReaders$Parser" (3 : Nat) ({ cls := "java/lang/Object", name := "<init>", desc := "()V" } : Jvm.MethodName)) ∈ LW := LW_mem (mt_1 (List.mem_of_getElem? (i := 219) rfl)) rfl
theorem t1_220 : (Jvm.Cond.fieldLink "TrigramReaders$Parser" (27 : Nat) "TrigramReaders$Parser" "text" "LTrigramReaders$Bytes;") ∈ LW := LW_mem (mt_1 (List.mem_of_getElem? (i := 220) rfl)) rfl
theorem t1_221 : (Jvm.Cond.fieldLink "TrigramReaders$Parser" (31 : Nat) "TrigramReaders$Parser" "target" "LTrigramReaders$State;") ∈ LW := LW_mem (mt_1 (List.mem_of_getElem? (i := 221) rfl)) rfl
theorem t1_222 : (Jvm.Cond.fieldLink "TrigramReaders$Parser" (11 : Nat) "TrigramReaders$Parser" "kind" "I") ∈ LW := LW_mem (mt_1 (List.mem_of_getElem? (i := 222) rfl)) rfl
theorem t1_223 : (Jvm.Cond.fieldLink "TrigramReaders$Parser" (15 : Nat) "TrigramReaders$Parser" "tokenStart" "I") ∈ LW := LW_mem (mt_1 (List.mem_of_getElem? (i := 223) rfl)) rfl
theorem t1_224 : (Jvm.Cond.fieldLink "TrigramReaders$Parser" (18 : Nat) "TrigramReaders$Parser" "tokenEnd" "I") ∈ LW := LW_mem (mt_1 (List.mem_of_getElem? (i := 224) rfl)) rfl
theorem t1_225 : (Jvm.Cond.fieldLink "TrigramReaders$Parser" (21 : Nat) "TrigramReaders$Parser" "errorCode" "I") ∈ LW := LW_mem (mt_1 (List.mem_of_getElem? (i := 225) rfl)) rfl
theorem t1_226 : (Jvm.Cond.fieldLink "TrigramReaders" (128 : Nat) "TrigramReaders$Parser" "errorCode" "I") ∈ LW := LW_mem (mt_1 (List.mem_of_getElem? (i := 226) rfl)) rfl
theorem t1_227 : (Jvm.Cond.fieldLink "TrigramReaders$Parser" (24 : Nat) "TrigramReaders$Parser" "errorPosition" "I") ∈ LW := LW_mem (mt_1 (List.mem_of_getElem? (i := 227) rfl)) rfl
theorem t1_228 : (Jvm.Cond.fieldLink "TrigramReaders" (131 : Nat) "TrigramReaders$Parser" "errorPosition" "I") ∈ LW := LW_mem (mt_1 (List.mem_of_getElem? (i := 228) rfl)) rfl
theorem t1_229 : (Jvm.Cond.laysFinal "TrigramReaders$Parser" "TrigramReaders$Parser" "text" "LTrigramReaders$Bytes;") ∈ LW := LW_mem (mt_1 (List.mem_of_getElem? (i := 229) rfl)) rfl
theorem t1_231 : (Jvm.Cond.laysFinal "TrigramReaders$Parser" "TrigramReaders$Parser" "target" "LTrigramReaders$State;") ∈ LW := LW_mem (mt_1 (List.mem_of_getElem? (i := 231) rfl)) rfl
theorem t1_233 : (Jvm.Cond.lays "TrigramReaders$Parser" "TrigramReaders$Parser" "kind" "I") ∈ LW := LW_mem (mt_1 (List.mem_of_getElem? (i := 233) rfl)) rfl
theorem t1_235 : (Jvm.Cond.lays "TrigramReaders$Parser" "TrigramReaders$Parser" "tokenStart" "I") ∈ LW := LW_mem (mt_1 (List.mem_of_getElem? (i := 235) rfl)) rfl
theorem t1_237 : (Jvm.Cond.lays "TrigramReaders$Parser" "TrigramReaders$Parser" "tokenEnd" "I") ∈ LW := LW_mem (mt_1 (List.mem_of_getElem? (i := 237) rfl)) rfl
theorem t1_239 : (Jvm.Cond.lays "TrigramReaders$Parser" "TrigramReaders$Parser" "errorCode" "I") ∈ LW := LW_mem (mt_1 (List.mem_of_getElem? (i := 239) rfl)) rfl
theorem t2_1 : (Jvm.Cond.lays "TrigramReaders$Parser" "TrigramReaders$Parser" "errorPosition" "I") ∈ LW := LW_mem (mt_2 (List.mem_of_getElem? (i := 1) rfl)) rfl
theorem t2_4 : (Jvm.Cond.methodLink "TrigramReaders" (103 : Nat) ({ cls := "TrigramReaders$Parser", name := "parseAll", desc := "()Z" } : Jvm.MethodName)) ∈ LW := LW_mem (mt_2 (List.mem_of_getElem? (i := 4) rfl)) rfl
theorem t2_5 : (Jvm.Cond.instanceMethod ({ cls := "TrigramReaders$Parser", name := "parseAll", desc := "()Z" } : Jvm.MethodName)) ∈ LW := LW_mem (mt_2 (List.mem_of_getElem? (i := 5) rfl)) rfl
theorem t2_6 : (Jvm.Cond.selects "TrigramReaders$Parser" ({ cls := "TrigramReaders$Parser", name := "parseAll", desc := "()Z" } : Jvm.MethodName) ({ cls := "TrigramReaders$Parser", name := "parseAll", desc := "()Z" } : Jvm.MethodName)) ∈ LW := LW_mem (mt_2 (List.mem_of_getElem? (i := 6) rfl)) rfl
theorem t2_7 : (Jvm.Cond.code ({ cls := "TrigramReaders$Parser", name := "parseAll", desc := "()Z" } : Jvm.MethodName) prog_6_method_2_code (3 : Nat) (Option.some Jvm.ClassFile.FieldType.boolean)) ∈ LW := LW_mem (mt_2 (List.mem_of_getElem? (i := 7) rfl)) rfl
theorem t2_8 : (Jvm.Cond.methodLink "TrigramReaders$Parser" (35 : Nat) ({ cls := "TrigramReaders$Parser", name := "next", desc := "()V" } : Jvm.MethodName)) ∈ LW := LW_mem (mt_2 (List.mem_of_getElem? (i := 8) rfl)) rfl
theorem t2_10 : (Jvm.Cond.instanceMethod ({ cls := "TrigramReaders$Parser", name := "next", desc := "()V" } : Jvm.MethodName)) ∈ LW := LW_mem (mt_2 (List.mem_of_getElem? (i := 10) rfl)) rfl
theorem t2_11 : (Jvm.Cond.code ({ cls := "TrigramReaders$Parser", name := "next", desc := "()V" } : Jvm.MethodName) prog_6_method_9_code (2 : Nat) (Option.none : Option Jvm.ClassFile.FieldType)) ∈ LW := LW_mem (mt_2 (List.mem_of_getElem? (i := 11) rfl)) rfl
theorem t2_12 : (Jvm.Cond.methodLink "TrigramReaders$Parser" (134 : Nat) ({ cls := "TrigramReaders$Bytes", name := "at", desc := "(I)I" } : Jvm.MethodName)) ∈ LW := LW_mem (mt_2 (List.mem_of_getElem? (i := 12) rfl)) rfl
theorem t2_13 : (Jvm.Cond.instanceMethod ({ cls := "TrigramReaders$Bytes", name := "at", desc := "(I)I" } : Jvm.MethodName)) ∈ LW := LW_mem (mt_2 (List.mem_of_getElem? (i := 13) rfl)) rfl
theorem t2_14 : (Jvm.Cond.selects "TrigramReaders$Bytes" ({ cls := "TrigramReaders$Bytes", name := "at", desc := "(I)I" } : Jvm.MethodName) ({ cls := "TrigramReaders$Bytes", name := "at", desc := "(I)I" } : Jvm.MethodName)) ∈ LW := LW_mem (mt_2 (List.mem_of_getElem? (i := 14) rfl)) rfl
theorem t2_15 : (Jvm.Cond.code ({ cls := "TrigramReaders$Bytes", name := "at", desc := "(I)I" } : Jvm.MethodName) prog_2_method_6_code (2 : Nat) (Option.some Jvm.ClassFile.FieldType.int)) ∈ LW := LW_mem (mt_2 (List.mem_of_getElem? (i := 15) rfl)) rfl
theorem t2_16 : (Jvm.Cond.methodLink "TrigramReaders$Parser" (139 : Nat) ({ cls := "TrigramReaders$Parser", name := "isBlank", desc := "(I)Z" } : Jvm.MethodName)) ∈ LW := LW_mem (mt_2 (List.mem_of_getElem? (i := 16) rfl)) rfl
theorem t2_17 : (Jvm.Cond.static ({ cls := "TrigramReaders$Parser", name := "isBlank", desc := "(I)Z" } : Jvm.MethodName)) ∈ LW := LW_mem (mt_2 (List.mem_of_getElem? (i := 17) rfl)) rfl
theorem t2_18 : (Jvm.Cond.code ({ cls := "TrigramReaders$Parser", name := "isBlank", desc := "(I)Z" } : Jvm.MethodName) prog_6_method_10_code (1 : Nat) (Option.some Jvm.ClassFile.FieldType.boolean)) ∈ LW := LW_mem (mt_2 (List.mem_of_getElem? (i := 18) rfl)) rfl
theorem t2_19 : (Jvm.Cond.methodLink "TrigramReaders$Parser" (142 : Nat) ({ cls := "TrigramReaders$Parser", name := "kindOf", desc := "(I)I" } : Jvm.MethodName)) ∈ LW := LW_mem (mt_2 (List.mem_of_getElem? (i := 19) rfl)) rfl
theorem t2_20 : (Jvm.Cond.static ({ cls := "TrigramReaders$Parser", name := "kindOf", desc := "(I)I" } : Jvm.MethodName)) ∈ LW := LW_mem (mt_2 (List.mem_of_getElem? (i := 20) rfl)) rfl
theorem t2_21 : (Jvm.Cond.code ({ cls := "TrigramReaders$Parser", name := "kindOf", desc := "(I)I" } : Jvm.MethodName) prog_6_method_11_code (1 : Nat) (Option.some Jvm.ClassFile.FieldType.int)) ∈ LW := LW_mem (mt_2 (List.mem_of_getElem? (i := 21) rfl)) rfl
theorem t2_23 : (Jvm.Cond.static ({ cls := "TrigramReaders", name := "isLetter", desc := "(I)Z" } : Jvm.MethodName)) ∈ LW := LW_mem (mt_2 (List.mem_of_getElem? (i := 23) rfl)) rfl
theorem t2_24 : (Jvm.Cond.code ({ cls := "TrigramReaders", name := "isLetter", desc := "(I)Z" } : Jvm.MethodName) prog_1_method_87_code (1 : Nat) (Option.some Jvm.ClassFile.FieldType.boolean)) ∈ LW := LW_mem (mt_2 (List.mem_of_getElem? (i := 24) rfl)) rfl
theorem t2_26 : (Jvm.Cond.static ({ cls := "TrigramReaders", name := "isDigit", desc := "(I)Z" } : Jvm.MethodName)) ∈ LW := LW_mem (mt_2 (List.mem_of_getElem? (i := 26) rfl)) rfl
theorem t2_27 : (Jvm.Cond.code ({ cls := "TrigramReaders", name := "isDigit", desc := "(I)Z" } : Jvm.MethodName) prog_1_method_86_code (1 : Nat) (Option.some Jvm.ClassFile.FieldType.boolean)) ∈ LW := LW_mem (mt_2 (List.mem_of_getElem? (i := 27) rfl)) rfl
theorem t2_29 : (Jvm.Cond.methodLink "TrigramReaders$Parser" (40 : Nat) ({ cls := "TrigramReaders$Parser", name := "isWord", desc := "(Ljava/lang/String;)Z" } : Jvm.MethodName)) ∈ LW := LW_mem (mt_2 (List.mem_of_getElem? (i := 29) rfl)) rfl
theorem t2_31 : (Jvm.Cond.instanceMethod ({ cls := "TrigramReaders$Parser", name := "isWord", desc := "(Ljava/lang/String;)Z" } : Jvm.MethodName)) ∈ LW := LW_mem (mt_2 (List.mem_of_getElem? (i := 31) rfl)) rfl
theorem t2_32 : (Jvm.Cond.code ({ cls := "TrigramReaders$Parser", name := "isWord", desc := "(Ljava/lang/String;)Z" } : Jvm.MethodName) prog_6_method_12_code (4 : Nat) (Option.some Jvm.ClassFile.FieldType.boolean)) ∈ LW := LW_mem (mt_2 (List.mem_of_getElem? (i := 32) rfl)) rfl
theorem t2_33 : (Jvm.Cond.methodLink "TrigramReaders$Parser" (151 : Nat) ({ cls := "java/lang/String", name := "length", desc := "()I" } : Jvm.MethodName)) ∈ LW := LW_mem (mt_2 (List.mem_of_getElem? (i := 33) rfl)) rfl
theorem t2_34 : (Jvm.Cond.methodLink "TrigramReaders$Parser" (155 : Nat) ({ cls := "java/lang/String", name := "charAt", desc := "(I)C" } : Jvm.MethodName)) ∈ LW := LW_mem (mt_2 (List.mem_of_getElem? (i := 34) rfl)) rfl
theorem t2_35 : (Jvm.Cond.methodLink "TrigramReaders$Parser" (44 : Nat) ({ cls := "TrigramReaders$Parser", name := "parseReader", desc := "()Z" } : Jvm.MethodName)) ∈ LW := LW_mem (mt_2 (List.mem_of_getElem? (i := 35) rfl)) rfl
theorem t2_37 : (Jvm.Cond.instanceMethod ({ cls := "TrigramReaders$Parser", name := "parseReader", desc := "()Z" } : Jvm.MethodName)) ∈ LW := LW_mem (mt_2 (List.mem_of_getElem? (i := 37) rfl)) rfl
theorem t2_38 : (Jvm.Cond.code ({ cls := "TrigramReaders$Parser", name := "parseReader", desc := "()Z" } : Jvm.MethodName) prog_6_method_3_code (4 : Nat) (Option.some Jvm.ClassFile.FieldType.boolean)) ∈ LW := LW_mem (mt_2 (List.mem_of_getElem? (i := 38) rfl)) rfl
theorem t2_39 : (Jvm.Cond.methodLink "TrigramReaders$Parser" (63 : Nat) ({ cls := "TrigramReaders$Parser", name := "fail", desc := "(I)Z" } : Jvm.MethodName)) ∈ LW := LW_mem (mt_2 (List.mem_of_getElem? (i := 39) rfl)) rfl
theorem t2_41 : (Jvm.Cond.instanceMethod ({ cls := "TrigramReaders$Parser", name := "fail", desc := "(I)Z" } : Jvm.MethodName)) ∈ LW := LW_mem (mt_2 (List.mem_of_getElem? (i := 41) rfl)) rfl
theorem t2_42 : (Jvm.Cond.code ({ cls := "TrigramReaders$Parser", name := "fail", desc := "(I)Z" } : Jvm.MethodName) prog_6_method_8_code (2 : Nat) (Option.some Jvm.ClassFile.FieldType.boolean)) ∈ LW := LW_mem (mt_2 (List.mem_of_getElem? (i := 42) rfl)) rfl
theorem t2_43 : (Jvm.Cond.methodLink "TrigramReaders$Parser" (72 : Nat) ({ cls := "TrigramReaders$Bytes", name := "isName", desc := "(II)Z" } : Jvm.MethodName)) ∈ LW := LW_mem (mt_2 (List.mem_of_getElem? (i := 43) rfl)) rfl
theorem t2_44 : (Jvm.Cond.instanceMethod ({ cls := "TrigramReaders$Bytes", name := "isName", desc := "(II)Z" } : Jvm.MethodName)) ∈ LW := LW_mem (mt_2 (List.mem_of_getElem? (i := 44) rfl)) rfl
theorem t2_45 : (Jvm.Cond.selects "TrigramReaders$Bytes" ({ cls := "TrigramReaders$Bytes", name := "isName", desc := "(II)Z" } : Jvm.MethodName) ({ cls := "TrigramReaders$Bytes", name := "isName", desc := "(II)Z" } : Jvm.MethodName)) ∈ LW := LW_mem (mt_2 (List.mem_of_getElem? (i := 45) rfl)) rfl
theorem t2_46 : (Jvm.Cond.code ({ cls := "TrigramReaders$Bytes", name := "isName", desc := "(II)Z" } : Jvm.MethodName) prog_2_method_7_code (5 : Nat) (Option.some Jvm.ClassFile.FieldType.boolean)) ∈ LW := LW_mem (mt_2 (List.mem_of_getElem? (i := 46) rfl)) rfl
theorem t2_47 : (Jvm.Cond.methodLink "TrigramReaders$Bytes" (23 : Nat) ({ cls := "TrigramReaders$Bytes", name := "at", desc := "(I)I" } : Jvm.MethodName)) ∈ LW := LW_mem (mt_2 (List.mem_of_getElem? (i := 47) rfl)) rfl
theorem t2_49 : (Jvm.Cond.methodLink "TrigramReaders$Parser" (78 : Nat) ({ cls := "TrigramReaders$State", name := "readerNamed", desc := "(LTrigramReaders$Bytes;II)LTrigramReaders$Reader;" } : Jvm.MethodName)) ∈ LW := LW_mem (mt_2 (List.mem_of_getElem? (i := 49) rfl)) rfl
theorem t2_50 : (Jvm.Cond.instanceMethod ({ cls := "TrigramReaders$State", name := "readerNamed", desc := "(LTrigramReaders$Bytes;II)LTrigramReaders$Reader;" } : Jvm.MethodName)) ∈ LW := LW_mem (mt_2 (List.mem_of_getElem? (i := 50) rfl)) rfl
theorem t2_51 : (Jvm.Cond.selects "TrigramReaders$State" ({ cls := "TrigramReaders$State", name := "readerNamed", desc := "(LTrigramReaders$Bytes;II)LTrigramReaders$Reader;" } : Jvm.MethodName) ({ cls := "TrigramReaders$State", name := "readerNamed", desc := "(LTrigramReaders$Bytes;II)LTrigramReaders$Reader;" } : Jvm.MethodName)) ∈ LW := LW_mem (mt_2 (List.mem_of_getElem? (i := 51) rfl)) rfl
theorem t2_52 : (Jvm.Cond.code ({ cls := "TrigramReaders$State", name := "readerNamed", desc := "(LTrigramReaders$Bytes;II)LTrigramReaders$Reader;" } : Jvm.MethodName) prog_9_method_4_code (5 : Nat) (Option.some (Jvm.ClassFile.FieldType.object "TrigramReaders$Reader"))) ∈ LW := LW_mem (mt_2 (List.mem_of_getElem? (i := 52) rfl)) rfl
theorem t2_53 : (Jvm.Cond.methodLink "TrigramReaders$State" (42 : Nat) ({ cls := "TrigramReaders$Reader", name := "isNamed", desc := "(LTrigramReaders$Bytes;II)Z" } : Jvm.MethodName)) ∈ LW := LW_mem (mt_2 (List.mem_of_getElem? (i := 53) rfl)) rfl
theorem t2_54 : (Jvm.Cond.instanceMethod ({ cls := "TrigramReaders$Reader", name := "isNamed", desc := "(LTrigramReaders$Bytes;II)Z" } : Jvm.MethodName)) ∈ LW := LW_mem (mt_2 (List.mem_of_getElem? (i := 54) rfl)) rfl
theorem t2_55 : (Jvm.Cond.selects "TrigramReaders$Reader" ({ cls := "TrigramReaders$Reader", name := "isNamed", desc := "(LTrigramReaders$Bytes;II)Z" } : Jvm.MethodName) ({ cls := "TrigramReaders$Reader", name := "isNamed", desc := "(LTrigramReaders$Bytes;II)Z" } : Jvm.MethodName)) ∈ LW := LW_mem (mt_2 (List.mem_of_getElem? (i := 55) rfl)) rfl
theorem t2_56 : (Jvm.Cond.code ({ cls := "TrigramReaders$Reader", name := "isNamed", desc := "(LTrigramReaders$Bytes;II)Z" } : Jvm.MethodName) prog_8_method_6_code (6 : Nat) (Option.some Jvm.ClassFile.FieldType.boolean)) ∈ LW := LW_mem (mt_2 (List.mem_of_getElem? (i := 56) rfl)) rfl
theorem t2_57 : (Jvm.Cond.methodLink "TrigramReaders$Reader" (57 : Nat) ({ cls := "TrigramReaders$Reader", name := "nameAt", desc := "(I)I" } : Jvm.MethodName)) ∈ LW := LW_mem (mt_2 (List.mem_of_getElem? (i := 57) rfl)) rfl
theorem t2_58 : (Jvm.Cond.instanceMethod ({ cls := "TrigramReaders$Reader", name := "nameAt", desc := "(I)I" } : Jvm.MethodName)) ∈ LW := LW_mem (mt_2 (List.mem_of_getElem? (i := 58) rfl)) rfl
theorem t2_59 : (Jvm.Cond.selects "TrigramReaders$Reader" ({ cls := "TrigramReaders$Reader", name := "nameAt", desc := "(I)I" } : Jvm.MethodName) ({ cls := "TrigramReaders$Reader", name := "nameAt", desc := "(I)I" } : Jvm.MethodName)) ∈ LW := LW_mem (mt_2 (List.mem_of_getElem? (i := 59) rfl)) rfl
theorem t2_60 : (Jvm.Cond.code ({ cls := "TrigramReaders$Reader", name := "nameAt", desc := "(I)I" } : Jvm.MethodName) prog_8_method_5_code (2 : Nat) (Option.some Jvm.ClassFile.FieldType.int)) ∈ LW := LW_mem (mt_2 (List.mem_of_getElem? (i := 60) rfl)) rfl
theorem t2_61 : (Jvm.Cond.methodLink "TrigramReaders$Reader" (45 : Nat) ({ cls := "TrigramReaders$Bytes", name := "at", desc := "(I)I" } : Jvm.MethodName)) ∈ LW := LW_mem (mt_2 (List.mem_of_getElem? (i := 61) rfl)) rfl
theorem t2_62 : (Jvm.Cond.methodLink "TrigramReaders$Parser" (82 : Nat) ({ cls := "TrigramReaders$Parser", name := "methodWord", desc := "()I" } : Jvm.MethodName)) ∈ LW := LW_mem (mt_2 (List.mem_of_getElem? (i := 62) rfl)) rfl
theorem t2_64 : (Jvm.Cond.instanceMethod ({ cls := "TrigramReaders$Parser", name := "methodWord", desc := "()I" } : Jvm.MethodName)) ∈ LW := LW_mem (mt_2 (List.mem_of_getElem? (i := 64) rfl)) rfl
theorem t2_65 : (Jvm.Cond.code ({ cls := "TrigramReaders$Parser", name := "methodWord", desc := "()I" } : Jvm.MethodName) prog_6_method_13_code (1 : Nat) (Option.some Jvm.ClassFile.FieldType.int)) ∈ LW := LW_mem (mt_2 (List.mem_of_getElem? (i := 65) rfl)) rfl
theorem t2_69 : (Jvm.Cond.methodLink "TrigramReaders$Parser" (86 : Nat) ({ cls := "TrigramReaders$Parser", name := "parseSemicolon", desc := "()Z" } : Jvm.MethodName)) ∈ LW := LW_mem (mt_2 (List.mem_of_getElem? (i := 69) rfl)) rfl
theorem t2_71 : (Jvm.Cond.instanceMethod ({ cls := "TrigramReaders$Parser", name := "parseSemicolon", desc := "()Z" } : Jvm.MethodName)) ∈ LW := LW_mem (mt_2 (List.mem_of_getElem? (i := 71) rfl)) rfl
theorem t2_72 : (Jvm.Cond.code ({ cls := "TrigramReaders$Parser", name := "parseSemicolon", desc := "()Z" } : Jvm.MethodName) prog_6_method_7_code (1 : Nat) (Option.some Jvm.ClassFile.FieldType.boolean)) ∈ LW := LW_mem (mt_2 (List.mem_of_getElem? (i := 72) rfl)) rfl
theorem t2_73 : (Jvm.Cond.methodLink "TrigramReaders$Parser" (89 : Nat) ({ cls := "TrigramReaders$State", name := "putReader", desc := "(LTrigramReaders$Bytes;III)V" } : Jvm.MethodName)) ∈ LW := LW_mem (mt_2 (List.mem_of_getElem? (i := 73) rfl)) rfl
theorem t2_74 : (Jvm.Cond.instanceMethod ({ cls := "TrigramReaders$State", name := "putReader", desc := "(LTrigramReaders$Bytes;III)V" } : Jvm.MethodName)) ∈ LW := LW_mem (mt_2 (List.mem_of_getElem? (i := 74) rfl)) rfl
theorem t2_75 : (Jvm.Cond.selects "TrigramReaders$State" ({ cls := "TrigramReaders$State", name := "putReader", desc := "(LTrigramReaders$Bytes;III)V" } : Jvm.MethodName) ({ cls := "TrigramReaders$State", name := "putReader", desc := "(LTrigramReaders$Bytes;III)V" } : Jvm.MethodName)) ∈ LW := LW_mem (mt_2 (List.mem_of_getElem? (i := 75) rfl)) rfl
theorem t2_76 : (Jvm.Cond.code ({ cls := "TrigramReaders$State", name := "putReader", desc := "(LTrigramReaders$Bytes;III)V" } : Jvm.MethodName) prog_9_method_7_code (5 : Nat) (Option.none : Option Jvm.ClassFile.FieldType)) ∈ LW := LW_mem (mt_2 (List.mem_of_getElem? (i := 76) rfl)) rfl
theorem t2_77 : (Jvm.Cond.methodLink "TrigramReaders$State" (46 : Nat) ({ cls := "TrigramReaders$Reader", name := "begin", desc := "(LTrigramReaders$Bytes;III)V" } : Jvm.MethodName)) ∈ LW := LW_mem (mt_2 (List.mem_of_getElem? (i := 77) rfl)) rfl
theorem t2_78 : (Jvm.Cond.instanceMethod ({ cls := "TrigramReaders$Reader", name := "begin", desc := "(LTrigramReaders$Bytes;III)V" } : Jvm.MethodName)) ∈ LW := LW_mem (mt_2 (List.mem_of_getElem? (i := 78) rfl)) rfl
theorem t2_79 : (Jvm.Cond.selects "TrigramReaders$Reader" ({ cls := "TrigramReaders$Reader", name := "begin", desc := "(LTrigramReaders$Bytes;III)V" } : Jvm.MethodName) ({ cls := "TrigramReaders$Reader", name := "begin", desc := "(LTrigramReaders$Bytes;III)V" } : Jvm.MethodName)) ∈ LW := LW_mem (mt_2 (List.mem_of_getElem? (i := 79) rfl)) rfl
theorem t2_80 : (Jvm.Cond.code ({ cls := "TrigramReaders$Reader", name := "begin", desc := "(LTrigramReaders$Bytes;III)V" } : Jvm.MethodName) prog_8_method_3_code (6 : Nat) (Option.none : Option Jvm.ClassFile.FieldType)) ∈ LW := LW_mem (mt_2 (List.mem_of_getElem? (i := 80) rfl)) rfl
theorem t2_81 : (Jvm.Cond.methodLink "TrigramReaders$Reader" (51 : Nat) ({ cls := "TrigramReaders$Reader", name := "clearTrainings", desc := "()V" } : Jvm.MethodName)) ∈ LW := LW_mem (mt_2 (List.mem_of_getElem? (i := 81) rfl)) rfl
theorem t2_82 : (Jvm.Cond.instanceMethod ({ cls := "TrigramReaders$Reader", name := "clearTrainings", desc := "()V" } : Jvm.MethodName)) ∈ LW := LW_mem (mt_2 (List.mem_of_getElem? (i := 82) rfl)) rfl
theorem t2_83 : (Jvm.Cond.selects "TrigramReaders$Reader" ({ cls := "TrigramReaders$Reader", name := "clearTrainings", desc := "()V" } : Jvm.MethodName) ({ cls := "TrigramReaders$Reader", name := "clearTrainings", desc := "()V" } : Jvm.MethodName)) ∈ LW := LW_mem (mt_2 (List.mem_of_getElem? (i := 83) rfl)) rfl
theorem t2_84 : (Jvm.Cond.code ({ cls := "TrigramReaders$Reader", name := "clearTrainings", desc := "()V" } : Jvm.MethodName) prog_8_method_4_code (2 : Nat) (Option.none : Option Jvm.ClassFile.FieldType)) ∈ LW := LW_mem (mt_2 (List.mem_of_getElem? (i := 84) rfl)) rfl
theorem t2_86 : (Jvm.Cond.methodLink "TrigramReaders$Parser" (50 : Nat) ({ cls := "TrigramReaders$Parser", name := "parseDocument", desc := "()Z" } : Jvm.MethodName)) ∈ LW := LW_mem (mt_2 (List.mem_of_getElem? (i := 86) rfl)) rfl
theorem t2_88 : (Jvm.Cond.instanceMethod ({ cls := "TrigramReaders$Parser", name := "parseDocument", desc := "()Z" } : Jvm.MethodName)) ∈ LW := LW_mem (mt_2 (List.mem_of_getElem? (i := 88) rfl)) rfl
theorem t2_89 : (Jvm.Cond.code ({ cls := "TrigramReaders$Parser", name := "parseDocument", desc := "()Z" } : Jvm.MethodName) prog_6_method_4_code (3 : Nat) (Option.some Jvm.ClassFile.FieldType.boolean)) ∈ LW := LW_mem (mt_2 (List.mem_of_getElem? (i := 89) rfl)) rfl
theorem t2_90 : (Jvm.Cond.methodLink "TrigramReaders$Parser" (96 : Nat) ({ cls := "TrigramReaders$Bytes", name := "isDocument", desc := "(II)Z" } : Jvm.MethodName)) ∈ LW := LW_mem (mt_2 (List.mem_of_getElem? (i := 90) rfl)) rfl
theorem t2_91 : (Jvm.Cond.instanceMethod ({ cls := "TrigramReaders$Bytes", name := "isDocument", desc := "(II)Z" } : Jvm.MethodName)) ∈ LW := LW_mem (mt_2 (List.mem_of_getElem? (i := 91) rfl)) rfl
theorem t2_92 : (Jvm.Cond.selects "TrigramReaders$Bytes" ({ cls := "TrigramReaders$Bytes", name := "isDocument", desc := "(II)Z" } : Jvm.MethodName) ({ cls := "TrigramReaders$Bytes", name := "isDocument", desc := "(II)Z" } : Jvm.MethodName)) ∈ LW := LW_mem (mt_2 (List.mem_of_getElem? (i := 92) rfl)) rfl
theorem t2_93 : (Jvm.Cond.code ({ cls := "TrigramReaders$Bytes", name := "isDocument", desc := "(II)Z" } : Jvm.MethodName) prog_2_method_8_code (5 : Nat) (Option.some Jvm.ClassFile.FieldType.boolean)) ∈ LW := LW_mem (mt_2 (List.mem_of_getElem? (i := 93) rfl)) rfl
theorem t2_94 : (Jvm.Cond.methodLink "TrigramReaders$Parser" (99 : Nat) ({ cls := "TrigramReaders$State", name := "putDocument", desc := "(LTrigramReaders$Bytes;II)V" } : Jvm.MethodName)) ∈ LW := LW_mem (mt_2 (List.mem_of_getElem? (i := 94) rfl)) rfl
theorem t2_95 : (Jvm.Cond.instanceMethod ({ cls := "TrigramReaders$State", name := "putDocument", desc := "(LTrigramReaders$Bytes;II)V" } : Jvm.MethodName)) ∈ LW := LW_mem (mt_2 (List.mem_of_getElem? (i := 95) rfl)) rfl
theorem t2_96 : (Jvm.Cond.selects "TrigramReaders$State" ({ cls := "TrigramReaders$State", name := "putDocument", desc := "(LTrigramReaders$Bytes;II)V" } : Jvm.MethodName) ({ cls := "TrigramReaders$State", name := "putDocument", desc := "(LTrigramReaders$Bytes;II)V" } : Jvm.MethodName)) ∈ LW := LW_mem (mt_2 (List.mem_of_getElem? (i := 96) rfl)) rfl
theorem t2_97 : (Jvm.Cond.code ({ cls := "TrigramReaders$State", name := "putDocument", desc := "(LTrigramReaders$Bytes;II)V" } : Jvm.MethodName) prog_9_method_8_code (4 : Nat) (Option.none : Option Jvm.ClassFile.FieldType)) ∈ LW := LW_mem (mt_2 (List.mem_of_getElem? (i := 97) rfl)) rfl
theorem t2_98 : (Jvm.Cond.methodLink "TrigramReaders$State" (50 : Nat) ({ cls := "TrigramReaders$Document", name := "take", desc := "(LTrigramReaders$Bytes;III)V" } : Jvm.MethodName)) ∈ LW := LW_mem (mt_2 (List.mem_of_getElem? (i := 98) rfl)) rfl
theorem t2_99 : (Jvm.Cond.instanceMethod ({ cls := "TrigramReaders$Document", name := "take", desc := "(LTrigramReaders$Bytes;III)V" } : Jvm.MethodName)) ∈ LW := LW_mem (mt_2 (List.mem_of_getElem? (i := 99) rfl)) rfl
theorem t2_100 : (Jvm.Cond.selects "TrigramReaders$Document" ({ cls := "TrigramReaders$Document", name := "take", desc := "(LTrigramReaders$Bytes;III)V" } : Jvm.MethodName) ({ cls := "TrigramReaders$Document", name := "take", desc := "(LTrigramReaders$Bytes;III)V" } : Jvm.MethodName)) ∈ LW := LW_mem (mt_2 (List.mem_of_getElem? (i := 100) rfl)) rfl
theorem t2_101 : (Jvm.Cond.code ({ cls := "TrigramReaders$Document", name := "take", desc := "(LTrigramReaders$Bytes;III)V" } : Jvm.MethodName) prog_5_method_3_code (7 : Nat) (Option.none : Option Jvm.ClassFile.FieldType)) ∈ LW := LW_mem (mt_2 (List.mem_of_getElem? (i := 101) rfl)) rfl
theorem t2_102 : (Jvm.Cond.methodLink "TrigramReaders$Document" (28 : Nat) ({ cls := "TrigramReaders$Bytes", name := "at", desc := "(I)I" } : Jvm.MethodName)) ∈ LW := LW_mem (mt_2 (List.mem_of_getElem? (i := 102) rfl)) rfl
theorem t2_105 : (Jvm.Cond.methodLink "TrigramReaders$Parser" (55 : Nat) ({ cls := "TrigramReaders$Parser", name := "parseTrain", desc := "()Z" } : Jvm.MethodName)) ∈ LW := LW_mem (mt_2 (List.mem_of_getElem? (i := 105) rfl)) rfl
theorem t2_107 : (Jvm.Cond.instanceMethod ({ cls := "TrigramReaders$Parser", name := "parseTrain", desc := "()Z" } : Jvm.MethodName)) ∈ LW := LW_mem (mt_2 (List.mem_of_getElem? (i := 107) rfl)) rfl
theorem t2_108 : (Jvm.Cond.code ({ cls := "TrigramReaders$Parser", name := "parseTrain", desc := "()Z" } : Jvm.MethodName) prog_6_method_5_code (4 : Nat) (Option.some Jvm.ClassFile.FieldType.boolean)) ∈ LW := LW_mem (mt_2 (List.mem_of_getElem? (i := 108) rfl)) rfl
theorem t2_109 : (Jvm.Cond.methodLink "TrigramReaders$Parser" (103 : Nat) ({ cls := "TrigramReaders$Parser", name := "numberValue", desc := "()I" } : Jvm.MethodName)) ∈ LW := LW_mem (mt_2 (List.mem_of_getElem? (i := 109) rfl)) rfl
theorem t2_111 : (Jvm.Cond.instanceMethod ({ cls := "TrigramReaders$Parser", name := "numberValue", desc := "()I" } : Jvm.MethodName)) ∈ LW := LW_mem (mt_2 (List.mem_of_getElem? (i := 111) rfl)) rfl
theorem t2_112 : (Jvm.Cond.code ({ cls := "TrigramReaders$Parser", name := "numberValue", desc := "()I" } : Jvm.MethodName) prog_6_method_14_code (3 : Nat) (Option.some Jvm.ClassFile.FieldType.int)) ∈ LW := LW_mem (mt_2 (List.mem_of_getElem? (i := 112) rfl)) rfl
theorem t2_114 : (Jvm.Cond.static ({ cls := "TrigramReaders", name := "withDigit", desc := "(II)I" } : Jvm.MethodName)) ∈ LW := LW_mem (mt_2 (List.mem_of_getElem? (i := 114) rfl)) rfl
theorem t2_115 : (Jvm.Cond.code ({ cls := "TrigramReaders", name := "withDigit", desc := "(II)I" } : Jvm.MethodName) prog_1_method_88_code (2 : Nat) (Option.some Jvm.ClassFile.FieldType.int)) ∈ LW := LW_mem (mt_2 (List.mem_of_getElem? (i := 115) rfl)) rfl
theorem t2_116 : (Jvm.Cond.methodLink "TrigramReaders" (356 : Nat) ({ cls := "java/lang/Math", name := "min", desc := "(II)I" } : Jvm.MethodName)) ∈ LW := LW_mem (mt_2 (List.mem_of_getElem? (i := 116) rfl)) rfl
theorem t2_117 : (Jvm.Cond.static ({ cls := "java/lang/Math", name := "min", desc := "(II)I" } : Jvm.MethodName)) ∈ LW := LW_mem (mt_2 (List.mem_of_getElem? (i := 117) rfl)) rfl
theorem t2_118 : (Jvm.Cond.code ({ cls := "java/lang/Math", name := "min", desc := "(II)I" } : Jvm.MethodName) prog_23_method_69_code (2 : Nat) (Option.some Jvm.ClassFile.FieldType.int)) ∈ LW := LW_mem (mt_2 (List.mem_of_getElem? (i := 118) rfl)) rfl
theorem t2_119 : (Jvm.Cond.methodLink "TrigramReaders$Parser" (106 : Nat) ({ cls := "TrigramReaders$State", name := "documentAt", desc := "(I)LTrigramReaders$Document;" } : Jvm.MethodName)) ∈ LW := LW_mem (mt_2 (List.mem_of_getElem? (i := 119) rfl)) rfl
theorem t2_120 : (Jvm.Cond.instanceMethod ({ cls := "TrigramReaders$State", name := "documentAt", desc := "(I)LTrigramReaders$Document;" } : Jvm.MethodName)) ∈ LW := LW_mem (mt_2 (List.mem_of_getElem? (i := 120) rfl)) rfl
theorem t2_121 : (Jvm.Cond.selects "TrigramReaders$State" ({ cls := "TrigramReaders$State", name := "documentAt", desc := "(I)LTrigramReaders$Document;" } : Jvm.MethodName) ({ cls := "TrigramReaders$State", name := "documentAt", desc := "(I)LTrigramReaders$Document;" } : Jvm.MethodName)) ∈ LW := LW_mem (mt_2 (List.mem_of_getElem? (i := 121) rfl)) rfl
theorem t2_122 : (Jvm.Cond.code ({ cls := "TrigramReaders$State", name := "documentAt", desc := "(I)LTrigramReaders$Document;" } : Jvm.MethodName) prog_9_method_6_code (2 : Nat) (Option.some (Jvm.ClassFile.FieldType.object "TrigramReaders$Document"))) ∈ LW := LW_mem (mt_2 (List.mem_of_getElem? (i := 122) rfl)) rfl
theorem t2_123 : (Jvm.Cond.methodLink "TrigramReaders$Parser" (116 : Nat) ({ cls := "TrigramReaders$Counts", name := "countDocument", desc := "(LTrigramReaders$Document;)V" } : Jvm.MethodName)) ∈ LW := LW_mem (mt_2 (List.mem_of_getElem? (i := 123) rfl)) rfl
theorem t2_124 : (Jvm.Cond.instanceMethod ({ cls := "TrigramReaders$Counts", name := "countDocument", desc := "(LTrigramReaders$Document;)V" } : Jvm.MethodName)) ∈ LW := LW_mem (mt_2 (List.mem_of_getElem? (i := 124) rfl)) rfl
theorem t2_125 : (Jvm.Cond.selects "TrigramReaders$Counts" ({ cls := "TrigramReaders$Counts", name := "countDocument", desc := "(LTrigramReaders$Document;)V" } : Jvm.MethodName) ({ cls := "TrigramReaders$Counts", name := "countDocument", desc := "(LTrigramReaders$Document;)V" } : Jvm.MethodName)) ∈ LW := LW_mem (mt_2 (List.mem_of_getElem? (i := 125) rfl)) rfl
theorem t2_126 : (Jvm.Cond.code ({ cls := "TrigramReaders$Counts", name := "countDocument", desc := "(LTrigramReaders$Document;)V" } : Jvm.MethodName) prog_4_method_8_code (3 : Nat) (Option.none : Option Jvm.ClassFile.FieldType)) ∈ LW := LW_mem (mt_2 (List.mem_of_getElem? (i := 126) rfl)) rfl
theorem t2_127 : (Jvm.Cond.methodLink "TrigramReaders$Counts" (57 : Nat) ({ cls := "TrigramReaders$Counts", name := "countPosition", desc := "(LTrigramReaders$Document;I)V" } : Jvm.MethodName)) ∈ LW := LW_mem (mt_2 (List.mem_of_getElem? (i := 127) rfl)) rfl
theorem t2_128 : (Jvm.Cond.instanceMethod ({ cls := "TrigramReaders$Counts", name := "countPosition", desc := "(LTrigramReaders$Document;I)V" } : Jvm.MethodName)) ∈ LW := LW_mem (mt_2 (List.mem_of_getElem? (i := 128) rfl)) rfl
theorem t2_129 : (Jvm.Cond.selects "TrigramReaders$Counts" ({ cls := "TrigramReaders$Counts", name := "countPosition", desc := "(LTrigramReaders$Document;I)V" } : Jvm.MethodName) ({ cls := "TrigramReaders$Counts", name := "countPosition", desc := "(LTrigramReaders$Document;I)V" } : Jvm.MethodName)) ∈ LW := LW_mem (mt_2 (List.mem_of_getElem? (i := 129) rfl)) rfl
theorem t2_130 : (Jvm.Cond.code ({ cls := "TrigramReaders$Counts", name := "countPosition", desc := "(LTrigramReaders$Document;I)V" } : Jvm.MethodName) prog_4_method_7_code (6 : Nat) (Option.none : Option Jvm.ClassFile.FieldType)) ∈ LW := LW_mem (mt_2 (List.mem_of_getElem? (i := 130) rfl)) rfl
theorem t2_131 : (Jvm.Cond.methodLink "TrigramReaders$Counts" (42 : Nat) ({ cls := "TrigramReaders$Document", name := "symbolAt", desc := "(I)I" } : Jvm.MethodName)) ∈ LW := LW_mem (mt_2 (List.mem_of_getElem? (i := 131) rfl)) rfl
theorem t2_132 : (Jvm.Cond.instanceMethod ({ cls := "TrigramReaders$Document", name := "symbolAt", desc := "(I)I" } : Jvm.MethodName)) ∈ LW := LW_mem (mt_2 (List.mem_of_getElem? (i := 132) rfl)) rfl
theorem t2_133 : (Jvm.Cond.selects "TrigramReaders$Document" ({ cls := "TrigramReaders$Document", name := "symbolAt", desc := "(I)I" } : Jvm.MethodName) ({ cls := "TrigramReaders$Document", name := "symbolAt", desc := "(I)I" } : Jvm.MethodName)) ∈ LW := LW_mem (mt_2 (List.mem_of_getElem? (i := 133) rfl)) rfl
theorem t2_134 : (Jvm.Cond.code ({ cls := "TrigramReaders$Document", name := "symbolAt", desc := "(I)I" } : Jvm.MethodName) prog_5_method_4_code (2 : Nat) (Option.some Jvm.ClassFile.FieldType.int)) ∈ LW := LW_mem (mt_2 (List.mem_of_getElem? (i := 134) rfl)) rfl
theorem t2_136 : (Jvm.Cond.static ({ cls := "TrigramReaders", name := "firstOrder", desc := "(II)I" } : Jvm.MethodName)) ∈ LW := LW_mem (mt_2 (List.mem_of_getElem? (i := 136) rfl)) rfl
theorem t2_137 : (Jvm.Cond.code ({ cls := "TrigramReaders", name := "firstOrder", desc := "(II)I" } : Jvm.MethodName) prog_1_method_73_code (2 : Nat) (Option.some Jvm.ClassFile.FieldType.int)) ∈ LW := LW_mem (mt_2 (List.mem_of_getElem? (i := 137) rfl)) rfl
theorem t2_139 : (Jvm.Cond.static ({ cls := "TrigramReaders", name := "contextStart", desc := "(III)I" } : Jvm.MethodName)) ∈ LW := LW_mem (mt_2 (List.mem_of_getElem? (i := 139) rfl)) rfl
theorem t2_140 : (Jvm.Cond.code ({ cls := "TrigramReaders", name := "contextStart", desc := "(III)I" } : Jvm.MethodName) prog_1_method_74_code (3 : Nat) (Option.some Jvm.ClassFile.FieldType.int)) ∈ LW := LW_mem (mt_2 (List.mem_of_getElem? (i := 140) rfl)) rfl
theorem t2_141 : (Jvm.Cond.methodLink "TrigramReaders$Counts" (38 : Nat) ({ cls := "TrigramReaders$Counts", name := "add", desc := "(II)V" } : Jvm.MethodName)) ∈ LW := LW_mem (mt_2 (List.mem_of_getElem? (i := 141) rfl)) rfl
theorem t2_142 : (Jvm.Cond.instanceMethod ({ cls := "TrigramReaders$Counts", name := "add", desc := "(II)V" } : Jvm.MethodName)) ∈ LW := LW_mem (mt_2 (List.mem_of_getElem? (i := 142) rfl)) rfl
theorem t2_143 : (Jvm.Cond.selects "TrigramReaders$Counts" ({ cls := "TrigramReaders$Counts", name := "add", desc := "(II)V" } : Jvm.MethodName) ({ cls := "TrigramReaders$Counts", name := "add", desc := "(II)V" } : Jvm.MethodName)) ∈ LW := LW_mem (mt_2 (List.mem_of_getElem? (i := 143) rfl)) rfl
theorem t2_144 : (Jvm.Cond.code ({ cls := "TrigramReaders$Counts", name := "add", desc := "(II)V" } : Jvm.MethodName) prog_4_method_5_code (4 : Nat) (Option.none : Option Jvm.ClassFile.FieldType)) ∈ LW := LW_mem (mt_2 (List.mem_of_getElem? (i := 144) rfl)) rfl
theorem t2_145 : (Jvm.Cond.methodLink "TrigramReaders$Counts" (28 : Nat) ({ cls := "TrigramReaders$Counts", name := "placeOf", desc := "(I)I" } : Jvm.MethodName)) ∈ LW := LW_mem (mt_2 (List.mem_of_getElem? (i := 145) rfl)) rfl
theorem t2_146 : (Jvm.Cond.instanceMethod ({ cls := "TrigramReaders$Counts", name := "placeOf", desc := "(I)I" } : Jvm.MethodName)) ∈ LW := LW_mem (mt_2 (List.mem_of_getElem? (i := 146) rfl)) rfl
theorem t2_147 : (Jvm.Cond.selects "TrigramReaders$Counts" ({ cls := "TrigramReaders$Counts", name := "placeOf", desc := "(I)I" } : Jvm.MethodName) ({ cls := "TrigramReaders$Counts", name := "placeOf", desc := "(I)I" } : Jvm.MethodName)) ∈ LW := LW_mem (mt_2 (List.mem_of_getElem? (i := 147) rfl)) rfl
theorem t2_148 : (Jvm.Cond.code ({ cls := "TrigramReaders$Counts", name := "placeOf", desc := "(I)I" } : Jvm.MethodName) prog_4_method_3_code (5 : Nat) (Option.some Jvm.ClassFile.FieldType.int)) ∈ LW := LW_mem (mt_2 (List.mem_of_getElem? (i := 148) rfl)) rfl
theorem t2_149 : (Jvm.Cond.methodLink "TrigramReaders$Counts" (32 : Nat) ({ cls := "java/lang/Math", name := "min", desc := "(II)I" } : Jvm.MethodName)) ∈ LW := LW_mem (mt_2 (List.mem_of_getElem? (i := 149) rfl)) rfl
theorem t2_150 : (Jvm.Cond.methodLink "TrigramReaders$Counts" (22 : Nat) ({ cls := "java/lang/System", name := "arraycopy", desc := "(Ljava/lang/Object;ILjava/lang/Object;II)V" } : Jvm.MethodName)) ∈ LW := LW_mem (mt_2 (List.mem_of_getElem? (i := 150) rfl)) rfl
theorem t2_151 : (Jvm.Cond.static ({ cls := "java/lang/System", name := "arraycopy", desc := "(Ljava/lang/Object;ILjava/lang/Object;II)V" } : Jvm.MethodName)) ∈ LW := LW_mem (mt_2 (List.mem_of_getElem? (i := 151) rfl)) rfl
theorem t2_152 : (Jvm.Cond.native ({ cls := "java/lang/System", name := "arraycopy", desc := "(Ljava/lang/Object;ILjava/lang/Object;II)V" } : Jvm.MethodName)) ∈ LW := LW_mem (mt_2 (List.mem_of_getElem? (i := 152) rfl)) rfl
theorem t2_153 : (Jvm.Cond.methodLink "TrigramReaders$Parser" (127 : Nat) ({ cls := "TrigramReaders$Reader", name := "recordTraining", desc := "(II)V" } : Jvm.MethodName)) ∈ LW := LW_mem (mt_2 (List.mem_of_getElem? (i := 153) rfl)) rfl
theorem t2_154 : (Jvm.Cond.instanceMethod ({ cls := "TrigramReaders$Reader", name := "recordTraining", desc := "(II)V" } : Jvm.MethodName)) ∈ LW := LW_mem (mt_2 (List.mem_of_getElem? (i := 154) rfl)) rfl
theorem t2_155 : (Jvm.Cond.selects "TrigramReaders$Reader" ({ cls := "TrigramReaders$Reader", name := "recordTraining", desc := "(II)V" } : Jvm.MethodName) ({ cls := "TrigramReaders$Reader", name := "recordTraining", desc := "(II)V" } : Jvm.MethodName)) ∈ LW := LW_mem (mt_2 (List.mem_of_getElem? (i := 155) rfl)) rfl
theorem t2_156 : (Jvm.Cond.code ({ cls := "TrigramReaders$Reader", name := "recordTraining", desc := "(II)V" } : Jvm.MethodName) prog_8_method_8_code (3 : Nat) (Option.none : Option Jvm.ClassFile.FieldType)) ∈ LW := LW_mem (mt_2 (List.mem_of_getElem? (i := 156) rfl)) rfl
theorem t2_158 : (Jvm.Cond.methodLink "TrigramReaders$Parser" (60 : Nat) ({ cls := "TrigramReaders$Parser", name := "parseYear", desc := "()Z" } : Jvm.MethodName)) ∈ LW := LW_mem (mt_2 (List.mem_of_getElem? (i := 158) rfl)) rfl
theorem t2_160 : (Jvm.Cond.instanceMethod ({ cls := "TrigramReaders$Parser", name := "parseYear", desc := "()Z" } : Jvm.MethodName)) ∈ LW := LW_mem (mt_2 (List.mem_of_getElem? (i := 160) rfl)) rfl
theorem t2_161 : (Jvm.Cond.code ({ cls := "TrigramReaders$Parser", name := "parseYear", desc := "()Z" } : Jvm.MethodName) prog_6_method_6_code (1 : Nat) (Option.some Jvm.ClassFile.FieldType.boolean)) ∈ LW := LW_mem (mt_2 (List.mem_of_getElem? (i := 161) rfl)) rfl
theorem t2_162 : (Jvm.Cond.methodLink "TrigramReaders$Parser" (131 : Nat) ({ cls := "TrigramReaders$State", name := "passYear", desc := "()V" } : Jvm.MethodName)) ∈ LW := LW_mem (mt_2 (List.mem_of_getElem? (i := 162) rfl)) rfl
theorem t2_163 : (Jvm.Cond.instanceMethod ({ cls := "TrigramReaders$State", name := "passYear", desc := "()V" } : Jvm.MethodName)) ∈ LW := LW_mem (mt_2 (List.mem_of_getElem? (i := 163) rfl)) rfl
theorem t2_164 : (Jvm.Cond.selects "TrigramReaders$State" ({ cls := "TrigramReaders$State", name := "passYear", desc := "()V" } : Jvm.MethodName) ({ cls := "TrigramReaders$State", name := "passYear", desc := "()V" } : Jvm.MethodName)) ∈ LW := LW_mem (mt_2 (List.mem_of_getElem? (i := 164) rfl)) rfl
theorem t2_165 : (Jvm.Cond.code ({ cls := "TrigramReaders$State", name := "passYear", desc := "()V" } : Jvm.MethodName) prog_9_method_9_code (2 : Nat) (Option.none : Option Jvm.ClassFile.FieldType)) ∈ LW := LW_mem (mt_2 (List.mem_of_getElem? (i := 165) rfl)) rfl
theorem t2_166 : (Jvm.Cond.methodLink "TrigramReaders$State" (57 : Nat) ({ cls := "TrigramReaders$Counts", name := "halve", desc := "()V" } : Jvm.MethodName)) ∈ LW := LW_mem (mt_2 (List.mem_of_getElem? (i := 166) rfl)) rfl
theorem t2_167 : (Jvm.Cond.instanceMethod ({ cls := "TrigramReaders$Counts", name := "halve", desc := "()V" } : Jvm.MethodName)) ∈ LW := LW_mem (mt_2 (List.mem_of_getElem? (i := 167) rfl)) rfl
theorem t2_168 : (Jvm.Cond.selects "TrigramReaders$Counts" ({ cls := "TrigramReaders$Counts", name := "halve", desc := "()V" } : Jvm.MethodName) ({ cls := "TrigramReaders$Counts", name := "halve", desc := "()V" } : Jvm.MethodName)) ∈ LW := LW_mem (mt_2 (List.mem_of_getElem? (i := 168) rfl)) rfl
theorem t2_169 : (Jvm.Cond.code ({ cls := "TrigramReaders$Counts", name := "halve", desc := "()V" } : Jvm.MethodName) prog_4_method_9_code (4 : Nat) (Option.none : Option Jvm.ClassFile.FieldType)) ∈ LW := LW_mem (mt_2 (List.mem_of_getElem? (i := 169) rfl)) rfl
theorem t2_171 : (Jvm.Cond.classLink "TrigramReaders" (57 : Nat) "TrigramReaders$Counts") ∈ LW := LW_mem (mt_2 (List.mem_of_getElem? (i := 171) rfl)) rfl
theorem t2_173 : (Jvm.Cond.classLink "TrigramReaders" (64 : Nat) "TrigramReaders$Ranking") ∈ LW := LW_mem (mt_2 (List.mem_of_getElem? (i := 173) rfl)) rfl
theorem t2_174 : (Jvm.Cond.instantiable "TrigramReaders$Ranking" (4 : Nat)) ∈ LW := LW_mem (mt_2 (List.mem_of_getElem? (i := 174) rfl)) rfl
theorem t2_176 : (Jvm.Cond.instanceMethod ({ cls := "TrigramReaders$Ranking", name := "<init>", desc := "()V" } : Jvm.MethodName)) ∈ LW := LW_mem (mt_2 (List.mem_of_getElem? (i := 176) rfl)) rfl
theorem t2_177 : (Jvm.Cond.code ({ cls := "TrigramReaders$Ranking", name := "<init>", desc := "()V" } : Jvm.MethodName) prog_7_method_1_code (1 : Nat) (Option.none : Option Jvm.ClassFile.FieldType)) ∈ LW := LW_mem (mt_2 (List.mem_of_getElem? (i := 177) rfl)) rfl
theorem t2_178 : (Jvm.Cond.methodLink "TrigramReaders$Ranking" (3 : Nat) ({ cls := "java/lang/Object", name := "<init>", desc := "()V" } : Jvm.MethodName)) ∈ LW := LW_mem (mt_2 (List.mem_of_getElem? (i := 178) rfl)) rfl
theorem t2_179 : (Jvm.Cond.fieldLink "TrigramReaders$Ranking" (9 : Nat) "TrigramReaders$Ranking" "symbols" "[I") ∈ LW := LW_mem (mt_2 (List.mem_of_getElem? (i := 179) rfl)) rfl
theorem t2_180 : (Jvm.Cond.fieldLink "TrigramReaders$Ranking" (15 : Nat) "TrigramReaders$Ranking" "weights" "[I") ∈ LW := LW_mem (mt_2 (List.mem_of_getElem? (i := 180) rfl)) rfl
theorem t2_181 : (Jvm.Cond.fieldLink "TrigramReaders$Ranking" (18 : Nat) "TrigramReaders$Ranking" "size" "I") ∈ LW := LW_mem (mt_2 (List.mem_of_getElem? (i := 181) rfl)) rfl
theorem t2_182 : (Jvm.Cond.fieldLink "TrigramReaders$Ranking" (22 : Nat) "TrigramReaders$Ranking" "placed" "I") ∈ LW := LW_mem (mt_2 (List.mem_of_getElem? (i := 182) rfl)) rfl
theorem t2_183 : (Jvm.Cond.laysFinal "TrigramReaders$Ranking" "TrigramReaders$Ranking" "symbols" "[I") ∈ LW := LW_mem (mt_2 (List.mem_of_getElem? (i := 183) rfl)) rfl
theorem t2_185 : (Jvm.Cond.laysFinal "TrigramReaders$Ranking" "TrigramReaders$Ranking" "weights" "[I") ∈ LW := LW_mem (mt_2 (List.mem_of_getElem? (i := 185) rfl)) rfl
theorem t2_187 : (Jvm.Cond.lays "TrigramReaders$Ranking" "TrigramReaders$Ranking" "size" "I") ∈ LW := LW_mem (mt_2 (List.mem_of_getElem? (i := 187) rfl)) rfl
theorem t2_189 : (Jvm.Cond.lays "TrigramReaders$Ranking" "TrigramReaders$Ranking" "placed" "I") ∈ LW := LW_mem (mt_2 (List.mem_of_getElem? (i := 189) rfl)) rfl
theorem t2_192 : (Jvm.Cond.arrayClass Jvm.ClassFile.FieldType.boolean) ∈ LW := LW_mem (mt_2 (List.mem_of_getElem? (i := 192) rfl)) rfl
theorem t2_193 : (Jvm.Cond.classLink "TrigramReaders" (71 : Nat) "TrigramReaders$Chance") ∈ LW := LW_mem (mt_2 (List.mem_of_getElem? (i := 193) rfl)) rfl
theorem t2_194 : (Jvm.Cond.instantiable "TrigramReaders$Chance" (4 : Nat)) ∈ LW := LW_mem (mt_2 (List.mem_of_getElem? (i := 194) rfl)) rfl
theorem t2_196 : (Jvm.Cond.instanceMethod ({ cls := "TrigramReaders$Chance", name := "<init>", desc := "()V" } : Jvm.MethodName)) ∈ LW := LW_mem (mt_2 (List.mem_of_getElem? (i := 196) rfl)) rfl
theorem t2_197 : (Jvm.Cond.code ({ cls := "TrigramReaders$Chance", name := "<init>", desc := "()V" } : Jvm.MethodName) prog_3_method_1_code (1 : Nat) (Option.none : Option Jvm.ClassFile.FieldType)) ∈ LW := LW_mem (mt_2 (List.mem_of_getElem? (i := 197) rfl)) rfl
theorem t2_198 : (Jvm.Cond.methodLink "TrigramReaders$Chance" (3 : Nat) ({ cls := "java/lang/Object", name := "<init>", desc := "()V" } : Jvm.MethodName)) ∈ LW := LW_mem (mt_2 (List.mem_of_getElem? (i := 198) rfl)) rfl
theorem t2_199 : (Jvm.Cond.fieldLink "TrigramReaders$Chance" (9 : Nat) "TrigramReaders$Chance" "top" "J") ∈ LW := LW_mem (mt_2 (List.mem_of_getElem? (i := 199) rfl)) rfl
theorem t2_200 : (Jvm.Cond.fieldLink "TrigramReaders" (243 : Nat) "TrigramReaders$Chance" "top" "J") ∈ LW := LW_mem (mt_2 (List.mem_of_getElem? (i := 200) rfl)) rfl
theorem t2_201 : (Jvm.Cond.fieldLink "TrigramReaders$Chance" (15 : Nat) "TrigramReaders$Chance" "bottom" "J") ∈ LW := LW_mem (mt_2 (List.mem_of_getElem? (i := 201) rfl)) rfl
theorem t2_202 : (Jvm.Cond.fieldLink "TrigramReaders" (247 : Nat) "TrigramReaders$Chance" "bottom" "J") ∈ LW := LW_mem (mt_2 (List.mem_of_getElem? (i := 202) rfl)) rfl
theorem t2_203 : (Jvm.Cond.fieldLink "TrigramReaders$Chance" (18 : Nat) "TrigramReaders$Chance" "escapeFactors" "I") ∈ LW := LW_mem (mt_2 (List.mem_of_getElem? (i := 203) rfl)) rfl
theorem t2_204 : (Jvm.Cond.fieldLink "TrigramReaders" (240 : Nat) "TrigramReaders$Chance" "escapeFactors" "I") ∈ LW := LW_mem (mt_2 (List.mem_of_getElem? (i := 204) rfl)) rfl
theorem t2_205 : (Jvm.Cond.fieldLink "TrigramReaders$Chance" (22 : Nat) "TrigramReaders$Chance" "excluded" "I") ∈ LW := LW_mem (mt_2 (List.mem_of_getElem? (i := 205) rfl)) rfl
theorem t2_206 : (Jvm.Cond.lays "TrigramReaders$Chance" "TrigramReaders$Chance" "top" "J") ∈ LW := LW_mem (mt_2 (List.mem_of_getElem? (i := 206) rfl)) rfl
theorem t2_208 : (Jvm.Cond.lays "TrigramReaders$Chance" "TrigramReaders$Chance" "bottom" "J") ∈ LW := LW_mem (mt_2 (List.mem_of_getElem? (i := 208) rfl)) rfl
theorem t2_210 : (Jvm.Cond.lays "TrigramReaders$Chance" "TrigramReaders$Chance" "escapeFactors" "I") ∈ LW := LW_mem (mt_2 (List.mem_of_getElem? (i := 210) rfl)) rfl
theorem t2_212 : (Jvm.Cond.lays "TrigramReaders$Chance" "TrigramReaders$Chance" "excluded" "I") ∈ LW := LW_mem (mt_2 (List.mem_of_getElem? (i := 212) rfl)) rfl
theorem t2_215 : (Jvm.Cond.fieldLink "TrigramReaders" (13 : Nat) "TrigramReaders" "state" "LTrigramReaders$State;") ∈ LW := LW_mem (mt_2 (List.mem_of_getElem? (i := 215) rfl)) rfl
theorem t2_216 : (Jvm.Cond.fieldLink "TrigramReaders" (20 : Nat) "TrigramReaders" "loaded" "LTrigramReaders$State;") ∈ LW := LW_mem (mt_2 (List.mem_of_getElem? (i := 216) rfl)) rfl
theorem t2_217 : (Jvm.Cond.fieldLink "TrigramReaders" (23 : Nat) "TrigramReaders" "past" "[LTrigramReaders$State;") ∈ LW := LW_mem (mt_2 (List.mem_of_getElem? (i := 217) rfl)) rfl
theorem t2_218 : (Jvm.Cond.fieldLink "TrigramReaders" (27 : Nat) "TrigramReaders" "pastNext" "I") ∈ LW := LW_mem (mt_2 (List.mem_of_getElem? (i := 218) rfl)) rfl
theorem t2_219 : (Jvm.Cond.fieldLink "TrigramReaders" (31 : Nat) "TrigramReaders" "pastCount" "I") ∈ LW := LW_mem (mt_2 (List.mem_of_getElem? (i := 219) rfl)) rfl
theorem t2_220 : (Jvm.Cond.fieldLink "TrigramReaders" (34 : Nat) "TrigramReaders" "slots" "[LTrigramReaders$State;") ∈ LW := LW_mem (mt_2 (List.mem_of_getElem? (i := 220) rfl)) rfl
theorem t2_221 : (Jvm.Cond.fieldLink "TrigramReaders" (37 : Nat) "TrigramReaders" "slotUsed" "[Z") ∈ LW := LW_mem (mt_2 (List.mem_of_getElem? (i := 221) rfl)) rfl
theorem t2_222 : (Jvm.Cond.fieldLink "TrigramReaders" (44 : Nat) "TrigramReaders" "input" "LTrigramReaders$Bytes;") ∈ LW := LW_mem (mt_2 (List.mem_of_getElem? (i := 222) rfl)) rfl
theorem t2_223 : (Jvm.Cond.fieldLink "TrigramReaders" (48 : Nat) "TrigramReaders" "output" "LTrigramReaders$Bytes;") ∈ LW := LW_mem (mt_2 (List.mem_of_getElem? (i := 223) rfl)) rfl
theorem t2_224 : (Jvm.Cond.fieldLink "TrigramReaders" (51 : Nat) "TrigramReaders" "loadErrorCode" "I") ∈ LW := LW_mem (mt_2 (List.mem_of_getElem? (i := 224) rfl)) rfl
theorem t2_225 : (Jvm.Cond.fieldLink "TrigramReaders" (54 : Nat) "TrigramReaders" "loadErrorPosition" "I") ∈ LW := LW_mem (mt_2 (List.mem_of_getElem? (i := 225) rfl)) rfl
theorem t2_226 : (Jvm.Cond.fieldLink "TrigramReaders" (60 : Nat) "TrigramReaders" "trial" "LTrigramReaders$Counts;") ∈ LW := LW_mem (mt_2 (List.mem_of_getElem? (i := 226) rfl)) rfl
theorem t2_227 : (Jvm.Cond.fieldLink "TrigramReaders" (67 : Nat) "TrigramReaders" "ranking" "LTrigramReaders$Ranking;") ∈ LW := LW_mem (mt_2 (List.mem_of_getElem? (i := 227) rfl)) rfl
theorem t2_228 : (Jvm.Cond.fieldLink "TrigramReaders" (74 : Nat) "TrigramReaders" "chance" "LTrigramReaders$Chance;") ∈ LW := LW_mem (mt_2 (List.mem_of_getElem? (i := 228) rfl)) rfl
theorem t2_229 : (Jvm.Cond.fieldLink "TrigramReaders" (78 : Nat) "TrigramReaders" "decodedRanks" "[I") ∈ LW := LW_mem (mt_2 (List.mem_of_getElem? (i := 229) rfl)) rfl
theorem t2_230 : (Jvm.Cond.laysFinal "TrigramReaders" "TrigramReaders" "state" "LTrigramReaders$State;") ∈ LW := LW_mem (mt_2 (List.mem_of_getElem? (i := 230) rfl)) rfl
theorem t2_232 : (Jvm.Cond.laysFinal "TrigramReaders" "TrigramReaders" "loaded" "LTrigramReaders$State;") ∈ LW := LW_mem (mt_2 (List.mem_of_getElem? (i := 232) rfl)) rfl
theorem t2_234 : (Jvm.Cond.laysFinal "TrigramReaders" "TrigramReaders" "past" "[LTrigramReaders$State;") ∈ LW := LW_mem (mt_2 (List.mem_of_getElem? (i := 234) rfl)) rfl
theorem t2_236 : (Jvm.Cond.lays "TrigramReaders" "TrigramReaders" "pastNext" "I") ∈ LW := LW_mem (mt_2 (List.mem_of_getElem? (i := 236) rfl)) rfl
theorem t2_238 : (Jvm.Cond.lays "TrigramReaders" "TrigramReaders" "pastCount" "I") ∈ LW := LW_mem (mt_2 (List.mem_of_getElem? (i := 238) rfl)) rfl
theorem t3_0 : (Jvm.Cond.laysFinal "TrigramReaders" "TrigramReaders" "slots" "[LTrigramReaders$State;") ∈ LW := LW_mem (mt_3 (List.mem_of_getElem? (i := 0) rfl)) rfl
theorem t3_2 : (Jvm.Cond.laysFinal "TrigramReaders" "TrigramReaders" "slotUsed" "[Z") ∈ LW := LW_mem (mt_3 (List.mem_of_getElem? (i := 2) rfl)) rfl
theorem t3_4 : (Jvm.Cond.laysFinal "TrigramReaders" "TrigramReaders" "input" "LTrigramReaders$Bytes;") ∈ LW := LW_mem (mt_3 (List.mem_of_getElem? (i := 4) rfl)) rfl
theorem t3_6 : (Jvm.Cond.laysFinal "TrigramReaders" "TrigramReaders" "output" "LTrigramReaders$Bytes;") ∈ LW := LW_mem (mt_3 (List.mem_of_getElem? (i := 6) rfl)) rfl
theorem t3_8 : (Jvm.Cond.lays "TrigramReaders" "TrigramReaders" "loadErrorCode" "I") ∈ LW := LW_mem (mt_3 (List.mem_of_getElem? (i := 8) rfl)) rfl
theorem t3_10 : (Jvm.Cond.lays "TrigramReaders" "TrigramReaders" "loadErrorPosition" "I") ∈ LW := LW_mem (mt_3 (List.mem_of_getElem? (i := 10) rfl)) rfl
theorem t3_12 : (Jvm.Cond.laysFinal "TrigramReaders" "TrigramReaders" "trial" "LTrigramReaders$Counts;") ∈ LW := LW_mem (mt_3 (List.mem_of_getElem? (i := 12) rfl)) rfl
theorem t3_14 : (Jvm.Cond.laysFinal "TrigramReaders" "TrigramReaders" "ranking" "LTrigramReaders$Ranking;") ∈ LW := LW_mem (mt_3 (List.mem_of_getElem? (i := 14) rfl)) rfl
theorem t3_16 : (Jvm.Cond.laysFinal "TrigramReaders" "TrigramReaders" "chance" "LTrigramReaders$Chance;") ∈ LW := LW_mem (mt_3 (List.mem_of_getElem? (i := 16) rfl)) rfl
theorem t3_18 : (Jvm.Cond.laysFinal "TrigramReaders" "TrigramReaders" "decodedRanks" "[I") ∈ LW := LW_mem (mt_3 (List.mem_of_getElem? (i := 18) rfl)) rfl
theorem t3_21 : (Jvm.Cond.methodLink "TrigramReadersLaw" (115 : Nat) ({ cls := "TrigramReaders", name := "errorCode", desc := "()I" } : Jvm.MethodName)) ∈ LW := LW_mem (mt_3 (List.mem_of_getElem? (i := 21) rfl)) rfl
theorem t3_22 : (Jvm.Cond.instanceMethod ({ cls := "TrigramReaders", name := "errorCode", desc := "()I" } : Jvm.MethodName)) ∈ LW := LW_mem (mt_3 (List.mem_of_getElem? (i := 22) rfl)) rfl
theorem t3_23 : (Jvm.Cond.selects "TrigramReaders" ({ cls := "TrigramReaders", name := "errorCode", desc := "()I" } : Jvm.MethodName) ({ cls := "TrigramReaders", name := "errorCode", desc := "()I" } : Jvm.MethodName)) ∈ LW := LW_mem (mt_3 (List.mem_of_getElem? (i := 23) rfl)) rfl
theorem t3_24 : (Jvm.Cond.code ({ cls := "TrigramReaders", name := "errorCode", desc := "()I" } : Jvm.MethodName) prog_1_method_6_code (1 : Nat) (Option.some Jvm.ClassFile.FieldType.int)) ∈ LW := LW_mem (mt_3 (List.mem_of_getElem? (i := 24) rfl)) rfl
theorem t3_25 : (Jvm.Cond.methodLink "TrigramReadersLaw" (78 : Nat) ({ cls := "TrigramReaders", name := "readerCount", desc := "()I" } : Jvm.MethodName)) ∈ LW := LW_mem (mt_3 (List.mem_of_getElem? (i := 25) rfl)) rfl
theorem t3_26 : (Jvm.Cond.instanceMethod ({ cls := "TrigramReaders", name := "readerCount", desc := "()I" } : Jvm.MethodName)) ∈ LW := LW_mem (mt_3 (List.mem_of_getElem? (i := 26) rfl)) rfl
theorem t3_27 : (Jvm.Cond.selects "TrigramReaders" ({ cls := "TrigramReaders", name := "readerCount", desc := "()I" } : Jvm.MethodName) ({ cls := "TrigramReaders", name := "readerCount", desc := "()I" } : Jvm.MethodName)) ∈ LW := LW_mem (mt_3 (List.mem_of_getElem? (i := 27) rfl)) rfl
theorem t3_28 : (Jvm.Cond.code ({ cls := "TrigramReaders", name := "readerCount", desc := "()I" } : Jvm.MethodName) prog_1_method_9_code (1 : Nat) (Option.some Jvm.ClassFile.FieldType.int)) ∈ LW := LW_mem (mt_3 (List.mem_of_getElem? (i := 28) rfl)) rfl
theorem t3_29 : (Jvm.Cond.methodLink "TrigramReadersLaw" (122 : Nat) ({ cls := "TrigramReaders", name := "trainingGap", desc := "(I)I" } : Jvm.MethodName)) ∈ LW := LW_mem (mt_3 (List.mem_of_getElem? (i := 29) rfl)) rfl
theorem t3_30 : (Jvm.Cond.instanceMethod ({ cls := "TrigramReaders", name := "trainingGap", desc := "(I)I" } : Jvm.MethodName)) ∈ LW := LW_mem (mt_3 (List.mem_of_getElem? (i := 30) rfl)) rfl
theorem t3_31 : (Jvm.Cond.selects "TrigramReaders" ({ cls := "TrigramReaders", name := "trainingGap", desc := "(I)I" } : Jvm.MethodName) ({ cls := "TrigramReaders", name := "trainingGap", desc := "(I)I" } : Jvm.MethodName)) ∈ LW := LW_mem (mt_3 (List.mem_of_getElem? (i := 31) rfl)) rfl
theorem t3_32 : (Jvm.Cond.code ({ cls := "TrigramReaders", name := "trainingGap", desc := "(I)I" } : Jvm.MethodName) prog_1_method_25_code (5 : Nat) (Option.some Jvm.ClassFile.FieldType.int)) ∈ LW := LW_mem (mt_3 (List.mem_of_getElem? (i := 32) rfl)) rfl
theorem t3_33 : (Jvm.Cond.methodLink "TrigramReaders" (149 : Nat) ({ cls := "TrigramReaders", name := "existingReader", desc := "(I)LTrigramReaders$Reader;" } : Jvm.MethodName)) ∈ LW := LW_mem (mt_3 (List.mem_of_getElem? (i := 33) rfl)) rfl
theorem t3_35 : (Jvm.Cond.instanceMethod ({ cls := "TrigramReaders", name := "existingReader", desc := "(I)LTrigramReaders$Reader;" } : Jvm.MethodName)) ∈ LW := LW_mem (mt_3 (List.mem_of_getElem? (i := 35) rfl)) rfl
theorem t3_36 : (Jvm.Cond.code ({ cls := "TrigramReaders", name := "existingReader", desc := "(I)LTrigramReaders$Reader;" } : Jvm.MethodName) prog_1_method_66_code (3 : Nat) (Option.some (Jvm.ClassFile.FieldType.object "TrigramReaders$Reader"))) ∈ LW := LW_mem (mt_3 (List.mem_of_getElem? (i := 36) rfl)) rfl
theorem t3_37 : (Jvm.Cond.methodLink "TrigramReaders" (361 : Nat) ({ cls := "TrigramReaders$State", name := "readerAt", desc := "(I)LTrigramReaders$Reader;" } : Jvm.MethodName)) ∈ LW := LW_mem (mt_3 (List.mem_of_getElem? (i := 37) rfl)) rfl
theorem t3_38 : (Jvm.Cond.instanceMethod ({ cls := "TrigramReaders$State", name := "readerAt", desc := "(I)LTrigramReaders$Reader;" } : Jvm.MethodName)) ∈ LW := LW_mem (mt_3 (List.mem_of_getElem? (i := 38) rfl)) rfl
theorem t3_39 : (Jvm.Cond.selects "TrigramReaders$State" ({ cls := "TrigramReaders$State", name := "readerAt", desc := "(I)LTrigramReaders$Reader;" } : Jvm.MethodName) ({ cls := "TrigramReaders$State", name := "readerAt", desc := "(I)LTrigramReaders$Reader;" } : Jvm.MethodName)) ∈ LW := LW_mem (mt_3 (List.mem_of_getElem? (i := 39) rfl)) rfl
theorem t3_40 : (Jvm.Cond.code ({ cls := "TrigramReaders$State", name := "readerAt", desc := "(I)LTrigramReaders$Reader;" } : Jvm.MethodName) prog_9_method_5_code (2 : Nat) (Option.some (Jvm.ClassFile.FieldType.object "TrigramReaders$Reader"))) ∈ LW := LW_mem (mt_3 (List.mem_of_getElem? (i := 40) rfl)) rfl
theorem t3_41 : (Jvm.Cond.classLink "TrigramReaders" (364 : Nat) "java/lang/IndexOutOfBoundsException") ∈ LW := LW_mem (mt_3 (List.mem_of_getElem? (i := 41) rfl)) rfl
theorem t3_42 : (Jvm.Cond.instantiable "java/lang/IndexOutOfBoundsException" (6 : Nat)) ∈ LW := LW_mem (mt_3 (List.mem_of_getElem? (i := 42) rfl)) rfl
theorem t3_50 : (Jvm.Cond.selects "java/lang/IndexOutOfBoundsException" ({ cls := "java/lang/Throwable", name := "fillInStackTrace", desc := "(I)Ljava/lang/Throwable;" } : Jvm.MethodName) ({ cls := "java/lang/Throwable", name := "fillInStackTrace", desc := "(I)Ljava/lang/Throwable;" } : Jvm.MethodName)) ∈ LW := LW_mem (mt_3 (List.mem_of_getElem? (i := 50) rfl)) rfl
theorem t3_51 : (Jvm.Cond.selects "java/lang/IndexOutOfBoundsException" ({ cls := "java/lang/Throwable", name := "fillInStackTrace", desc := "()Ljava/lang/Throwable;" } : Jvm.MethodName) ({ cls := "java/lang/Throwable", name := "fillInStackTrace", desc := "()Ljava/lang/Throwable;" } : Jvm.MethodName)) ∈ LW := LW_mem (mt_3 (List.mem_of_getElem? (i := 51) rfl)) rfl
theorem t3_52 : (Jvm.Cond.lays "java/lang/IndexOutOfBoundsException" "java/lang/Throwable" "cause" "Ljava/lang/Throwable;") ∈ LW := LW_mem (mt_3 (List.mem_of_getElem? (i := 52) rfl)) rfl
theorem t3_53 : (Jvm.Cond.lays "java/lang/Throwable" "java/lang/Throwable" "cause" "Ljava/lang/Throwable;") ∈ LW := LW_mem (mt_3 (List.mem_of_getElem? (i := 53) rfl)) rfl
theorem t3_54 : (Jvm.Cond.lays "java/lang/IndexOutOfBoundsException" "java/lang/Throwable" "stackTrace" "[Ljava/lang/StackTraceElement;") ∈ LW := LW_mem (mt_3 (List.mem_of_getElem? (i := 54) rfl)) rfl
theorem t3_55 : (Jvm.Cond.lays "java/lang/Throwable" "java/lang/Throwable" "stackTrace" "[Ljava/lang/StackTraceElement;") ∈ LW := LW_mem (mt_3 (List.mem_of_getElem? (i := 55) rfl)) rfl
theorem t3_56 : (Jvm.Cond.lays "java/lang/IndexOutOfBoundsException" "java/lang/Throwable" "suppressedExceptions" "Ljava/util/List;") ∈ LW := LW_mem (mt_3 (List.mem_of_getElem? (i := 56) rfl)) rfl
theorem t3_57 : (Jvm.Cond.lays "java/lang/Throwable" "java/lang/Throwable" "suppressedExceptions" "Ljava/util/List;") ∈ LW := LW_mem (mt_3 (List.mem_of_getElem? (i := 57) rfl)) rfl
theorem t3_58 : (Jvm.Cond.lays "java/lang/IndexOutOfBoundsException" "java/lang/Throwable" "detailMessage" "Ljava/lang/String;") ∈ LW := LW_mem (mt_3 (List.mem_of_getElem? (i := 58) rfl)) rfl
theorem t3_59 : (Jvm.Cond.lays "java/lang/Throwable" "java/lang/Throwable" "detailMessage" "Ljava/lang/String;") ∈ LW := LW_mem (mt_3 (List.mem_of_getElem? (i := 59) rfl)) rfl
theorem t3_60 : (Jvm.Cond.lays "java/lang/IndexOutOfBoundsException" "java/lang/Throwable" "backtrace" "Ljava/lang/Object;") ∈ LW := LW_mem (mt_3 (List.mem_of_getElem? (i := 60) rfl)) rfl
theorem t3_61 : (Jvm.Cond.lays "java/lang/Throwable" "java/lang/Throwable" "backtrace" "Ljava/lang/Object;") ∈ LW := LW_mem (mt_3 (List.mem_of_getElem? (i := 61) rfl)) rfl
theorem t3_62 : (Jvm.Cond.fieldLink "java/lang/Throwable" (198 : Nat) "java/lang/Throwable" "backtrace" "Ljava/lang/Object;") ∈ LW := LW_mem (mt_3 (List.mem_of_getElem? (i := 62) rfl)) rfl
theorem t3_64 : (Jvm.Cond.instanceMethod ({ cls := "java/lang/Throwable", name := "<init>", desc := "()V" } : Jvm.MethodName)) ∈ LW := LW_mem (mt_3 (List.mem_of_getElem? (i := 64) rfl)) rfl
theorem t3_65 : (Jvm.Cond.code ({ cls := "java/lang/Throwable", name := "<init>", desc := "()V" } : Jvm.MethodName) prog_31_method_1_code (1 : Nat) (Option.none : Option Jvm.ClassFile.FieldType)) ∈ LW := LW_mem (mt_3 (List.mem_of_getElem? (i := 65) rfl)) rfl
theorem t3_66 : (Jvm.Cond.methodLink "java/lang/Throwable" (1 : Nat) ({ cls := "java/lang/Object", name := "<init>", desc := "()V" } : Jvm.MethodName)) ∈ LW := LW_mem (mt_3 (List.mem_of_getElem? (i := 66) rfl)) rfl
theorem t3_67 : (Jvm.Cond.fieldLink "java/lang/Throwable" (13 : Nat) "java/lang/Throwable" "UNASSIGNED_STACK" "[Ljava/lang/StackTraceElement;") ∈ LW := LW_mem (mt_3 (List.mem_of_getElem? (i := 67) rfl)) rfl
theorem t3_69 : (Jvm.Cond.fieldLink "java/lang/Throwable" (20 : Nat) "java/lang/Throwable" "SUPPRESSED_SENTINEL" "Ljava/util/List;") ∈ LW := LW_mem (mt_3 (List.mem_of_getElem? (i := 69) rfl)) rfl
theorem t3_71 : (Jvm.Cond.methodLink "java/lang/Throwable" (27 : Nat) ({ cls := "java/lang/Throwable", name := "fillInStackTrace", desc := "()Ljava/lang/Throwable;" } : Jvm.MethodName)) ∈ LW := LW_mem (mt_3 (List.mem_of_getElem? (i := 71) rfl)) rfl
theorem t3_72 : (Jvm.Cond.instanceMethod ({ cls := "java/lang/Throwable", name := "fillInStackTrace", desc := "()Ljava/lang/Throwable;" } : Jvm.MethodName)) ∈ LW := LW_mem (mt_3 (List.mem_of_getElem? (i := 72) rfl)) rfl
theorem t3_74 : (Jvm.Cond.selects "java/lang/IllegalArgumentException" ({ cls := "java/lang/Throwable", name := "fillInStackTrace", desc := "()Ljava/lang/Throwable;" } : Jvm.MethodName) ({ cls := "java/lang/Throwable", name := "fillInStackTrace", desc := "()Ljava/lang/Throwable;" } : Jvm.MethodName)) ∈ LW := LW_mem (mt_3 (List.mem_of_getElem? (i := 74) rfl)) rfl
theorem t3_75 : (Jvm.Cond.selects "java/lang/IllegalStateException" ({ cls := "java/lang/Throwable", name := "fillInStackTrace", desc := "()Ljava/lang/Throwable;" } : Jvm.MethodName) ({ cls := "java/lang/Throwable", name := "fillInStackTrace", desc := "()Ljava/lang/Throwable;" } : Jvm.MethodName)) ∈ LW := LW_mem (mt_3 (List.mem_of_getElem? (i := 75) rfl)) rfl
theorem t3_76 : (Jvm.Cond.selects "java/util/NoSuchElementException" ({ cls := "java/lang/Throwable", name := "fillInStackTrace", desc := "()Ljava/lang/Throwable;" } : Jvm.MethodName) ({ cls := "java/lang/Throwable", name := "fillInStackTrace", desc := "()Ljava/lang/Throwable;" } : Jvm.MethodName)) ∈ LW := LW_mem (mt_3 (List.mem_of_getElem? (i := 76) rfl)) rfl
theorem t3_78 : (Jvm.Cond.methodLink "java/lang/Throwable" (202 : Nat) ({ cls := "java/lang/Throwable", name := "fillInStackTrace", desc := "(I)Ljava/lang/Throwable;" } : Jvm.MethodName)) ∈ LW := LW_mem (mt_3 (List.mem_of_getElem? (i := 78) rfl)) rfl
theorem t3_80 : (Jvm.Cond.instanceMethod ({ cls := "java/lang/Throwable", name := "fillInStackTrace", desc := "(I)Ljava/lang/Throwable;" } : Jvm.MethodName)) ∈ LW := LW_mem (mt_3 (List.mem_of_getElem? (i := 80) rfl)) rfl
theorem t3_81 : (Jvm.Cond.instantiable "java/lang/Throwable" (6 : Nat)) ∈ LW := LW_mem (mt_3 (List.mem_of_getElem? (i := 81) rfl)) rfl
theorem t3_82 : (Jvm.Cond.native ({ cls := "java/lang/Throwable", name := "fillInStackTrace", desc := "(I)Ljava/lang/Throwable;" } : Jvm.MethodName)) ∈ LW := LW_mem (mt_3 (List.mem_of_getElem? (i := 82) rfl)) rfl
theorem t3_84 : (Jvm.Cond.methodLink "TrigramReaders" (368 : Nat) ({ cls := "java/lang/IndexOutOfBoundsException", name := "<init>", desc := "(Ljava/lang/String;)V" } : Jvm.MethodName)) ∈ LW := LW_mem (mt_3 (List.mem_of_getElem? (i := 84) rfl)) rfl
theorem t3_85 : (Jvm.Cond.instanceMethod ({ cls := "java/lang/IndexOutOfBoundsException", name := "<init>", desc := "(Ljava/lang/String;)V" } : Jvm.MethodName)) ∈ LW := LW_mem (mt_3 (List.mem_of_getElem? (i := 85) rfl)) rfl
theorem t3_86 : (Jvm.Cond.code ({ cls := "java/lang/IndexOutOfBoundsException", name := "<init>", desc := "(Ljava/lang/String;)V" } : Jvm.MethodName) prog_21_method_2_code (2 : Nat) (Option.none : Option Jvm.ClassFile.FieldType)) ∈ LW := LW_mem (mt_3 (List.mem_of_getElem? (i := 86) rfl)) rfl
theorem t3_87 : (Jvm.Cond.methodLink "java/lang/IndexOutOfBoundsException" (7 : Nat) ({ cls := "java/lang/RuntimeException", name := "<init>", desc := "(Ljava/lang/String;)V" } : Jvm.MethodName)) ∈ LW := LW_mem (mt_3 (List.mem_of_getElem? (i := 87) rfl)) rfl
theorem t3_88 : (Jvm.Cond.instanceMethod ({ cls := "java/lang/RuntimeException", name := "<init>", desc := "(Ljava/lang/String;)V" } : Jvm.MethodName)) ∈ LW := LW_mem (mt_3 (List.mem_of_getElem? (i := 88) rfl)) rfl
theorem t3_89 : (Jvm.Cond.code ({ cls := "java/lang/RuntimeException", name := "<init>", desc := "(Ljava/lang/String;)V" } : Jvm.MethodName) prog_25_method_2_code (2 : Nat) (Option.none : Option Jvm.ClassFile.FieldType)) ∈ LW := LW_mem (mt_3 (List.mem_of_getElem? (i := 89) rfl)) rfl
theorem t3_90 : (Jvm.Cond.methodLink "java/lang/RuntimeException" (7 : Nat) ({ cls := "java/lang/Exception", name := "<init>", desc := "(Ljava/lang/String;)V" } : Jvm.MethodName)) ∈ LW := LW_mem (mt_3 (List.mem_of_getElem? (i := 90) rfl)) rfl
theorem t3_91 : (Jvm.Cond.instanceMethod ({ cls := "java/lang/Exception", name := "<init>", desc := "(Ljava/lang/String;)V" } : Jvm.MethodName)) ∈ LW := LW_mem (mt_3 (List.mem_of_getElem? (i := 91) rfl)) rfl
theorem t3_92 : (Jvm.Cond.code ({ cls := "java/lang/Exception", name := "<init>", desc := "(Ljava/lang/String;)V" } : Jvm.MethodName) prog_18_method_2_code (2 : Nat) (Option.none : Option Jvm.ClassFile.FieldType)) ∈ LW := LW_mem (mt_3 (List.mem_of_getElem? (i := 92) rfl)) rfl
theorem t3_93 : (Jvm.Cond.methodLink "java/lang/Exception" (7 : Nat) ({ cls := "java/lang/Throwable", name := "<init>", desc := "(Ljava/lang/String;)V" } : Jvm.MethodName)) ∈ LW := LW_mem (mt_3 (List.mem_of_getElem? (i := 93) rfl)) rfl
theorem t3_94 : (Jvm.Cond.instanceMethod ({ cls := "java/lang/Throwable", name := "<init>", desc := "(Ljava/lang/String;)V" } : Jvm.MethodName)) ∈ LW := LW_mem (mt_3 (List.mem_of_getElem? (i := 94) rfl)) rfl
theorem t3_95 : (Jvm.Cond.code ({ cls := "java/lang/Throwable", name := "<init>", desc := "(Ljava/lang/String;)V" } : Jvm.MethodName) prog_31_method_2_code (2 : Nat) (Option.none : Option Jvm.ClassFile.FieldType)) ∈ LW := LW_mem (mt_3 (List.mem_of_getElem? (i := 95) rfl)) rfl
theorem t3_97 : (Jvm.Cond.fieldLink "java/lang/Throwable" (31 : Nat) "java/lang/Throwable" "detailMessage" "Ljava/lang/String;") ∈ LW := LW_mem (mt_3 (List.mem_of_getElem? (i := 97) rfl)) rfl
theorem t3_98 : (Jvm.Cond.fieldLink "java/lang/Throwable" (7 : Nat) "java/lang/Throwable" "cause" "Ljava/lang/Throwable;") ∈ LW := LW_mem (mt_3 (List.mem_of_getElem? (i := 98) rfl)) rfl
theorem t3_99 : (Jvm.Cond.fieldLink "java/lang/Throwable" (17 : Nat) "java/lang/Throwable" "stackTrace" "[Ljava/lang/StackTraceElement;") ∈ LW := LW_mem (mt_3 (List.mem_of_getElem? (i := 99) rfl)) rfl
theorem t3_100 : (Jvm.Cond.fieldLink "java/lang/Throwable" (24 : Nat) "java/lang/Throwable" "suppressedExceptions" "Ljava/util/List;") ∈ LW := LW_mem (mt_3 (List.mem_of_getElem? (i := 100) rfl)) rfl
theorem t3_105 : (Jvm.Cond.lays "java/lang/IndexOutOfBoundsException" "java/lang/Throwable" "depth" "I") ∈ LW := LW_mem (mt_3 (List.mem_of_getElem? (i := 105) rfl)) rfl
theorem t3_109 : (Jvm.Cond.methodLink "TrigramReaders" (218 : Nat) ({ cls := "TrigramReaders$Reader", name := "trainingsOn", desc := "(I)I" } : Jvm.MethodName)) ∈ LW := LW_mem (mt_3 (List.mem_of_getElem? (i := 109) rfl)) rfl
theorem t3_110 : (Jvm.Cond.instanceMethod ({ cls := "TrigramReaders$Reader", name := "trainingsOn", desc := "(I)I" } : Jvm.MethodName)) ∈ LW := LW_mem (mt_3 (List.mem_of_getElem? (i := 110) rfl)) rfl
theorem t3_111 : (Jvm.Cond.selects "TrigramReaders$Reader" ({ cls := "TrigramReaders$Reader", name := "trainingsOn", desc := "(I)I" } : Jvm.MethodName) ({ cls := "TrigramReaders$Reader", name := "trainingsOn", desc := "(I)I" } : Jvm.MethodName)) ∈ LW := LW_mem (mt_3 (List.mem_of_getElem? (i := 111) rfl)) rfl
theorem t3_112 : (Jvm.Cond.code ({ cls := "TrigramReaders$Reader", name := "trainingsOn", desc := "(I)I" } : Jvm.MethodName) prog_8_method_7_code (2 : Nat) (Option.some Jvm.ClassFile.FieldType.int)) ∈ LW := LW_mem (mt_3 (List.mem_of_getElem? (i := 112) rfl)) rfl
theorem t3_113 : (Jvm.Cond.methodLink "TrigramReaders" (170 : Nat) ({ cls := "TrigramReaders", name := "existingDocument", desc := "(I)LTrigramReaders$Document;" } : Jvm.MethodName)) ∈ LW := LW_mem (mt_3 (List.mem_of_getElem? (i := 113) rfl)) rfl
theorem t3_115 : (Jvm.Cond.instanceMethod ({ cls := "TrigramReaders", name := "existingDocument", desc := "(I)LTrigramReaders$Document;" } : Jvm.MethodName)) ∈ LW := LW_mem (mt_3 (List.mem_of_getElem? (i := 115) rfl)) rfl
theorem t3_116 : (Jvm.Cond.code ({ cls := "TrigramReaders", name := "existingDocument", desc := "(I)LTrigramReaders$Document;" } : Jvm.MethodName) prog_1_method_67_code (3 : Nat) (Option.some (Jvm.ClassFile.FieldType.object "TrigramReaders$Document"))) ∈ LW := LW_mem (mt_3 (List.mem_of_getElem? (i := 116) rfl)) rfl
theorem t3_117 : (Jvm.Cond.methodLink "TrigramReaders" (369 : Nat) ({ cls := "TrigramReaders$State", name := "documentAt", desc := "(I)LTrigramReaders$Document;" } : Jvm.MethodName)) ∈ LW := LW_mem (mt_3 (List.mem_of_getElem? (i := 117) rfl)) rfl
theorem t3_119 : (Jvm.Cond.methodLink "TrigramReadersLaw" (46 : Nat) ({ cls := "TrigramReadersLaw", name := "cell", desc := "([II)I" } : Jvm.MethodName)) ∈ LW := LW_mem (mt_3 (List.mem_of_getElem? (i := 119) rfl)) rfl
theorem t3_120 : (Jvm.Cond.static ({ cls := "TrigramReadersLaw", name := "cell", desc := "([II)I" } : Jvm.MethodName)) ∈ LW := LW_mem (mt_3 (List.mem_of_getElem? (i := 120) rfl)) rfl
theorem t3_121 : (Jvm.Cond.code ({ cls := "TrigramReadersLaw", name := "cell", desc := "([II)I" } : Jvm.MethodName) method_2_code (2 : Nat) (Option.some Jvm.ClassFile.FieldType.int)) ∈ LW := LW_mem (mt_3 (List.mem_of_getElem? (i := 121) rfl)) rfl
theorem t3_122 : (Jvm.Cond.constant "TrigramReadersLaw" (7 : Nat) (2147483647 : Int32)) ∈ LW := LW_mem (mt_3 (List.mem_of_getElem? (i := 122) rfl)) rfl
theorem t3_123 : (Jvm.Cond.methodLink "TrigramReadersLaw" (107 : Nat) ({ cls := "TrigramReadersLaw", name := "says", desc := "(LTrigramReaders;Ljava/lang/String;)V" } : Jvm.MethodName)) ∈ LW := LW_mem (mt_3 (List.mem_of_getElem? (i := 123) rfl)) rfl
theorem t3_124 : (Jvm.Cond.static ({ cls := "TrigramReadersLaw", name := "says", desc := "(LTrigramReaders;Ljava/lang/String;)V" } : Jvm.MethodName)) ∈ LW := LW_mem (mt_3 (List.mem_of_getElem? (i := 124) rfl)) rfl
theorem t3_125 : (Jvm.Cond.code ({ cls := "TrigramReadersLaw", name := "says", desc := "(LTrigramReaders;Ljava/lang/String;)V" } : Jvm.MethodName) method_3_code (5 : Nat) (Option.none : Option Jvm.ClassFile.FieldType)) ∈ LW := LW_mem (mt_3 (List.mem_of_getElem? (i := 125) rfl)) rfl
theorem t3_126 : (Jvm.Cond.methodLink "TrigramReadersLaw" (8 : Nat) ({ cls := "java/lang/String", name := "length", desc := "()I" } : Jvm.MethodName)) ∈ LW := LW_mem (mt_3 (List.mem_of_getElem? (i := 126) rfl)) rfl
theorem t3_127 : (Jvm.Cond.methodLink "TrigramReadersLaw" (14 : Nat) ({ cls := "java/lang/String", name := "charAt", desc := "(I)C" } : Jvm.MethodName)) ∈ LW := LW_mem (mt_3 (List.mem_of_getElem? (i := 127) rfl)) rfl
theorem t3_128 : (Jvm.Cond.methodLink "TrigramReadersLaw" (18 : Nat) ({ cls := "TrigramReaders", name := "appendInput", desc := "(IIIII)I" } : Jvm.MethodName)) ∈ LW := LW_mem (mt_3 (List.mem_of_getElem? (i := 128) rfl)) rfl
theorem t3_129 : (Jvm.Cond.instanceMethod ({ cls := "TrigramReaders", name := "appendInput", desc := "(IIIII)I" } : Jvm.MethodName)) ∈ LW := LW_mem (mt_3 (List.mem_of_getElem? (i := 129) rfl)) rfl
theorem t3_130 : (Jvm.Cond.selects "TrigramReaders" ({ cls := "TrigramReaders", name := "appendInput", desc := "(IIIII)I" } : Jvm.MethodName) ({ cls := "TrigramReaders", name := "appendInput", desc := "(IIIII)I" } : Jvm.MethodName)) ∈ LW := LW_mem (mt_3 (List.mem_of_getElem? (i := 130) rfl)) rfl
theorem t3_131 : (Jvm.Cond.code ({ cls := "TrigramReaders", name := "appendInput", desc := "(IIIII)I" } : Jvm.MethodName) prog_1_method_3_code (6 : Nat) (Option.some Jvm.ClassFile.FieldType.int)) ∈ LW := LW_mem (mt_3 (List.mem_of_getElem? (i := 131) rfl)) rfl
theorem t3_132 : (Jvm.Cond.classLink "TrigramReaders" (109 : Nat) "java/lang/IllegalStateException") ∈ LW := LW_mem (mt_3 (List.mem_of_getElem? (i := 132) rfl)) rfl
theorem t3_133 : (Jvm.Cond.instantiable "java/lang/IllegalStateException" (6 : Nat)) ∈ LW := LW_mem (mt_3 (List.mem_of_getElem? (i := 133) rfl)) rfl
theorem t3_135 : (Jvm.Cond.selects "java/lang/IllegalStateException" ({ cls := "java/lang/Throwable", name := "fillInStackTrace", desc := "(I)Ljava/lang/Throwable;" } : Jvm.MethodName) ({ cls := "java/lang/Throwable", name := "fillInStackTrace", desc := "(I)Ljava/lang/Throwable;" } : Jvm.MethodName)) ∈ LW := LW_mem (mt_3 (List.mem_of_getElem? (i := 135) rfl)) rfl
theorem t3_136 : (Jvm.Cond.lays "java/lang/IllegalStateException" "java/lang/Throwable" "cause" "Ljava/lang/Throwable;") ∈ LW := LW_mem (mt_3 (List.mem_of_getElem? (i := 136) rfl)) rfl
theorem t3_137 : (Jvm.Cond.lays "java/lang/IllegalStateException" "java/lang/Throwable" "stackTrace" "[Ljava/lang/StackTraceElement;") ∈ LW := LW_mem (mt_3 (List.mem_of_getElem? (i := 137) rfl)) rfl
theorem t3_138 : (Jvm.Cond.lays "java/lang/IllegalStateException" "java/lang/Throwable" "suppressedExceptions" "Ljava/util/List;") ∈ LW := LW_mem (mt_3 (List.mem_of_getElem? (i := 138) rfl)) rfl
theorem t3_139 : (Jvm.Cond.lays "java/lang/IllegalStateException" "java/lang/Throwable" "detailMessage" "Ljava/lang/String;") ∈ LW := LW_mem (mt_3 (List.mem_of_getElem? (i := 139) rfl)) rfl
theorem t3_140 : (Jvm.Cond.lays "java/lang/IllegalStateException" "java/lang/Throwable" "backtrace" "Ljava/lang/Object;") ∈ LW := LW_mem (mt_3 (List.mem_of_getElem? (i := 140) rfl)) rfl
theorem t3_142 : (Jvm.Cond.methodLink "TrigramReaders" (113 : Nat) ({ cls := "java/lang/IllegalStateException", name := "<init>", desc := "(Ljava/lang/String;)V" } : Jvm.MethodName)) ∈ LW := LW_mem (mt_3 (List.mem_of_getElem? (i := 142) rfl)) rfl
theorem t3_143 : (Jvm.Cond.instanceMethod ({ cls := "java/lang/IllegalStateException", name := "<init>", desc := "(Ljava/lang/String;)V" } : Jvm.MethodName)) ∈ LW := LW_mem (mt_3 (List.mem_of_getElem? (i := 143) rfl)) rfl
theorem t3_144 : (Jvm.Cond.code ({ cls := "java/lang/IllegalStateException", name := "<init>", desc := "(Ljava/lang/String;)V" } : Jvm.MethodName) prog_20_method_2_code (2 : Nat) (Option.none : Option Jvm.ClassFile.FieldType)) ∈ LW := LW_mem (mt_3 (List.mem_of_getElem? (i := 144) rfl)) rfl
theorem t3_145 : (Jvm.Cond.methodLink "java/lang/IllegalStateException" (7 : Nat) ({ cls := "java/lang/RuntimeException", name := "<init>", desc := "(Ljava/lang/String;)V" } : Jvm.MethodName)) ∈ LW := LW_mem (mt_3 (List.mem_of_getElem? (i := 145) rfl)) rfl
theorem t3_146 : (Jvm.Cond.lays "java/lang/IllegalStateException" "java/lang/Throwable" "depth" "I") ∈ LW := LW_mem (mt_3 (List.mem_of_getElem? (i := 146) rfl)) rfl
theorem t3_148 : (Jvm.Cond.methodLink "TrigramReaders" (116 : Nat) ({ cls := "TrigramReaders$Bytes", name := "appendFour", desc := "(I)V" } : Jvm.MethodName)) ∈ LW := LW_mem (mt_3 (List.mem_of_getElem? (i := 148) rfl)) rfl
theorem t3_149 : (Jvm.Cond.instanceMethod ({ cls := "TrigramReaders$Bytes", name := "appendFour", desc := "(I)V" } : Jvm.MethodName)) ∈ LW := LW_mem (mt_3 (List.mem_of_getElem? (i := 149) rfl)) rfl
theorem t3_150 : (Jvm.Cond.selects "TrigramReaders$Bytes" ({ cls := "TrigramReaders$Bytes", name := "appendFour", desc := "(I)V" } : Jvm.MethodName) ({ cls := "TrigramReaders$Bytes", name := "appendFour", desc := "(I)V" } : Jvm.MethodName)) ∈ LW := LW_mem (mt_3 (List.mem_of_getElem? (i := 150) rfl)) rfl
theorem t3_151 : (Jvm.Cond.code ({ cls := "TrigramReaders$Bytes", name := "appendFour", desc := "(I)V" } : Jvm.MethodName) prog_2_method_4_code (2 : Nat) (Option.none : Option Jvm.ClassFile.FieldType)) ∈ LW := LW_mem (mt_3 (List.mem_of_getElem? (i := 151) rfl)) rfl
theorem t3_152 : (Jvm.Cond.methodLink "TrigramReaders$Bytes" (19 : Nat) ({ cls := "TrigramReaders$Bytes", name := "append", desc := "(I)V" } : Jvm.MethodName)) ∈ LW := LW_mem (mt_3 (List.mem_of_getElem? (i := 152) rfl)) rfl
theorem t3_153 : (Jvm.Cond.methodLink "TrigramReadersLaw" (24 : Nat) ({ cls := "TrigramReaders", name := "truncateInput", desc := "(I)I" } : Jvm.MethodName)) ∈ LW := LW_mem (mt_3 (List.mem_of_getElem? (i := 153) rfl)) rfl
theorem t3_154 : (Jvm.Cond.instanceMethod ({ cls := "TrigramReaders", name := "truncateInput", desc := "(I)I" } : Jvm.MethodName)) ∈ LW := LW_mem (mt_3 (List.mem_of_getElem? (i := 154) rfl)) rfl
theorem t3_155 : (Jvm.Cond.selects "TrigramReaders" ({ cls := "TrigramReaders", name := "truncateInput", desc := "(I)I" } : Jvm.MethodName) ({ cls := "TrigramReaders", name := "truncateInput", desc := "(I)I" } : Jvm.MethodName)) ∈ LW := LW_mem (mt_3 (List.mem_of_getElem? (i := 155) rfl)) rfl
theorem t3_156 : (Jvm.Cond.code ({ cls := "TrigramReaders", name := "truncateInput", desc := "(I)I" } : Jvm.MethodName) prog_1_method_4_code (2 : Nat) (Option.some Jvm.ClassFile.FieldType.int)) ∈ LW := LW_mem (mt_3 (List.mem_of_getElem? (i := 156) rfl)) rfl
theorem t3_157 : (Jvm.Cond.classLink "TrigramReaders" (119 : Nat) "java/lang/IllegalArgumentException") ∈ LW := LW_mem (mt_3 (List.mem_of_getElem? (i := 157) rfl)) rfl
theorem t3_158 : (Jvm.Cond.instantiable "java/lang/IllegalArgumentException" (6 : Nat)) ∈ LW := LW_mem (mt_3 (List.mem_of_getElem? (i := 158) rfl)) rfl
theorem t3_160 : (Jvm.Cond.selects "java/lang/IllegalArgumentException" ({ cls := "java/lang/Throwable", name := "fillInStackTrace", desc := "(I)Ljava/lang/Throwable;" } : Jvm.MethodName) ({ cls := "java/lang/Throwable", name := "fillInStackTrace", desc := "(I)Ljava/lang/Throwable;" } : Jvm.MethodName)) ∈ LW := LW_mem (mt_3 (List.mem_of_getElem? (i := 160) rfl)) rfl
theorem t3_161 : (Jvm.Cond.lays "java/lang/IllegalArgumentException" "java/lang/Throwable" "cause" "Ljava/lang/Throwable;") ∈ LW := LW_mem (mt_3 (List.mem_of_getElem? (i := 161) rfl)) rfl
theorem t3_162 : (Jvm.Cond.lays "java/lang/IllegalArgumentException" "java/lang/Throwable" "stackTrace" "[Ljava/lang/StackTraceElement;") ∈ LW := LW_mem (mt_3 (List.mem_of_getElem? (i := 162) rfl)) rfl
theorem t3_163 : (Jvm.Cond.lays "java/lang/IllegalArgumentException" "java/lang/Throwable" "suppressedExceptions" "Ljava/util/List;") ∈ LW := LW_mem (mt_3 (List.mem_of_getElem? (i := 163) rfl)) rfl
theorem t3_164 : (Jvm.Cond.lays "java/lang/IllegalArgumentException" "java/lang/Throwable" "detailMessage" "Ljava/lang/String;") ∈ LW := LW_mem (mt_3 (List.mem_of_getElem? (i := 164) rfl)) rfl
theorem t3_165 : (Jvm.Cond.lays "java/lang/IllegalArgumentException" "java/lang/Throwable" "backtrace" "Ljava/lang/Object;") ∈ LW := LW_mem (mt_3 (List.mem_of_getElem? (i := 165) rfl)) rfl
theorem t3_167 : (Jvm.Cond.methodLink "TrigramReaders" (123 : Nat) ({ cls := "java/lang/IllegalArgumentException", name := "<init>", desc := "(Ljava/lang/String;)V" } : Jvm.MethodName)) ∈ LW := LW_mem (mt_3 (List.mem_of_getElem? (i := 167) rfl)) rfl
theorem t3_168 : (Jvm.Cond.instanceMethod ({ cls := "java/lang/IllegalArgumentException", name := "<init>", desc := "(Ljava/lang/String;)V" } : Jvm.MethodName)) ∈ LW := LW_mem (mt_3 (List.mem_of_getElem? (i := 168) rfl)) rfl
theorem t3_169 : (Jvm.Cond.code ({ cls := "java/lang/IllegalArgumentException", name := "<init>", desc := "(Ljava/lang/String;)V" } : Jvm.MethodName) prog_19_method_2_code (2 : Nat) (Option.none : Option Jvm.ClassFile.FieldType)) ∈ LW := LW_mem (mt_3 (List.mem_of_getElem? (i := 169) rfl)) rfl
theorem t3_170 : (Jvm.Cond.methodLink "java/lang/IllegalArgumentException" (7 : Nat) ({ cls := "java/lang/RuntimeException", name := "<init>", desc := "(Ljava/lang/String;)V" } : Jvm.MethodName)) ∈ LW := LW_mem (mt_3 (List.mem_of_getElem? (i := 170) rfl)) rfl
theorem t3_171 : (Jvm.Cond.lays "java/lang/IllegalArgumentException" "java/lang/Throwable" "depth" "I") ∈ LW := LW_mem (mt_3 (List.mem_of_getElem? (i := 171) rfl)) rfl
theorem t3_173 : (Jvm.Cond.methodLink "TrigramReadersLaw" (111 : Nat) ({ cls := "TrigramReadersLaw", name := "loaded", desc := "(LTrigramReaders;)I" } : Jvm.MethodName)) ∈ LW := LW_mem (mt_3 (List.mem_of_getElem? (i := 173) rfl)) rfl
theorem t3_174 : (Jvm.Cond.static ({ cls := "TrigramReadersLaw", name := "loaded", desc := "(LTrigramReaders;)I" } : Jvm.MethodName)) ∈ LW := LW_mem (mt_3 (List.mem_of_getElem? (i := 174) rfl)) rfl
theorem t3_175 : (Jvm.Cond.codeWith ({ cls := "TrigramReadersLaw", name := "loaded", desc := "(LTrigramReaders;)I" } : Jvm.MethodName) method_4_code (2 : Nat) (Option.some Jvm.ClassFile.FieldType.int) [((0 : Nat), (4 : Nat), (5 : Nat), (31 : Nat))]) ∈ LW := LW_mem (mt_3 (List.mem_of_getElem? (i := 175) rfl)) rfl
theorem t3_176 : (Jvm.Cond.classLink "TrigramReadersLaw" (31 : Nat) "java/lang/IllegalArgumentException") ∈ LW := LW_mem (mt_3 (List.mem_of_getElem? (i := 176) rfl)) rfl
theorem t3_177 : (Jvm.Cond.methodLink "TrigramReadersLaw" (28 : Nat) ({ cls := "TrigramReaders", name := "load", desc := "()I" } : Jvm.MethodName)) ∈ LW := LW_mem (mt_3 (List.mem_of_getElem? (i := 177) rfl)) rfl
theorem t3_178 : (Jvm.Cond.instanceMethod ({ cls := "TrigramReaders", name := "load", desc := "()I" } : Jvm.MethodName)) ∈ LW := LW_mem (mt_3 (List.mem_of_getElem? (i := 178) rfl)) rfl
theorem t3_179 : (Jvm.Cond.selects "TrigramReaders" ({ cls := "TrigramReaders", name := "load", desc := "()I" } : Jvm.MethodName) ({ cls := "TrigramReaders", name := "load", desc := "()I" } : Jvm.MethodName)) ∈ LW := LW_mem (mt_3 (List.mem_of_getElem? (i := 179) rfl)) rfl
theorem t3_180 : (Jvm.Cond.code ({ cls := "TrigramReaders", name := "load", desc := "()I" } : Jvm.MethodName) prog_1_method_5_code (3 : Nat) (Option.some Jvm.ClassFile.FieldType.int)) ∈ LW := LW_mem (mt_3 (List.mem_of_getElem? (i := 180) rfl)) rfl
theorem t3_181 : (Jvm.Cond.methodLink "TrigramReaders" (124 : Nat) ({ cls := "TrigramReaders$State", name := "clear", desc := "()V" } : Jvm.MethodName)) ∈ LW := LW_mem (mt_3 (List.mem_of_getElem? (i := 181) rfl)) rfl
theorem t3_182 : (Jvm.Cond.instanceMethod ({ cls := "TrigramReaders$State", name := "clear", desc := "()V" } : Jvm.MethodName)) ∈ LW := LW_mem (mt_3 (List.mem_of_getElem? (i := 182) rfl)) rfl
theorem t3_183 : (Jvm.Cond.selects "TrigramReaders$State" ({ cls := "TrigramReaders$State", name := "clear", desc := "()V" } : Jvm.MethodName) ({ cls := "TrigramReaders$State", name := "clear", desc := "()V" } : Jvm.MethodName)) ∈ LW := LW_mem (mt_3 (List.mem_of_getElem? (i := 183) rfl)) rfl
theorem t3_184 : (Jvm.Cond.code ({ cls := "TrigramReaders$State", name := "clear", desc := "()V" } : Jvm.MethodName) prog_9_method_3_code (1 : Nat) (Option.none : Option Jvm.ClassFile.FieldType)) ∈ LW := LW_mem (mt_3 (List.mem_of_getElem? (i := 184) rfl)) rfl
theorem t3_185 : (Jvm.Cond.methodLink "TrigramReaders" (127 : Nat) ({ cls := "TrigramReaders$Bytes", name := "clear", desc := "()V" } : Jvm.MethodName)) ∈ LW := LW_mem (mt_3 (List.mem_of_getElem? (i := 185) rfl)) rfl
theorem t3_186 : (Jvm.Cond.instanceMethod ({ cls := "TrigramReaders$Bytes", name := "clear", desc := "()V" } : Jvm.MethodName)) ∈ LW := LW_mem (mt_3 (List.mem_of_getElem? (i := 186) rfl)) rfl
theorem t3_187 : (Jvm.Cond.selects "TrigramReaders$Bytes" ({ cls := "TrigramReaders$Bytes", name := "clear", desc := "()V" } : Jvm.MethodName) ({ cls := "TrigramReaders$Bytes", name := "clear", desc := "()V" } : Jvm.MethodName)) ∈ LW := LW_mem (mt_3 (List.mem_of_getElem? (i := 187) rfl)) rfl
theorem t3_188 : (Jvm.Cond.code ({ cls := "TrigramReaders$Bytes", name := "clear", desc := "()V" } : Jvm.MethodName) prog_2_method_2_code (1 : Nat) (Option.none : Option Jvm.ClassFile.FieldType)) ∈ LW := LW_mem (mt_3 (List.mem_of_getElem? (i := 188) rfl)) rfl
theorem t3_190 : (Jvm.Cond.methodLink "TrigramReaders" (136 : Nat) ({ cls := "TrigramReaders", name := "remember", desc := "()V" } : Jvm.MethodName)) ∈ LW := LW_mem (mt_3 (List.mem_of_getElem? (i := 190) rfl)) rfl
theorem t3_192 : (Jvm.Cond.instanceMethod ({ cls := "TrigramReaders", name := "remember", desc := "()V" } : Jvm.MethodName)) ∈ LW := LW_mem (mt_3 (List.mem_of_getElem? (i := 192) rfl)) rfl
theorem t3_193 : (Jvm.Cond.code ({ cls := "TrigramReaders", name := "remember", desc := "()V" } : Jvm.MethodName) prog_1_method_65_code (1 : Nat) (Option.none : Option Jvm.ClassFile.FieldType)) ∈ LW := LW_mem (mt_3 (List.mem_of_getElem? (i := 193) rfl)) rfl
theorem t3_194 : (Jvm.Cond.methodLink "TrigramReaders" (139 : Nat) ({ cls := "TrigramReaders$State", name := "copyFrom", desc := "(LTrigramReaders$State;)V" } : Jvm.MethodName)) ∈ LW := LW_mem (mt_3 (List.mem_of_getElem? (i := 194) rfl)) rfl
theorem t3_195 : (Jvm.Cond.instanceMethod ({ cls := "TrigramReaders$State", name := "copyFrom", desc := "(LTrigramReaders$State;)V" } : Jvm.MethodName)) ∈ LW := LW_mem (mt_3 (List.mem_of_getElem? (i := 195) rfl)) rfl
theorem t3_196 : (Jvm.Cond.selects "TrigramReaders$State" ({ cls := "TrigramReaders$State", name := "copyFrom", desc := "(LTrigramReaders$State;)V" } : Jvm.MethodName) ({ cls := "TrigramReaders$State", name := "copyFrom", desc := "(LTrigramReaders$State;)V" } : Jvm.MethodName)) ∈ LW := LW_mem (mt_3 (List.mem_of_getElem? (i := 196) rfl)) rfl
theorem t3_197 : (Jvm.Cond.code ({ cls := "TrigramReaders$State", name := "copyFrom", desc := "(LTrigramReaders$State;)V" } : Jvm.MethodName) prog_9_method_2_code (3 : Nat) (Option.none : Option Jvm.ClassFile.FieldType)) ∈ LW := LW_mem (mt_3 (List.mem_of_getElem? (i := 197) rfl)) rfl
theorem t3_198 : (Jvm.Cond.methodLink "TrigramReaders$State" (35 : Nat) ({ cls := "TrigramReaders$Reader", name := "copyFrom", desc := "(LTrigramReaders$Reader;)V" } : Jvm.MethodName)) ∈ LW := LW_mem (mt_3 (List.mem_of_getElem? (i := 198) rfl)) rfl
theorem t3_199 : (Jvm.Cond.instanceMethod ({ cls := "TrigramReaders$Reader", name := "copyFrom", desc := "(LTrigramReaders$Reader;)V" } : Jvm.MethodName)) ∈ LW := LW_mem (mt_3 (List.mem_of_getElem? (i := 199) rfl)) rfl
theorem t3_200 : (Jvm.Cond.selects "TrigramReaders$Reader" ({ cls := "TrigramReaders$Reader", name := "copyFrom", desc := "(LTrigramReaders$Reader;)V" } : Jvm.MethodName) ({ cls := "TrigramReaders$Reader", name := "copyFrom", desc := "(LTrigramReaders$Reader;)V" } : Jvm.MethodName)) ∈ LW := LW_mem (mt_3 (List.mem_of_getElem? (i := 200) rfl)) rfl
theorem t3_201 : (Jvm.Cond.code ({ cls := "TrigramReaders$Reader", name := "copyFrom", desc := "(LTrigramReaders$Reader;)V" } : Jvm.MethodName) prog_8_method_2_code (2 : Nat) (Option.none : Option Jvm.ClassFile.FieldType)) ∈ LW := LW_mem (mt_3 (List.mem_of_getElem? (i := 201) rfl)) rfl
theorem t3_202 : (Jvm.Cond.methodLink "TrigramReaders$Reader" (35 : Nat) ({ cls := "java/lang/System", name := "arraycopy", desc := "(Ljava/lang/Object;ILjava/lang/Object;II)V" } : Jvm.MethodName)) ∈ LW := LW_mem (mt_3 (List.mem_of_getElem? (i := 202) rfl)) rfl
theorem t3_203 : (Jvm.Cond.methodLink "TrigramReaders$Reader" (41 : Nat) ({ cls := "TrigramReaders$Counts", name := "copyFrom", desc := "(LTrigramReaders$Counts;)V" } : Jvm.MethodName)) ∈ LW := LW_mem (mt_3 (List.mem_of_getElem? (i := 203) rfl)) rfl
theorem t3_204 : (Jvm.Cond.instanceMethod ({ cls := "TrigramReaders$Counts", name := "copyFrom", desc := "(LTrigramReaders$Counts;)V" } : Jvm.MethodName)) ∈ LW := LW_mem (mt_3 (List.mem_of_getElem? (i := 204) rfl)) rfl
theorem t3_205 : (Jvm.Cond.selects "TrigramReaders$Counts" ({ cls := "TrigramReaders$Counts", name := "copyFrom", desc := "(LTrigramReaders$Counts;)V" } : Jvm.MethodName) ({ cls := "TrigramReaders$Counts", name := "copyFrom", desc := "(LTrigramReaders$Counts;)V" } : Jvm.MethodName)) ∈ LW := LW_mem (mt_3 (List.mem_of_getElem? (i := 205) rfl)) rfl
theorem t3_206 : (Jvm.Cond.code ({ cls := "TrigramReaders$Counts", name := "copyFrom", desc := "(LTrigramReaders$Counts;)V" } : Jvm.MethodName) prog_4_method_2_code (2 : Nat) (Option.none : Option Jvm.ClassFile.FieldType)) ∈ LW := LW_mem (mt_3 (List.mem_of_getElem? (i := 206) rfl)) rfl
theorem t3_207 : (Jvm.Cond.methodLink "TrigramReaders$State" (39 : Nat) ({ cls := "TrigramReaders$Document", name := "copyFrom", desc := "(LTrigramReaders$Document;)V" } : Jvm.MethodName)) ∈ LW := LW_mem (mt_3 (List.mem_of_getElem? (i := 207) rfl)) rfl
theorem t3_208 : (Jvm.Cond.instanceMethod ({ cls := "TrigramReaders$Document", name := "copyFrom", desc := "(LTrigramReaders$Document;)V" } : Jvm.MethodName)) ∈ LW := LW_mem (mt_3 (List.mem_of_getElem? (i := 208) rfl)) rfl
theorem t3_209 : (Jvm.Cond.selects "TrigramReaders$Document" ({ cls := "TrigramReaders$Document", name := "copyFrom", desc := "(LTrigramReaders$Document;)V" } : Jvm.MethodName) ({ cls := "TrigramReaders$Document", name := "copyFrom", desc := "(LTrigramReaders$Document;)V" } : Jvm.MethodName)) ∈ LW := LW_mem (mt_3 (List.mem_of_getElem? (i := 209) rfl)) rfl
theorem t3_210 : (Jvm.Cond.code ({ cls := "TrigramReaders$Document", name := "copyFrom", desc := "(LTrigramReaders$Document;)V" } : Jvm.MethodName) prog_5_method_2_code (2 : Nat) (Option.none : Option Jvm.ClassFile.FieldType)) ∈ LW := LW_mem (mt_3 (List.mem_of_getElem? (i := 210) rfl)) rfl
theorem t3_211 : (Jvm.Cond.methodLink "TrigramReaders$Document" (22 : Nat) ({ cls := "java/lang/System", name := "arraycopy", desc := "(Ljava/lang/Object;ILjava/lang/Object;II)V" } : Jvm.MethodName)) ∈ LW := LW_mem (mt_3 (List.mem_of_getElem? (i := 211) rfl)) rfl
theorem t3_212 : (Jvm.Cond.methodLink "TrigramReadersLaw" (104 : Nat) ({ cls := "TrigramReadersLaw", name := "text", desc := "([I)Ljava/lang/String;" } : Jvm.MethodName)) ∈ LW := LW_mem (mt_3 (List.mem_of_getElem? (i := 212) rfl)) rfl
theorem t3_213 : (Jvm.Cond.static ({ cls := "TrigramReadersLaw", name := "text", desc := "([I)Ljava/lang/String;" } : Jvm.MethodName)) ∈ LW := LW_mem (mt_3 (List.mem_of_getElem? (i := 213) rfl)) rfl
theorem t3_214 : (Jvm.Cond.code ({ cls := "TrigramReadersLaw", name := "text", desc := "([I)Ljava/lang/String;" } : Jvm.MethodName) method_7_code (7 : Nat) (Option.some (Jvm.ClassFile.FieldType.object "java/lang/String"))) ∈ LW := LW_mem (mt_3 (List.mem_of_getElem? (i := 214) rfl)) rfl
theorem t3_215 : (Jvm.Cond.classLink "TrigramReadersLaw" (33 : Nat) "java/lang/StringBuilder") ∈ LW := LW_mem (mt_3 (List.mem_of_getElem? (i := 215) rfl)) rfl
theorem t3_216 : (Jvm.Cond.instantiable "java/lang/StringBuilder" (4 : Nat)) ∈ LW := LW_mem (mt_3 (List.mem_of_getElem? (i := 216) rfl)) rfl
theorem t3_217 : (Jvm.Cond.methodLink "TrigramReadersLaw" (35 : Nat) ({ cls := "java/lang/StringBuilder", name := "<init>", desc := "()V" } : Jvm.MethodName)) ∈ LW := LW_mem (mt_3 (List.mem_of_getElem? (i := 217) rfl)) rfl
theorem t3_218 : (Jvm.Cond.instanceMethod ({ cls := "java/lang/StringBuilder", name := "<init>", desc := "()V" } : Jvm.MethodName)) ∈ LW := LW_mem (mt_3 (List.mem_of_getElem? (i := 218) rfl)) rfl
theorem t3_219 : (Jvm.Cond.code ({ cls := "java/lang/StringBuilder", name := "<init>", desc := "()V" } : Jvm.MethodName) prog_27_method_1_code (1 : Nat) (Option.none : Option Jvm.ClassFile.FieldType)) ∈ LW := LW_mem (mt_3 (List.mem_of_getElem? (i := 219) rfl)) rfl
theorem t3_220 : (Jvm.Cond.methodLink "java/lang/StringBuilder" (1 : Nat) ({ cls := "java/lang/AbstractStringBuilder", name := "<init>", desc := "(I)V" } : Jvm.MethodName)) ∈ LW := LW_mem (mt_3 (List.mem_of_getElem? (i := 220) rfl)) rfl
theorem t3_221 : (Jvm.Cond.instanceMethod ({ cls := "java/lang/AbstractStringBuilder", name := "<init>", desc := "(I)V" } : Jvm.MethodName)) ∈ LW := LW_mem (mt_3 (List.mem_of_getElem? (i := 221) rfl)) rfl
theorem t3_222 : (Jvm.Cond.code ({ cls := "java/lang/AbstractStringBuilder", name := "<init>", desc := "(I)V" } : Jvm.MethodName) prog_13_method_2_code (2 : Nat) (Option.none : Option Jvm.ClassFile.FieldType)) ∈ LW := LW_mem (mt_3 (List.mem_of_getElem? (i := 222) rfl)) rfl
theorem t3_223 : (Jvm.Cond.methodLink "java/lang/AbstractStringBuilder" (3 : Nat) ({ cls := "java/lang/Object", name := "<init>", desc := "()V" } : Jvm.MethodName)) ∈ LW := LW_mem (mt_3 (List.mem_of_getElem? (i := 223) rfl)) rfl
theorem t3_224 : (Jvm.Cond.fieldLink "java/lang/AbstractStringBuilder" (18 : Nat) "java/lang/String" "COMPACT_STRINGS" "Z") ∈ LW := LW_mem (mt_3 (List.mem_of_getElem? (i := 224) rfl)) rfl
theorem t3_225 : (Jvm.Cond.methodLink "java/lang/AbstractStringBuilder" (26 : Nat) ({ cls := "java/lang/StringUTF16", name := "newBytesFor", desc := "(I)[B" } : Jvm.MethodName)) ∈ LW := LW_mem (mt_3 (List.mem_of_getElem? (i := 225) rfl)) rfl
theorem t3_226 : (Jvm.Cond.static ({ cls := "java/lang/StringUTF16", name := "newBytesFor", desc := "(I)[B" } : Jvm.MethodName)) ∈ LW := LW_mem (mt_3 (List.mem_of_getElem? (i := 226) rfl)) rfl
theorem t3_227 : (Jvm.Cond.code ({ cls := "java/lang/StringUTF16", name := "newBytesFor", desc := "(I)[B" } : Jvm.MethodName) prog_29_method_2_code (1 : Nat) (Option.some (Jvm.ClassFile.FieldType.array Jvm.ClassFile.FieldType.byte))) ∈ LW := LW_mem (mt_3 (List.mem_of_getElem? (i := 227) rfl)) rfl
theorem t3_228 : (Jvm.Cond.methodLink "java/lang/StringUTF16" (11 : Nat) ({ cls := "java/lang/StringUTF16", name := "newBytesLength", desc := "(I)I" } : Jvm.MethodName)) ∈ LW := LW_mem (mt_3 (List.mem_of_getElem? (i := 228) rfl)) rfl
theorem t3_229 : (Jvm.Cond.static ({ cls := "java/lang/StringUTF16", name := "newBytesLength", desc := "(I)I" } : Jvm.MethodName)) ∈ LW := LW_mem (mt_3 (List.mem_of_getElem? (i := 229) rfl)) rfl
theorem t3_230 : (Jvm.Cond.code ({ cls := "java/lang/StringUTF16", name := "newBytesLength", desc := "(I)I" } : Jvm.MethodName) prog_29_method_3_code (1 : Nat) (Option.some Jvm.ClassFile.FieldType.int)) ∈ LW := LW_mem (mt_3 (List.mem_of_getElem? (i := 230) rfl)) rfl
theorem t3_231 : (Jvm.Cond.constant "java/lang/StringUTF16" (20 : Nat) (1073741823 : Int32)) ∈ LW := LW_mem (mt_3 (List.mem_of_getElem? (i := 231) rfl)) rfl
theorem t3_232 : (Jvm.Cond.fieldLink "java/lang/AbstractStringBuilder" (15 : Nat) "java/lang/AbstractStringBuilder" "value" "[B") ∈ LW := LW_mem (mt_3 (List.mem_of_getElem? (i := 232) rfl)) rfl
theorem t3_233 : (Jvm.Cond.fieldLink "java/lang/AbstractStringBuilder" (22 : Nat) "java/lang/AbstractStringBuilder" "coder" "B") ∈ LW := LW_mem (mt_3 (List.mem_of_getElem? (i := 233) rfl)) rfl
theorem t3_234 : (Jvm.Cond.fieldLink "java/lang/String" (1048 : Nat) "java/lang/AbstractStringBuilder" "maybeLatin1" "Z") ∈ LW := LW_mem (mt_3 (List.mem_of_getElem? (i := 234) rfl)) rfl
theorem t3_235 : (Jvm.Cond.fieldLink "java/lang/AbstractStringBuilder" (79 : Nat) "java/lang/AbstractStringBuilder" "count" "I") ∈ LW := LW_mem (mt_3 (List.mem_of_getElem? (i := 235) rfl)) rfl
theorem t3_236 : (Jvm.Cond.lays "java/lang/StringBuilder" "java/lang/AbstractStringBuilder" "value" "[B") ∈ LW := LW_mem (mt_3 (List.mem_of_getElem? (i := 236) rfl)) rfl
theorem t3_238 : (Jvm.Cond.lays "java/lang/StringBuilder" "java/lang/AbstractStringBuilder" "coder" "B") ∈ LW := LW_mem (mt_3 (List.mem_of_getElem? (i := 238) rfl)) rfl
theorem t4_0 : (Jvm.Cond.lays "java/lang/StringBuilder" "java/lang/AbstractStringBuilder" "maybeLatin1" "Z") ∈ LW := LW_mem (mt_4 (List.mem_of_getElem? (i := 0) rfl)) rfl
theorem t4_2 : (Jvm.Cond.lays "java/lang/StringBuilder" "java/lang/AbstractStringBuilder" "count" "I") ∈ LW := LW_mem (mt_4 (List.mem_of_getElem? (i := 2) rfl)) rfl
theorem t4_6 : (Jvm.Cond.methodLink "TrigramReadersLaw" (54 : Nat) ({ cls := "java/lang/StringBuilder", name := "append", desc := "(Ljava/lang/String;)Ljava/lang/StringBuilder;" } : Jvm.MethodName)) ∈ LW := LW_mem (mt_4 (List.mem_of_getElem? (i := 6) rfl)) rfl
theorem t4_7 : (Jvm.Cond.instanceMethod ({ cls := "java/lang/StringBuilder", name := "append", desc := "(Ljava/lang/String;)Ljava/lang/StringBuilder;" } : Jvm.MethodName)) ∈ LW := LW_mem (mt_4 (List.mem_of_getElem? (i := 7) rfl)) rfl
theorem t4_8 : (Jvm.Cond.selects "java/lang/StringBuilder" ({ cls := "java/lang/StringBuilder", name := "append", desc := "(Ljava/lang/String;)Ljava/lang/StringBuilder;" } : Jvm.MethodName) ({ cls := "java/lang/StringBuilder", name := "append", desc := "(Ljava/lang/String;)Ljava/lang/StringBuilder;" } : Jvm.MethodName)) ∈ LW := LW_mem (mt_4 (List.mem_of_getElem? (i := 8) rfl)) rfl
theorem t4_9 : (Jvm.Cond.code ({ cls := "java/lang/StringBuilder", name := "append", desc := "(Ljava/lang/String;)Ljava/lang/StringBuilder;" } : Jvm.MethodName) prog_27_method_7_code (2 : Nat) (Option.some (Jvm.ClassFile.FieldType.object "java/lang/StringBuilder"))) ∈ LW := LW_mem (mt_4 (List.mem_of_getElem? (i := 9) rfl)) rfl
theorem t4_10 : (Jvm.Cond.methodLink "java/lang/StringBuilder" (29 : Nat) ({ cls := "java/lang/AbstractStringBuilder", name := "append", desc := "(Ljava/lang/String;)Ljava/lang/AbstractStringBuilder;" } : Jvm.MethodName)) ∈ LW := LW_mem (mt_4 (List.mem_of_getElem? (i := 10) rfl)) rfl
theorem t4_11 : (Jvm.Cond.instanceMethod ({ cls := "java/lang/AbstractStringBuilder", name := "append", desc := "(Ljava/lang/String;)Ljava/lang/AbstractStringBuilder;" } : Jvm.MethodName)) ∈ LW := LW_mem (mt_4 (List.mem_of_getElem? (i := 11) rfl)) rfl
theorem t4_12 : (Jvm.Cond.code ({ cls := "java/lang/AbstractStringBuilder", name := "append", desc := "(Ljava/lang/String;)Ljava/lang/AbstractStringBuilder;" } : Jvm.MethodName) prog_13_method_22_code (3 : Nat) (Option.some (Jvm.ClassFile.FieldType.object "java/lang/AbstractStringBuilder"))) ∈ LW := LW_mem (mt_4 (List.mem_of_getElem? (i := 12) rfl)) rfl
theorem t4_13 : (Jvm.Cond.methodLink "java/lang/AbstractStringBuilder" (204 : Nat) ({ cls := "java/lang/AbstractStringBuilder", name := "appendNull", desc := "()Ljava/lang/AbstractStringBuilder;" } : Jvm.MethodName)) ∈ LW := LW_mem (mt_4 (List.mem_of_getElem? (i := 13) rfl)) rfl
theorem t4_15 : (Jvm.Cond.instanceMethod ({ cls := "java/lang/AbstractStringBuilder", name := "appendNull", desc := "()Ljava/lang/AbstractStringBuilder;" } : Jvm.MethodName)) ∈ LW := LW_mem (mt_4 (List.mem_of_getElem? (i := 15) rfl)) rfl
theorem t4_16 : (Jvm.Cond.code ({ cls := "java/lang/AbstractStringBuilder", name := "appendNull", desc := "()Ljava/lang/AbstractStringBuilder;" } : Jvm.MethodName) prog_13_method_26_code (3 : Nat) (Option.some (Jvm.ClassFile.FieldType.object "java/lang/AbstractStringBuilder"))) ∈ LW := LW_mem (mt_4 (List.mem_of_getElem? (i := 16) rfl)) rfl
theorem t4_17 : (Jvm.Cond.methodLink "java/lang/AbstractStringBuilder" (100 : Nat) ({ cls := "java/lang/AbstractStringBuilder", name := "ensureCapacityInternal", desc := "(I)V" } : Jvm.MethodName)) ∈ LW := LW_mem (mt_4 (List.mem_of_getElem? (i := 17) rfl)) rfl
theorem t4_19 : (Jvm.Cond.instanceMethod ({ cls := "java/lang/AbstractStringBuilder", name := "ensureCapacityInternal", desc := "(I)V" } : Jvm.MethodName)) ∈ LW := LW_mem (mt_4 (List.mem_of_getElem? (i := 19) rfl)) rfl
theorem t4_20 : (Jvm.Cond.code ({ cls := "java/lang/AbstractStringBuilder", name := "ensureCapacityInternal", desc := "(I)V" } : Jvm.MethodName) prog_13_method_9_code (3 : Nat) (Option.none : Option Jvm.ClassFile.FieldType)) ∈ LW := LW_mem (mt_4 (List.mem_of_getElem? (i := 20) rfl)) rfl
theorem t4_21 : (Jvm.Cond.methodLink "java/lang/AbstractStringBuilder" (104 : Nat) ({ cls := "java/lang/AbstractStringBuilder", name := "newCapacity", desc := "(I)I" } : Jvm.MethodName)) ∈ LW := LW_mem (mt_4 (List.mem_of_getElem? (i := 21) rfl)) rfl
theorem t4_23 : (Jvm.Cond.instanceMethod ({ cls := "java/lang/AbstractStringBuilder", name := "newCapacity", desc := "(I)I" } : Jvm.MethodName)) ∈ LW := LW_mem (mt_4 (List.mem_of_getElem? (i := 23) rfl)) rfl
theorem t4_24 : (Jvm.Cond.code ({ cls := "java/lang/AbstractStringBuilder", name := "newCapacity", desc := "(I)I" } : Jvm.MethodName) prog_13_method_10_code (6 : Nat) (Option.some Jvm.ClassFile.FieldType.int)) ∈ LW := LW_mem (mt_4 (List.mem_of_getElem? (i := 24) rfl)) rfl
theorem t4_25 : (Jvm.Cond.methodLink "java/lang/AbstractStringBuilder" (114 : Nat) ({ cls := "jdk/internal/util/ArraysSupport", name := "newLength", desc := "(III)I" } : Jvm.MethodName)) ∈ LW := LW_mem (mt_4 (List.mem_of_getElem? (i := 25) rfl)) rfl
theorem t4_26 : (Jvm.Cond.static ({ cls := "jdk/internal/util/ArraysSupport", name := "newLength", desc := "(III)I" } : Jvm.MethodName)) ∈ LW := LW_mem (mt_4 (List.mem_of_getElem? (i := 26) rfl)) rfl
theorem t4_27 : (Jvm.Cond.code ({ cls := "jdk/internal/util/ArraysSupport", name := "newLength", desc := "(III)I" } : Jvm.MethodName) prog_36_method_27_code (4 : Nat) (Option.some Jvm.ClassFile.FieldType.int)) ∈ LW := LW_mem (mt_4 (List.mem_of_getElem? (i := 27) rfl)) rfl
theorem t4_28 : (Jvm.Cond.methodLink "jdk/internal/util/ArraysSupport" (194 : Nat) ({ cls := "java/lang/Math", name := "max", desc := "(II)I" } : Jvm.MethodName)) ∈ LW := LW_mem (mt_4 (List.mem_of_getElem? (i := 28) rfl)) rfl
theorem t4_29 : (Jvm.Cond.static ({ cls := "java/lang/Math", name := "max", desc := "(II)I" } : Jvm.MethodName)) ∈ LW := LW_mem (mt_4 (List.mem_of_getElem? (i := 29) rfl)) rfl
theorem t4_30 : (Jvm.Cond.code ({ cls := "java/lang/Math", name := "max", desc := "(II)I" } : Jvm.MethodName) prog_23_method_65_code (2 : Nat) (Option.some Jvm.ClassFile.FieldType.int)) ∈ LW := LW_mem (mt_4 (List.mem_of_getElem? (i := 30) rfl)) rfl
theorem t4_31 : (Jvm.Cond.constant "jdk/internal/util/ArraysSupport" (200 : Nat) (2147483639 : Int32)) ∈ LW := LW_mem (mt_4 (List.mem_of_getElem? (i := 31) rfl)) rfl
theorem t4_32 : (Jvm.Cond.methodLink "jdk/internal/util/ArraysSupport" (201 : Nat) ({ cls := "jdk/internal/util/ArraysSupport", name := "hugeLength", desc := "(II)I" } : Jvm.MethodName)) ∈ LW := LW_mem (mt_4 (List.mem_of_getElem? (i := 32) rfl)) rfl
theorem t4_33 : (Jvm.Cond.static ({ cls := "jdk/internal/util/ArraysSupport", name := "hugeLength", desc := "(II)I" } : Jvm.MethodName)) ∈ LW := LW_mem (mt_4 (List.mem_of_getElem? (i := 33) rfl)) rfl
theorem t4_34 : (Jvm.Cond.code ({ cls := "jdk/internal/util/ArraysSupport", name := "hugeLength", desc := "(II)I" } : Jvm.MethodName) prog_36_method_28_code (3 : Nat) (Option.some Jvm.ClassFile.FieldType.int)) ∈ LW := LW_mem (mt_4 (List.mem_of_getElem? (i := 34) rfl)) rfl
theorem t4_35 : (Jvm.Cond.constant "java/lang/AbstractStringBuilder" (39 : Nat) (2147483647 : Int32)) ∈ LW := LW_mem (mt_4 (List.mem_of_getElem? (i := 35) rfl)) rfl
theorem t4_36 : (Jvm.Cond.methodLink "java/lang/AbstractStringBuilder" (108 : Nat) ({ cls := "java/util/Arrays", name := "copyOf", desc := "([BI)[B" } : Jvm.MethodName)) ∈ LW := LW_mem (mt_4 (List.mem_of_getElem? (i := 36) rfl)) rfl
theorem t4_37 : (Jvm.Cond.static ({ cls := "java/util/Arrays", name := "copyOf", desc := "([BI)[B" } : Jvm.MethodName)) ∈ LW := LW_mem (mt_4 (List.mem_of_getElem? (i := 37) rfl)) rfl
theorem t4_38 : (Jvm.Cond.code ({ cls := "java/util/Arrays", name := "copyOf", desc := "([BI)[B" } : Jvm.MethodName) prog_34_method_121_code (3 : Nat) (Option.some (Jvm.ClassFile.FieldType.array Jvm.ClassFile.FieldType.byte))) ∈ LW := LW_mem (mt_4 (List.mem_of_getElem? (i := 38) rfl)) rfl
theorem t4_39 : (Jvm.Cond.methodLink "java/util/Arrays" (310 : Nat) ({ cls := "[B", name := "clone", desc := "()Ljava/lang/Object;" } : Jvm.MethodName)) ∈ LW := LW_mem (mt_4 (List.mem_of_getElem? (i := 39) rfl)) rfl
theorem t4_41 : (Jvm.Cond.native ({ cls := "java/lang/Object", name := "clone", desc := "()Ljava/lang/Object;" } : Jvm.MethodName)) ∈ LW := LW_mem (mt_4 (List.mem_of_getElem? (i := 41) rfl)) rfl
theorem t4_42 : (Jvm.Cond.instanceMethod ({ cls := "java/lang/Object", name := "clone", desc := "()Ljava/lang/Object;" } : Jvm.MethodName)) ∈ LW := LW_mem (mt_4 (List.mem_of_getElem? (i := 42) rfl)) rfl
theorem t4_43 : (Jvm.Cond.selects "[B" ({ cls := "[B", name := "clone", desc := "()Ljava/lang/Object;" } : Jvm.MethodName) ({ cls := "java/lang/Object", name := "clone", desc := "()Ljava/lang/Object;" } : Jvm.MethodName)) ∈ LW := LW_mem (mt_4 (List.mem_of_getElem? (i := 43) rfl)) rfl
theorem t4_45 : (Jvm.Cond.classLink "java/util/Arrays" (311 : Nat) "[B") ∈ LW := LW_mem (mt_4 (List.mem_of_getElem? (i := 45) rfl)) rfl
theorem t4_46 : (Jvm.Cond.methodLink "java/util/Arrays" (304 : Nat) ({ cls := "java/lang/Math", name := "min", desc := "(II)I" } : Jvm.MethodName)) ∈ LW := LW_mem (mt_4 (List.mem_of_getElem? (i := 46) rfl)) rfl
theorem t4_47 : (Jvm.Cond.methodLink "java/util/Arrays" (150 : Nat) ({ cls := "java/lang/System", name := "arraycopy", desc := "(Ljava/lang/Object;ILjava/lang/Object;II)V" } : Jvm.MethodName)) ∈ LW := LW_mem (mt_4 (List.mem_of_getElem? (i := 47) rfl)) rfl
theorem t4_48 : (Jvm.Cond.methodLink "java/lang/AbstractStringBuilder" (83 : Nat) ({ cls := "java/lang/AbstractStringBuilder", name := "isLatin1", desc := "()Z" } : Jvm.MethodName)) ∈ LW := LW_mem (mt_4 (List.mem_of_getElem? (i := 48) rfl)) rfl
theorem t4_49 : (Jvm.Cond.instanceMethod ({ cls := "java/lang/AbstractStringBuilder", name := "isLatin1", desc := "()Z" } : Jvm.MethodName)) ∈ LW := LW_mem (mt_4 (List.mem_of_getElem? (i := 49) rfl)) rfl
theorem t4_51 : (Jvm.Cond.selects "java/lang/StringBuilder" ({ cls := "java/lang/AbstractStringBuilder", name := "isLatin1", desc := "()Z" } : Jvm.MethodName) ({ cls := "java/lang/AbstractStringBuilder", name := "isLatin1", desc := "()Z" } : Jvm.MethodName)) ∈ LW := LW_mem (mt_4 (List.mem_of_getElem? (i := 51) rfl)) rfl
theorem t4_52 : (Jvm.Cond.code ({ cls := "java/lang/AbstractStringBuilder", name := "isLatin1", desc := "()Z" } : Jvm.MethodName) prog_13_method_68_code (1 : Nat) (Option.some Jvm.ClassFile.FieldType.boolean)) ∈ LW := LW_mem (mt_4 (List.mem_of_getElem? (i := 52) rfl)) rfl
theorem t4_53 : (Jvm.Cond.methodLink "java/lang/AbstractStringBuilder" (226 : Nat) ({ cls := "java/lang/StringUTF16", name := "putCharsAt", desc := "([BICCCC)I" } : Jvm.MethodName)) ∈ LW := LW_mem (mt_4 (List.mem_of_getElem? (i := 53) rfl)) rfl
theorem t4_54 : (Jvm.Cond.static ({ cls := "java/lang/StringUTF16", name := "putCharsAt", desc := "([BICCCC)I" } : Jvm.MethodName)) ∈ LW := LW_mem (mt_4 (List.mem_of_getElem? (i := 54) rfl)) rfl
theorem t4_55 : (Jvm.Cond.code ({ cls := "java/lang/StringUTF16", name := "putCharsAt", desc := "([BICCCC)I" } : Jvm.MethodName) prog_29_method_81_code (7 : Nat) (Option.some Jvm.ClassFile.FieldType.int)) ∈ LW := LW_mem (mt_4 (List.mem_of_getElem? (i := 55) rfl)) rfl
theorem t4_56 : (Jvm.Cond.methodLink "java/lang/StringUTF16" (96 : Nat) ({ cls := "java/lang/StringUTF16", name := "checkBoundsBeginEnd", desc := "(II[B)V" } : Jvm.MethodName)) ∈ LW := LW_mem (mt_4 (List.mem_of_getElem? (i := 56) rfl)) rfl
theorem t4_57 : (Jvm.Cond.static ({ cls := "java/lang/StringUTF16", name := "checkBoundsBeginEnd", desc := "(II[B)V" } : Jvm.MethodName)) ∈ LW := LW_mem (mt_4 (List.mem_of_getElem? (i := 57) rfl)) rfl
theorem t4_58 : (Jvm.Cond.code ({ cls := "java/lang/StringUTF16", name := "checkBoundsBeginEnd", desc := "(II[B)V" } : Jvm.MethodName) prog_29_method_93_code (3 : Nat) (Option.none : Option Jvm.ClassFile.FieldType)) ∈ LW := LW_mem (mt_4 (List.mem_of_getElem? (i := 58) rfl)) rfl
theorem t4_59 : (Jvm.Cond.methodLink "java/lang/StringUTF16" (241 : Nat) ({ cls := "java/lang/String", name := "checkBoundsBeginEnd", desc := "(III)V" } : Jvm.MethodName)) ∈ LW := LW_mem (mt_4 (List.mem_of_getElem? (i := 59) rfl)) rfl
theorem t4_60 : (Jvm.Cond.static ({ cls := "java/lang/String", name := "checkBoundsBeginEnd", desc := "(III)V" } : Jvm.MethodName)) ∈ LW := LW_mem (mt_4 (List.mem_of_getElem? (i := 60) rfl)) rfl
theorem t4_61 : (Jvm.Cond.code ({ cls := "java/lang/String", name := "checkBoundsBeginEnd", desc := "(III)V" } : Jvm.MethodName) prog_26_method_158_code (3 : Nat) (Option.none : Option Jvm.ClassFile.FieldType)) ∈ LW := LW_mem (mt_4 (List.mem_of_getElem? (i := 61) rfl)) rfl
theorem t4_62 : (Jvm.Cond.methodLink "java/lang/String" (1062 : Nat) ({ cls := "jdk/internal/util/Preconditions", name := "checkFromToIndex", desc := "(IIILjava/util/function/BiFunction;)I" } : Jvm.MethodName)) ∈ LW := LW_mem (mt_4 (List.mem_of_getElem? (i := 62) rfl)) rfl
theorem t4_63 : (Jvm.Cond.static ({ cls := "jdk/internal/util/Preconditions", name := "checkFromToIndex", desc := "(IIILjava/util/function/BiFunction;)I" } : Jvm.MethodName)) ∈ LW := LW_mem (mt_4 (List.mem_of_getElem? (i := 63) rfl)) rfl
theorem t4_64 : (Jvm.Cond.code ({ cls := "jdk/internal/util/Preconditions", name := "checkFromToIndex", desc := "(IIILjava/util/function/BiFunction;)I" } : Jvm.MethodName) prog_37_method_12_code (4 : Nat) (Option.some Jvm.ClassFile.FieldType.int)) ∈ LW := LW_mem (mt_4 (List.mem_of_getElem? (i := 64) rfl)) rfl
theorem t4_65 : (Jvm.Cond.methodLink "java/lang/StringUTF16" (111 : Nat) ({ cls := "java/lang/StringUTF16", name := "putChar", desc := "([BII)V" } : Jvm.MethodName)) ∈ LW := LW_mem (mt_4 (List.mem_of_getElem? (i := 65) rfl)) rfl
theorem t4_66 : (Jvm.Cond.static ({ cls := "java/lang/StringUTF16", name := "putChar", desc := "([BII)V" } : Jvm.MethodName)) ∈ LW := LW_mem (mt_4 (List.mem_of_getElem? (i := 66) rfl)) rfl
theorem t4_67 : (Jvm.Cond.code ({ cls := "java/lang/StringUTF16", name := "putChar", desc := "([BII)V" } : Jvm.MethodName) prog_29_method_4_code (3 : Nat) (Option.none : Option Jvm.ClassFile.FieldType)) ∈ LW := LW_mem (mt_4 (List.mem_of_getElem? (i := 67) rfl)) rfl
theorem t4_68 : (Jvm.Cond.methodLink "java/lang/AbstractStringBuilder" (32 : Nat) ({ cls := "java/lang/String", name := "length", desc := "()I" } : Jvm.MethodName)) ∈ LW := LW_mem (mt_4 (List.mem_of_getElem? (i := 68) rfl)) rfl
theorem t4_69 : (Jvm.Cond.methodLink "java/lang/AbstractStringBuilder" (208 : Nat) ({ cls := "java/lang/AbstractStringBuilder", name := "putStringAt", desc := "(ILjava/lang/String;)V" } : Jvm.MethodName)) ∈ LW := LW_mem (mt_4 (List.mem_of_getElem? (i := 69) rfl)) rfl
theorem t4_71 : (Jvm.Cond.instanceMethod ({ cls := "java/lang/AbstractStringBuilder", name := "putStringAt", desc := "(ILjava/lang/String;)V" } : Jvm.MethodName)) ∈ LW := LW_mem (mt_4 (List.mem_of_getElem? (i := 71) rfl)) rfl
theorem t4_72 : (Jvm.Cond.code ({ cls := "java/lang/AbstractStringBuilder", name := "putStringAt", desc := "(ILjava/lang/String;)V" } : Jvm.MethodName) prog_13_method_73_code (3 : Nat) (Option.none : Option Jvm.ClassFile.FieldType)) ∈ LW := LW_mem (mt_4 (List.mem_of_getElem? (i := 72) rfl)) rfl
theorem t4_73 : (Jvm.Cond.methodLink "java/lang/AbstractStringBuilder" (397 : Nat) ({ cls := "java/lang/AbstractStringBuilder", name := "inflateIfNeededFor", desc := "(Ljava/lang/String;)V" } : Jvm.MethodName)) ∈ LW := LW_mem (mt_4 (List.mem_of_getElem? (i := 73) rfl)) rfl
theorem t4_75 : (Jvm.Cond.instanceMethod ({ cls := "java/lang/AbstractStringBuilder", name := "inflateIfNeededFor", desc := "(Ljava/lang/String;)V" } : Jvm.MethodName)) ∈ LW := LW_mem (mt_4 (List.mem_of_getElem? (i := 75) rfl)) rfl
theorem t4_76 : (Jvm.Cond.code ({ cls := "java/lang/AbstractStringBuilder", name := "inflateIfNeededFor", desc := "(Ljava/lang/String;)V" } : Jvm.MethodName) prog_13_method_71_code (2 : Nat) (Option.none : Option Jvm.ClassFile.FieldType)) ∈ LW := LW_mem (mt_4 (List.mem_of_getElem? (i := 76) rfl)) rfl
theorem t4_77 : (Jvm.Cond.methodLink "java/lang/AbstractStringBuilder" (40 : Nat) ({ cls := "java/lang/String", name := "coder", desc := "()B" } : Jvm.MethodName)) ∈ LW := LW_mem (mt_4 (List.mem_of_getElem? (i := 77) rfl)) rfl
theorem t4_78 : (Jvm.Cond.methodLink "java/lang/AbstractStringBuilder" (195 : Nat) ({ cls := "java/lang/AbstractStringBuilder", name := "inflate", desc := "()V" } : Jvm.MethodName)) ∈ LW := LW_mem (mt_4 (List.mem_of_getElem? (i := 78) rfl)) rfl
theorem t4_80 : (Jvm.Cond.instanceMethod ({ cls := "java/lang/AbstractStringBuilder", name := "inflate", desc := "()V" } : Jvm.MethodName)) ∈ LW := LW_mem (mt_4 (List.mem_of_getElem? (i := 80) rfl)) rfl
theorem t4_81 : (Jvm.Cond.code ({ cls := "java/lang/AbstractStringBuilder", name := "inflate", desc := "()V" } : Jvm.MethodName) prog_13_method_11_code (2 : Nat) (Option.none : Option Jvm.ClassFile.FieldType)) ∈ LW := LW_mem (mt_4 (List.mem_of_getElem? (i := 81) rfl)) rfl
theorem t4_82 : (Jvm.Cond.methodLink "java/lang/AbstractStringBuilder" (125 : Nat) ({ cls := "java/lang/StringLatin1", name := "inflate", desc := "([BI[BII)V" } : Jvm.MethodName)) ∈ LW := LW_mem (mt_4 (List.mem_of_getElem? (i := 82) rfl)) rfl
theorem t4_83 : (Jvm.Cond.static ({ cls := "java/lang/StringLatin1", name := "inflate", desc := "([BI[BII)V" } : Jvm.MethodName)) ∈ LW := LW_mem (mt_4 (List.mem_of_getElem? (i := 83) rfl)) rfl
theorem t4_84 : (Jvm.Cond.code ({ cls := "java/lang/StringLatin1", name := "inflate", desc := "([BI[BII)V" } : Jvm.MethodName) prog_28_method_50_code (5 : Nat) (Option.none : Option Jvm.ClassFile.FieldType)) ∈ LW := LW_mem (mt_4 (List.mem_of_getElem? (i := 84) rfl)) rfl
theorem t4_85 : (Jvm.Cond.methodLink "java/lang/StringLatin1" (240 : Nat) ({ cls := "java/lang/StringUTF16", name := "inflate", desc := "([BI[BII)V" } : Jvm.MethodName)) ∈ LW := LW_mem (mt_4 (List.mem_of_getElem? (i := 85) rfl)) rfl
theorem t4_86 : (Jvm.Cond.static ({ cls := "java/lang/StringUTF16", name := "inflate", desc := "([BI[BII)V" } : Jvm.MethodName)) ∈ LW := LW_mem (mt_4 (List.mem_of_getElem? (i := 86) rfl)) rfl
theorem t4_87 : (Jvm.Cond.code ({ cls := "java/lang/StringUTF16", name := "inflate", desc := "([BI[BII)V" } : Jvm.MethodName) prog_29_method_86_code (6 : Nat) (Option.none : Option Jvm.ClassFile.FieldType)) ∈ LW := LW_mem (mt_4 (List.mem_of_getElem? (i := 87) rfl)) rfl
theorem t4_88 : (Jvm.Cond.methodLink "java/lang/StringUTF16" (173 : Nat) ({ cls := "java/lang/StringUTF16", name := "checkBoundsOffCount", desc := "(II[B)V" } : Jvm.MethodName)) ∈ LW := LW_mem (mt_4 (List.mem_of_getElem? (i := 88) rfl)) rfl
theorem t4_89 : (Jvm.Cond.static ({ cls := "java/lang/StringUTF16", name := "checkBoundsOffCount", desc := "(II[B)V" } : Jvm.MethodName)) ∈ LW := LW_mem (mt_4 (List.mem_of_getElem? (i := 89) rfl)) rfl
theorem t4_90 : (Jvm.Cond.code ({ cls := "java/lang/StringUTF16", name := "checkBoundsOffCount", desc := "(II[B)V" } : Jvm.MethodName) prog_29_method_94_code (3 : Nat) (Option.none : Option Jvm.ClassFile.FieldType)) ∈ LW := LW_mem (mt_4 (List.mem_of_getElem? (i := 90) rfl)) rfl
theorem t4_91 : (Jvm.Cond.methodLink "java/lang/StringUTF16" (419 : Nat) ({ cls := "java/lang/String", name := "checkBoundsOffCount", desc := "(III)I" } : Jvm.MethodName)) ∈ LW := LW_mem (mt_4 (List.mem_of_getElem? (i := 91) rfl)) rfl
theorem t4_92 : (Jvm.Cond.static ({ cls := "java/lang/String", name := "checkBoundsOffCount", desc := "(III)I" } : Jvm.MethodName)) ∈ LW := LW_mem (mt_4 (List.mem_of_getElem? (i := 92) rfl)) rfl
theorem t4_93 : (Jvm.Cond.code ({ cls := "java/lang/String", name := "checkBoundsOffCount", desc := "(III)I" } : Jvm.MethodName) prog_26_method_157_code (3 : Nat) (Option.some Jvm.ClassFile.FieldType.int)) ∈ LW := LW_mem (mt_4 (List.mem_of_getElem? (i := 93) rfl)) rfl
theorem t4_94 : (Jvm.Cond.methodLink "java/lang/String" (1065 : Nat) ({ cls := "jdk/internal/util/Preconditions", name := "checkFromIndexSize", desc := "(IIILjava/util/function/BiFunction;)I" } : Jvm.MethodName)) ∈ LW := LW_mem (mt_4 (List.mem_of_getElem? (i := 94) rfl)) rfl
theorem t4_95 : (Jvm.Cond.static ({ cls := "jdk/internal/util/Preconditions", name := "checkFromIndexSize", desc := "(IIILjava/util/function/BiFunction;)I" } : Jvm.MethodName)) ∈ LW := LW_mem (mt_4 (List.mem_of_getElem? (i := 95) rfl)) rfl
theorem t4_96 : (Jvm.Cond.code ({ cls := "jdk/internal/util/Preconditions", name := "checkFromIndexSize", desc := "(IIILjava/util/function/BiFunction;)I" } : Jvm.MethodName) prog_37_method_13_code (4 : Nat) (Option.some Jvm.ClassFile.FieldType.int)) ∈ LW := LW_mem (mt_4 (List.mem_of_getElem? (i := 96) rfl)) rfl
theorem t4_97 : (Jvm.Cond.methodLink "java/lang/AbstractStringBuilder" (399 : Nat) ({ cls := "java/lang/String", name := "getBytes", desc := "([BIB)V" } : Jvm.MethodName)) ∈ LW := LW_mem (mt_4 (List.mem_of_getElem? (i := 97) rfl)) rfl
theorem t4_98 : (Jvm.Cond.instanceMethod ({ cls := "java/lang/String", name := "getBytes", desc := "([BIB)V" } : Jvm.MethodName)) ∈ LW := LW_mem (mt_4 (List.mem_of_getElem? (i := 98) rfl)) rfl
theorem t4_99 : (Jvm.Cond.selects "java/lang/String" ({ cls := "java/lang/String", name := "getBytes", desc := "([BIB)V" } : Jvm.MethodName) ({ cls := "java/lang/String", name := "getBytes", desc := "([BIB)V" } : Jvm.MethodName)) ∈ LW := LW_mem (mt_4 (List.mem_of_getElem? (i := 99) rfl)) rfl
theorem t4_100 : (Jvm.Cond.code ({ cls := "java/lang/String", name := "getBytes", desc := "([BIB)V" } : Jvm.MethodName) prog_26_method_147_code (4 : Nat) (Option.none : Option Jvm.ClassFile.FieldType)) ∈ LW := LW_mem (mt_4 (List.mem_of_getElem? (i := 100) rfl)) rfl
theorem t4_101 : (Jvm.Cond.methodLink "java/lang/String" (212 : Nat) ({ cls := "java/lang/System", name := "arraycopy", desc := "(Ljava/lang/Object;ILjava/lang/Object;II)V" } : Jvm.MethodName)) ∈ LW := LW_mem (mt_4 (List.mem_of_getElem? (i := 101) rfl)) rfl
theorem t4_102 : (Jvm.Cond.methodLink "java/lang/String" (106 : Nat) ({ cls := "java/lang/StringLatin1", name := "inflate", desc := "([BI[BII)V" } : Jvm.MethodName)) ∈ LW := LW_mem (mt_4 (List.mem_of_getElem? (i := 102) rfl)) rfl
theorem t4_104 : (Jvm.Cond.methodLink "TrigramReadersLaw" (38 : Nat) ({ cls := "java/lang/StringBuilder", name := "append", desc := "(C)Ljava/lang/StringBuilder;" } : Jvm.MethodName)) ∈ LW := LW_mem (mt_4 (List.mem_of_getElem? (i := 104) rfl)) rfl
theorem t4_105 : (Jvm.Cond.instanceMethod ({ cls := "java/lang/StringBuilder", name := "append", desc := "(C)Ljava/lang/StringBuilder;" } : Jvm.MethodName)) ∈ LW := LW_mem (mt_4 (List.mem_of_getElem? (i := 105) rfl)) rfl
theorem t4_106 : (Jvm.Cond.selects "java/lang/StringBuilder" ({ cls := "java/lang/StringBuilder", name := "append", desc := "(C)Ljava/lang/StringBuilder;" } : Jvm.MethodName) ({ cls := "java/lang/StringBuilder", name := "append", desc := "(C)Ljava/lang/StringBuilder;" } : Jvm.MethodName)) ∈ LW := LW_mem (mt_4 (List.mem_of_getElem? (i := 106) rfl)) rfl
theorem t4_107 : (Jvm.Cond.code ({ cls := "java/lang/StringBuilder", name := "append", desc := "(C)Ljava/lang/StringBuilder;" } : Jvm.MethodName) prog_27_method_14_code (2 : Nat) (Option.some (Jvm.ClassFile.FieldType.object "java/lang/StringBuilder"))) ∈ LW := LW_mem (mt_4 (List.mem_of_getElem? (i := 107) rfl)) rfl
theorem t4_108 : (Jvm.Cond.methodLink "java/lang/StringBuilder" (50 : Nat) ({ cls := "java/lang/AbstractStringBuilder", name := "append", desc := "(C)Ljava/lang/AbstractStringBuilder;" } : Jvm.MethodName)) ∈ LW := LW_mem (mt_4 (List.mem_of_getElem? (i := 108) rfl)) rfl
theorem t4_109 : (Jvm.Cond.instanceMethod ({ cls := "java/lang/AbstractStringBuilder", name := "append", desc := "(C)Ljava/lang/AbstractStringBuilder;" } : Jvm.MethodName)) ∈ LW := LW_mem (mt_4 (List.mem_of_getElem? (i := 109) rfl)) rfl
theorem t4_110 : (Jvm.Cond.code ({ cls := "java/lang/AbstractStringBuilder", name := "append", desc := "(C)Ljava/lang/AbstractStringBuilder;" } : Jvm.MethodName) prog_13_method_31_code (2 : Nat) (Option.some (Jvm.ClassFile.FieldType.object "java/lang/AbstractStringBuilder"))) ∈ LW := LW_mem (mt_4 (List.mem_of_getElem? (i := 110) rfl)) rfl
theorem t4_111 : (Jvm.Cond.methodLink "java/lang/AbstractStringBuilder" (191 : Nat) ({ cls := "java/lang/StringLatin1", name := "canEncode", desc := "(C)Z" } : Jvm.MethodName)) ∈ LW := LW_mem (mt_4 (List.mem_of_getElem? (i := 111) rfl)) rfl
theorem t4_112 : (Jvm.Cond.static ({ cls := "java/lang/StringLatin1", name := "canEncode", desc := "(C)Z" } : Jvm.MethodName)) ∈ LW := LW_mem (mt_4 (List.mem_of_getElem? (i := 112) rfl)) rfl
theorem t4_113 : (Jvm.Cond.code ({ cls := "java/lang/StringLatin1", name := "canEncode", desc := "(C)Z" } : Jvm.MethodName) prog_28_method_3_code (1 : Nat) (Option.some Jvm.ClassFile.FieldType.boolean)) ∈ LW := LW_mem (mt_4 (List.mem_of_getElem? (i := 113) rfl)) rfl
theorem t4_114 : (Jvm.Cond.methodLink "java/lang/AbstractStringBuilder" (197 : Nat) ({ cls := "java/lang/StringUTF16", name := "putCharSB", desc := "([BII)V" } : Jvm.MethodName)) ∈ LW := LW_mem (mt_4 (List.mem_of_getElem? (i := 114) rfl)) rfl
theorem t4_115 : (Jvm.Cond.static ({ cls := "java/lang/StringUTF16", name := "putCharSB", desc := "([BII)V" } : Jvm.MethodName)) ∈ LW := LW_mem (mt_4 (List.mem_of_getElem? (i := 115) rfl)) rfl
theorem t4_116 : (Jvm.Cond.code ({ cls := "java/lang/StringUTF16", name := "putCharSB", desc := "([BII)V" } : Jvm.MethodName) prog_29_method_71_code (3 : Nat) (Option.none : Option Jvm.ClassFile.FieldType)) ∈ LW := LW_mem (mt_4 (List.mem_of_getElem? (i := 116) rfl)) rfl
theorem t4_119 : (Jvm.Cond.methodLink "TrigramReadersLaw" (63 : Nat) ({ cls := "TrigramReadersLaw", name := "document", desc := "(II)[I" } : Jvm.MethodName)) ∈ LW := LW_mem (mt_4 (List.mem_of_getElem? (i := 119) rfl)) rfl
theorem t4_120 : (Jvm.Cond.static ({ cls := "TrigramReadersLaw", name := "document", desc := "(II)[I" } : Jvm.MethodName)) ∈ LW := LW_mem (mt_4 (List.mem_of_getElem? (i := 120) rfl)) rfl
theorem t4_121 : (Jvm.Cond.code ({ cls := "TrigramReadersLaw", name := "document", desc := "(II)[I" } : Jvm.MethodName) method_5_code (5 : Nat) (Option.some (Jvm.ClassFile.FieldType.array Jvm.ClassFile.FieldType.int))) ∈ LW := LW_mem (mt_4 (List.mem_of_getElem? (i := 121) rfl)) rfl
theorem t4_122 : (Jvm.Cond.methodLink "TrigramReadersLaw" (67 : Nat) ({ cls := "TrigramReadersLaw", name := "word", desc := "([I)Ljava/lang/String;" } : Jvm.MethodName)) ∈ LW := LW_mem (mt_4 (List.mem_of_getElem? (i := 122) rfl)) rfl
theorem t4_123 : (Jvm.Cond.static ({ cls := "TrigramReadersLaw", name := "word", desc := "([I)Ljava/lang/String;" } : Jvm.MethodName)) ∈ LW := LW_mem (mt_4 (List.mem_of_getElem? (i := 123) rfl)) rfl
theorem t4_124 : (Jvm.Cond.code ({ cls := "TrigramReadersLaw", name := "word", desc := "([I)Ljava/lang/String;" } : Jvm.MethodName) method_6_code (3 : Nat) (Option.some (Jvm.ClassFile.FieldType.object "java/lang/String"))) ∈ LW := LW_mem (mt_4 (List.mem_of_getElem? (i := 124) rfl)) rfl
theorem t4_126 : (Jvm.Cond.methodLink "TrigramReadersLaw" (42 : Nat) ({ cls := "java/lang/StringBuilder", name := "toString", desc := "()Ljava/lang/String;" } : Jvm.MethodName)) ∈ LW := LW_mem (mt_4 (List.mem_of_getElem? (i := 126) rfl)) rfl
theorem t4_127 : (Jvm.Cond.instanceMethod ({ cls := "java/lang/StringBuilder", name := "toString", desc := "()Ljava/lang/String;" } : Jvm.MethodName)) ∈ LW := LW_mem (mt_4 (List.mem_of_getElem? (i := 127) rfl)) rfl
theorem t4_128 : (Jvm.Cond.selects "java/lang/StringBuilder" ({ cls := "java/lang/StringBuilder", name := "toString", desc := "()Ljava/lang/String;" } : Jvm.MethodName) ({ cls := "java/lang/StringBuilder", name := "toString", desc := "()Ljava/lang/String;" } : Jvm.MethodName)) ∈ LW := LW_mem (mt_4 (List.mem_of_getElem? (i := 128) rfl)) rfl
theorem t4_129 : (Jvm.Cond.code ({ cls := "java/lang/StringBuilder", name := "toString", desc := "()Ljava/lang/String;" } : Jvm.MethodName) prog_27_method_42_code (1 : Nat) (Option.some (Jvm.ClassFile.FieldType.object "java/lang/String"))) ∈ LW := LW_mem (mt_4 (List.mem_of_getElem? (i := 129) rfl)) rfl
theorem t4_130 : (Jvm.Cond.classLink "java/lang/StringBuilder" (18 : Nat) "java/lang/String") ∈ LW := LW_mem (mt_4 (List.mem_of_getElem? (i := 130) rfl)) rfl
theorem t4_131 : (Jvm.Cond.instantiable "java/lang/String" (4 : Nat)) ∈ LW := LW_mem (mt_4 (List.mem_of_getElem? (i := 131) rfl)) rfl
theorem t4_132 : (Jvm.Cond.methodLink "java/lang/StringBuilder" (137 : Nat) ({ cls := "java/lang/String", name := "<init>", desc := "(Ljava/lang/StringBuilder;)V" } : Jvm.MethodName)) ∈ LW := LW_mem (mt_4 (List.mem_of_getElem? (i := 132) rfl)) rfl
theorem t4_133 : (Jvm.Cond.instanceMethod ({ cls := "java/lang/String", name := "<init>", desc := "(Ljava/lang/StringBuilder;)V" } : Jvm.MethodName)) ∈ LW := LW_mem (mt_4 (List.mem_of_getElem? (i := 133) rfl)) rfl
theorem t4_134 : (Jvm.Cond.code ({ cls := "java/lang/String", name := "<init>", desc := "(Ljava/lang/StringBuilder;)V" } : Jvm.MethodName) prog_26_method_53_code (2 : Nat) (Option.none : Option Jvm.ClassFile.FieldType)) ∈ LW := LW_mem (mt_4 (List.mem_of_getElem? (i := 134) rfl)) rfl
theorem t4_135 : (Jvm.Cond.methodLink "java/lang/String" (489 : Nat) ({ cls := "java/lang/String", name := "<init>", desc := "(Ljava/lang/AbstractStringBuilder;Ljava/lang/Void;)V" } : Jvm.MethodName)) ∈ LW := LW_mem (mt_4 (List.mem_of_getElem? (i := 135) rfl)) rfl
theorem t4_136 : (Jvm.Cond.instanceMethod ({ cls := "java/lang/String", name := "<init>", desc := "(Ljava/lang/AbstractStringBuilder;Ljava/lang/Void;)V" } : Jvm.MethodName)) ∈ LW := LW_mem (mt_4 (List.mem_of_getElem? (i := 136) rfl)) rfl
theorem t4_137 : (Jvm.Cond.code ({ cls := "java/lang/String", name := "<init>", desc := "(Ljava/lang/AbstractStringBuilder;Ljava/lang/Void;)V" } : Jvm.MethodName) prog_26_method_150_code (5 : Nat) (Option.none : Option Jvm.ClassFile.FieldType)) ∈ LW := LW_mem (mt_4 (List.mem_of_getElem? (i := 137) rfl)) rfl
theorem t4_138 : (Jvm.Cond.methodLink "java/lang/String" (1 : Nat) ({ cls := "java/lang/Object", name := "<init>", desc := "()V" } : Jvm.MethodName)) ∈ LW := LW_mem (mt_4 (List.mem_of_getElem? (i := 138) rfl)) rfl
theorem t4_139 : (Jvm.Cond.methodLink "java/lang/String" (552 : Nat) ({ cls := "java/lang/AbstractStringBuilder", name := "getValue", desc := "()[B" } : Jvm.MethodName)) ∈ LW := LW_mem (mt_4 (List.mem_of_getElem? (i := 139) rfl)) rfl
theorem t4_140 : (Jvm.Cond.instanceMethod ({ cls := "java/lang/AbstractStringBuilder", name := "getValue", desc := "()[B" } : Jvm.MethodName)) ∈ LW := LW_mem (mt_4 (List.mem_of_getElem? (i := 140) rfl)) rfl
theorem t4_142 : (Jvm.Cond.selects "java/lang/StringBuilder" ({ cls := "java/lang/AbstractStringBuilder", name := "getValue", desc := "()[B" } : Jvm.MethodName) ({ cls := "java/lang/AbstractStringBuilder", name := "getValue", desc := "()[B" } : Jvm.MethodName)) ∈ LW := LW_mem (mt_4 (List.mem_of_getElem? (i := 142) rfl)) rfl
theorem t4_143 : (Jvm.Cond.code ({ cls := "java/lang/AbstractStringBuilder", name := "getValue", desc := "()[B" } : Jvm.MethodName) prog_13_method_64_code (1 : Nat) (Option.some (Jvm.ClassFile.FieldType.array Jvm.ClassFile.FieldType.byte))) ∈ LW := LW_mem (mt_4 (List.mem_of_getElem? (i := 143) rfl)) rfl
theorem t4_144 : (Jvm.Cond.methodLink "java/lang/String" (549 : Nat) ({ cls := "java/lang/AbstractStringBuilder", name := "length", desc := "()I" } : Jvm.MethodName)) ∈ LW := LW_mem (mt_4 (List.mem_of_getElem? (i := 144) rfl)) rfl
theorem t4_145 : (Jvm.Cond.instanceMethod ({ cls := "java/lang/AbstractStringBuilder", name := "length", desc := "()I" } : Jvm.MethodName)) ∈ LW := LW_mem (mt_4 (List.mem_of_getElem? (i := 145) rfl)) rfl
theorem t4_147 : (Jvm.Cond.selects "java/lang/StringBuilder" ({ cls := "java/lang/AbstractStringBuilder", name := "length", desc := "()I" } : Jvm.MethodName) ({ cls := "java/lang/StringBuilder", name := "length", desc := "()I" } : Jvm.MethodName)) ∈ LW := LW_mem (mt_4 (List.mem_of_getElem? (i := 147) rfl)) rfl
theorem t4_148 : (Jvm.Cond.instanceMethod ({ cls := "java/lang/StringBuilder", name := "length", desc := "()I" } : Jvm.MethodName)) ∈ LW := LW_mem (mt_4 (List.mem_of_getElem? (i := 148) rfl)) rfl
theorem t4_149 : (Jvm.Cond.code ({ cls := "java/lang/StringBuilder", name := "length", desc := "()I" } : Jvm.MethodName) prog_27_method_93_code (1 : Nat) (Option.some Jvm.ClassFile.FieldType.int)) ∈ LW := LW_mem (mt_4 (List.mem_of_getElem? (i := 149) rfl)) rfl
theorem t4_150 : (Jvm.Cond.methodLink "java/lang/StringBuilder" (343 : Nat) ({ cls := "java/lang/AbstractStringBuilder", name := "length", desc := "()I" } : Jvm.MethodName)) ∈ LW := LW_mem (mt_4 (List.mem_of_getElem? (i := 150) rfl)) rfl
theorem t4_151 : (Jvm.Cond.code ({ cls := "java/lang/AbstractStringBuilder", name := "length", desc := "()I" } : Jvm.MethodName) prog_13_method_6_code (1 : Nat) (Option.some Jvm.ClassFile.FieldType.int)) ∈ LW := LW_mem (mt_4 (List.mem_of_getElem? (i := 151) rfl)) rfl
theorem t4_152 : (Jvm.Cond.methodLink "java/lang/String" (1047 : Nat) ({ cls := "java/lang/AbstractStringBuilder", name := "isLatin1", desc := "()Z" } : Jvm.MethodName)) ∈ LW := LW_mem (mt_4 (List.mem_of_getElem? (i := 152) rfl)) rfl
theorem t4_153 : (Jvm.Cond.methodLink "java/lang/String" (54 : Nat) ({ cls := "java/util/Arrays", name := "copyOfRange", desc := "([BII)[B" } : Jvm.MethodName)) ∈ LW := LW_mem (mt_4 (List.mem_of_getElem? (i := 153) rfl)) rfl
theorem t4_154 : (Jvm.Cond.static ({ cls := "java/util/Arrays", name := "copyOfRange", desc := "([BII)[B" } : Jvm.MethodName)) ∈ LW := LW_mem (mt_4 (List.mem_of_getElem? (i := 154) rfl)) rfl
theorem t4_155 : (Jvm.Cond.code ({ cls := "java/util/Arrays", name := "copyOfRange", desc := "([BII)[B" } : Jvm.MethodName) prog_34_method_132_code (3 : Nat) (Option.some (Jvm.ClassFile.FieldType.array Jvm.ClassFile.FieldType.byte))) ∈ LW := LW_mem (mt_4 (List.mem_of_getElem? (i := 155) rfl)) rfl
theorem t4_156 : (Jvm.Cond.methodLink "java/util/Arrays" (339 : Nat) ({ cls := "java/util/Arrays", name := "copyOfRangeByte", desc := "([BII)[B" } : Jvm.MethodName)) ∈ LW := LW_mem (mt_4 (List.mem_of_getElem? (i := 156) rfl)) rfl
theorem t4_157 : (Jvm.Cond.static ({ cls := "java/util/Arrays", name := "copyOfRangeByte", desc := "([BII)[B" } : Jvm.MethodName)) ∈ LW := LW_mem (mt_4 (List.mem_of_getElem? (i := 157) rfl)) rfl
theorem t4_158 : (Jvm.Cond.code ({ cls := "java/util/Arrays", name := "copyOfRangeByte", desc := "([BII)[B" } : Jvm.MethodName) prog_34_method_133_code (5 : Nat) (Option.some (Jvm.ClassFile.FieldType.array Jvm.ClassFile.FieldType.byte))) ∈ LW := LW_mem (mt_4 (List.mem_of_getElem? (i := 158) rfl)) rfl
theorem t4_159 : (Jvm.Cond.methodLink "java/util/Arrays" (343 : Nat) ({ cls := "java/util/Arrays", name := "checkLength", desc := "(II)V" } : Jvm.MethodName)) ∈ LW := LW_mem (mt_4 (List.mem_of_getElem? (i := 159) rfl)) rfl
theorem t4_160 : (Jvm.Cond.static ({ cls := "java/util/Arrays", name := "checkLength", desc := "(II)V" } : Jvm.MethodName)) ∈ LW := LW_mem (mt_4 (List.mem_of_getElem? (i := 160) rfl)) rfl
theorem t4_161 : (Jvm.Cond.code ({ cls := "java/util/Arrays", name := "checkLength", desc := "(II)V" } : Jvm.MethodName) prog_34_method_131_code (2 : Nat) (Option.none : Option Jvm.ClassFile.FieldType)) ∈ LW := LW_mem (mt_4 (List.mem_of_getElem? (i := 161) rfl)) rfl
theorem t4_162 : (Jvm.Cond.classLink "java/util/Arrays" (43 : Nat) "java/lang/IllegalArgumentException") ∈ LW := LW_mem (mt_4 (List.mem_of_getElem? (i := 162) rfl)) rfl
theorem t4_163 : (Jvm.Cond.classLink "java/util/Arrays" (45 : Nat) "java/lang/StringBuilder") ∈ LW := LW_mem (mt_4 (List.mem_of_getElem? (i := 163) rfl)) rfl
theorem t4_164 : (Jvm.Cond.methodLink "java/util/Arrays" (47 : Nat) ({ cls := "java/lang/StringBuilder", name := "<init>", desc := "()V" } : Jvm.MethodName)) ∈ LW := LW_mem (mt_4 (List.mem_of_getElem? (i := 164) rfl)) rfl
theorem t4_165 : (Jvm.Cond.methodLink "java/util/Arrays" (54 : Nat) ({ cls := "java/lang/StringBuilder", name := "append", desc := "(I)Ljava/lang/StringBuilder;" } : Jvm.MethodName)) ∈ LW := LW_mem (mt_4 (List.mem_of_getElem? (i := 165) rfl)) rfl
theorem t4_166 : (Jvm.Cond.instanceMethod ({ cls := "java/lang/StringBuilder", name := "append", desc := "(I)Ljava/lang/StringBuilder;" } : Jvm.MethodName)) ∈ LW := LW_mem (mt_4 (List.mem_of_getElem? (i := 166) rfl)) rfl
theorem t4_167 : (Jvm.Cond.selects "java/lang/StringBuilder" ({ cls := "java/lang/StringBuilder", name := "append", desc := "(I)Ljava/lang/StringBuilder;" } : Jvm.MethodName) ({ cls := "java/lang/StringBuilder", name := "append", desc := "(I)Ljava/lang/StringBuilder;" } : Jvm.MethodName)) ∈ LW := LW_mem (mt_4 (List.mem_of_getElem? (i := 167) rfl)) rfl
theorem t4_168 : (Jvm.Cond.code ({ cls := "java/lang/StringBuilder", name := "append", desc := "(I)Ljava/lang/StringBuilder;" } : Jvm.MethodName) prog_27_method_15_code (2 : Nat) (Option.some (Jvm.ClassFile.FieldType.object "java/lang/StringBuilder"))) ∈ LW := LW_mem (mt_4 (List.mem_of_getElem? (i := 168) rfl)) rfl
theorem t4_169 : (Jvm.Cond.methodLink "java/lang/StringBuilder" (53 : Nat) ({ cls := "java/lang/AbstractStringBuilder", name := "append", desc := "(I)Ljava/lang/AbstractStringBuilder;" } : Jvm.MethodName)) ∈ LW := LW_mem (mt_4 (List.mem_of_getElem? (i := 169) rfl)) rfl
theorem t4_170 : (Jvm.Cond.instanceMethod ({ cls := "java/lang/AbstractStringBuilder", name := "append", desc := "(I)Ljava/lang/AbstractStringBuilder;" } : Jvm.MethodName)) ∈ LW := LW_mem (mt_4 (List.mem_of_getElem? (i := 170) rfl)) rfl
theorem t4_171 : (Jvm.Cond.code ({ cls := "java/lang/AbstractStringBuilder", name := "append", desc := "(I)Ljava/lang/AbstractStringBuilder;" } : Jvm.MethodName) prog_13_method_32_code (4 : Nat) (Option.some (Jvm.ClassFile.FieldType.object "java/lang/AbstractStringBuilder"))) ∈ LW := LW_mem (mt_4 (List.mem_of_getElem? (i := 171) rfl)) rfl
theorem t4_172 : (Jvm.Cond.methodLink "java/lang/AbstractStringBuilder" (245 : Nat) ({ cls := "java/lang/Integer", name := "stringSize", desc := "(I)I" } : Jvm.MethodName)) ∈ LW := LW_mem (mt_4 (List.mem_of_getElem? (i := 172) rfl)) rfl
theorem t4_173 : (Jvm.Cond.static ({ cls := "java/lang/Integer", name := "stringSize", desc := "(I)I" } : Jvm.MethodName)) ∈ LW := LW_mem (mt_4 (List.mem_of_getElem? (i := 173) rfl)) rfl
theorem t4_174 : (Jvm.Cond.code ({ cls := "java/lang/Integer", name := "stringSize", desc := "(I)I" } : Jvm.MethodName) prog_22_method_13_code (4 : Nat) (Option.some Jvm.ClassFile.FieldType.int)) ∈ LW := LW_mem (mt_4 (List.mem_of_getElem? (i := 174) rfl)) rfl
theorem t4_175 : (Jvm.Cond.methodLink "java/lang/AbstractStringBuilder" (248 : Nat) ({ cls := "java/lang/Integer", name := "getChars", desc := "(II[B)I" } : Jvm.MethodName)) ∈ LW := LW_mem (mt_4 (List.mem_of_getElem? (i := 175) rfl)) rfl
theorem t4_176 : (Jvm.Cond.static ({ cls := "java/lang/Integer", name := "getChars", desc := "(II[B)I" } : Jvm.MethodName)) ∈ LW := LW_mem (mt_4 (List.mem_of_getElem? (i := 176) rfl)) rfl
theorem t4_177 : (Jvm.Cond.code ({ cls := "java/lang/Integer", name := "getChars", desc := "(II[B)I" } : Jvm.MethodName) prog_22_method_12_code (7 : Nat) (Option.some Jvm.ClassFile.FieldType.int)) ∈ LW := LW_mem (mt_4 (List.mem_of_getElem? (i := 177) rfl)) rfl
theorem t4_178 : (Jvm.Cond.fieldLink "java/lang/Integer" (83 : Nat) "java/lang/Integer" "DigitOnes" "[B") ∈ LW := LW_mem (mt_4 (List.mem_of_getElem? (i := 178) rfl)) rfl
theorem t4_180 : (Jvm.Cond.fieldLink "java/lang/Integer" (87 : Nat) "java/lang/Integer" "DigitTens" "[B") ∈ LW := LW_mem (mt_4 (List.mem_of_getElem? (i := 180) rfl)) rfl
theorem t4_182 : (Jvm.Cond.methodLink "java/lang/AbstractStringBuilder" (251 : Nat) ({ cls := "java/lang/StringUTF16", name := "getChars", desc := "(III[B)I" } : Jvm.MethodName)) ∈ LW := LW_mem (mt_4 (List.mem_of_getElem? (i := 182) rfl)) rfl
theorem t4_183 : (Jvm.Cond.static ({ cls := "java/lang/StringUTF16", name := "getChars", desc := "(III[B)I" } : Jvm.MethodName)) ∈ LW := LW_mem (mt_4 (List.mem_of_getElem? (i := 183) rfl)) rfl
theorem t4_184 : (Jvm.Cond.code ({ cls := "java/lang/StringUTF16", name := "getChars", desc := "(III[B)I" } : Jvm.MethodName) prog_29_method_77_code (5 : Nat) (Option.some Jvm.ClassFile.FieldType.int)) ∈ LW := LW_mem (mt_4 (List.mem_of_getElem? (i := 184) rfl)) rfl
theorem t4_185 : (Jvm.Cond.methodLink "java/lang/StringUTF16" (393 : Nat) ({ cls := "java/lang/StringUTF16", name := "getChars", desc := "(II[B)I" } : Jvm.MethodName)) ∈ LW := LW_mem (mt_4 (List.mem_of_getElem? (i := 185) rfl)) rfl
theorem t4_186 : (Jvm.Cond.static ({ cls := "java/lang/StringUTF16", name := "getChars", desc := "(II[B)I" } : Jvm.MethodName)) ∈ LW := LW_mem (mt_4 (List.mem_of_getElem? (i := 186) rfl)) rfl
theorem t4_187 : (Jvm.Cond.code ({ cls := "java/lang/StringUTF16", name := "getChars", desc := "(II[B)I" } : Jvm.MethodName) prog_29_method_89_code (7 : Nat) (Option.some Jvm.ClassFile.FieldType.int)) ∈ LW := LW_mem (mt_4 (List.mem_of_getElem? (i := 187) rfl)) rfl
theorem t4_188 : (Jvm.Cond.fieldLink "java/lang/StringUTF16" (403 : Nat) "java/lang/Integer" "DigitOnes" "[B") ∈ LW := LW_mem (mt_4 (List.mem_of_getElem? (i := 188) rfl)) rfl
theorem t4_189 : (Jvm.Cond.fieldLink "java/lang/StringUTF16" (407 : Nat) "java/lang/Integer" "DigitTens" "[B") ∈ LW := LW_mem (mt_4 (List.mem_of_getElem? (i := 189) rfl)) rfl
theorem t4_191 : (Jvm.Cond.methodLink "java/util/Arrays" (50 : Nat) ({ cls := "java/lang/StringBuilder", name := "append", desc := "(Ljava/lang/String;)Ljava/lang/StringBuilder;" } : Jvm.MethodName)) ∈ LW := LW_mem (mt_4 (List.mem_of_getElem? (i := 191) rfl)) rfl
theorem t4_192 : (Jvm.Cond.methodLink "java/util/Arrays" (61 : Nat) ({ cls := "java/lang/StringBuilder", name := "toString", desc := "()Ljava/lang/String;" } : Jvm.MethodName)) ∈ LW := LW_mem (mt_4 (List.mem_of_getElem? (i := 192) rfl)) rfl
theorem t4_193 : (Jvm.Cond.methodLink "java/util/Arrays" (65 : Nat) ({ cls := "java/lang/IllegalArgumentException", name := "<init>", desc := "(Ljava/lang/String;)V" } : Jvm.MethodName)) ∈ LW := LW_mem (mt_4 (List.mem_of_getElem? (i := 193) rfl)) rfl
theorem t4_194 : (Jvm.Cond.methodLink "java/lang/String" (1051 : Nat) ({ cls := "java/lang/StringUTF16", name := "compress", desc := "([BII)[B" } : Jvm.MethodName)) ∈ LW := LW_mem (mt_4 (List.mem_of_getElem? (i := 194) rfl)) rfl
theorem t4_195 : (Jvm.Cond.static ({ cls := "java/lang/StringUTF16", name := "compress", desc := "([BII)[B" } : Jvm.MethodName)) ∈ LW := LW_mem (mt_4 (List.mem_of_getElem? (i := 195) rfl)) rfl
theorem t4_196 : (Jvm.Cond.code ({ cls := "java/lang/StringUTF16", name := "compress", desc := "([BII)[B" } : Jvm.MethodName) prog_29_method_17_code (6 : Nat) (Option.some (Jvm.ClassFile.FieldType.array Jvm.ClassFile.FieldType.byte))) ∈ LW := LW_mem (mt_4 (List.mem_of_getElem? (i := 196) rfl)) rfl
theorem t4_197 : (Jvm.Cond.methodLink "java/lang/StringUTF16" (123 : Nat) ({ cls := "java/lang/StringUTF16", name := "compress", desc := "([BI[BII)I" } : Jvm.MethodName)) ∈ LW := LW_mem (mt_4 (List.mem_of_getElem? (i := 197) rfl)) rfl
theorem t4_198 : (Jvm.Cond.static ({ cls := "java/lang/StringUTF16", name := "compress", desc := "([BI[BII)I" } : Jvm.MethodName)) ∈ LW := LW_mem (mt_4 (List.mem_of_getElem? (i := 198) rfl)) rfl
theorem t4_199 : (Jvm.Cond.code ({ cls := "java/lang/StringUTF16", name := "compress", desc := "([BI[BII)I" } : Jvm.MethodName) prog_29_method_22_code (7 : Nat) (Option.some Jvm.ClassFile.FieldType.int)) ∈ LW := LW_mem (mt_4 (List.mem_of_getElem? (i := 199) rfl)) rfl
theorem t4_200 : (Jvm.Cond.methodLink "java/lang/StringUTF16" (126 : Nat) ({ cls := "java/util/Arrays", name := "copyOfRange", desc := "([BII)[B" } : Jvm.MethodName)) ∈ LW := LW_mem (mt_4 (List.mem_of_getElem? (i := 200) rfl)) rfl
theorem t4_201 : (Jvm.Cond.methodLink "java/lang/String" (47 : Nat) ({ cls := "java/lang/StringUTF16", name := "coderFromArrayLen", desc := "([BI)B" } : Jvm.MethodName)) ∈ LW := LW_mem (mt_4 (List.mem_of_getElem? (i := 201) rfl)) rfl
theorem t4_202 : (Jvm.Cond.static ({ cls := "java/lang/StringUTF16", name := "coderFromArrayLen", desc := "([BI)B" } : Jvm.MethodName)) ∈ LW := LW_mem (mt_4 (List.mem_of_getElem? (i := 202) rfl)) rfl
theorem t4_203 : (Jvm.Cond.code ({ cls := "java/lang/StringUTF16", name := "coderFromArrayLen", desc := "([BI)B" } : Jvm.MethodName) prog_29_method_15_code (2 : Nat) (Option.some Jvm.ClassFile.FieldType.byte)) ∈ LW := LW_mem (mt_4 (List.mem_of_getElem? (i := 203) rfl)) rfl
theorem t4_204 : (Jvm.Cond.fieldLink "java/lang/String" (9 : Nat) "java/lang/String" "value" "[B") ∈ LW := LW_mem (mt_4 (List.mem_of_getElem? (i := 204) rfl)) rfl
theorem t4_205 : (Jvm.Cond.fieldLink "java/lang/String" (15 : Nat) "java/lang/String" "coder" "B") ∈ LW := LW_mem (mt_4 (List.mem_of_getElem? (i := 205) rfl)) rfl
theorem t4_206 : (Jvm.Cond.laysFinal "java/lang/String" "java/lang/String" "value" "[B") ∈ LW := LW_mem (mt_4 (List.mem_of_getElem? (i := 206) rfl)) rfl
theorem t4_208 : (Jvm.Cond.laysFinal "java/lang/String" "java/lang/String" "coder" "B") ∈ LW := LW_mem (mt_4 (List.mem_of_getElem? (i := 208) rfl)) rfl
theorem t4_210 : (Jvm.Cond.lays "java/lang/String" "java/lang/String" "hash" "I") ∈ LW := LW_mem (mt_4 (List.mem_of_getElem? (i := 210) rfl)) rfl
theorem t4_212 : (Jvm.Cond.lays "java/lang/String" "java/lang/String" "hashIsZero" "Z") ∈ LW := LW_mem (mt_4 (List.mem_of_getElem? (i := 212) rfl)) rfl
theorem t4_217 : (Jvm.Cond.methodLink "TrigramReadersLaw" (75 : Nat) ({ cls := "java/lang/StringBuilder", name := "append", desc := "(I)Ljava/lang/StringBuilder;" } : Jvm.MethodName)) ∈ LW := LW_mem (mt_4 (List.mem_of_getElem? (i := 217) rfl)) rfl
theorem t4_218 : (Jvm.Cond.methodLink "TrigramReadersLaw" (118 : Nat) ({ cls := "TrigramReadersLaw", name := "isTold", desc := "(LTrigramReaders;I)Z" } : Jvm.MethodName)) ∈ LW := LW_mem (mt_4 (List.mem_of_getElem? (i := 218) rfl)) rfl
theorem t4_219 : (Jvm.Cond.static ({ cls := "TrigramReadersLaw", name := "isTold", desc := "(LTrigramReaders;I)Z" } : Jvm.MethodName)) ∈ LW := LW_mem (mt_4 (List.mem_of_getElem? (i := 219) rfl)) rfl
theorem t4_220 : (Jvm.Cond.code ({ cls := "TrigramReadersLaw", name := "isTold", desc := "(LTrigramReaders;I)Z" } : Jvm.MethodName) method_12_code (22 : Nat) (Option.some Jvm.ClassFile.FieldType.boolean)) ∈ LW := LW_mem (mt_4 (List.mem_of_getElem? (i := 220) rfl)) rfl
theorem t4_221 : (Jvm.Cond.methodLink "TrigramReadersLaw" (81 : Nat) ({ cls := "TrigramReaders", name := "documentCount", desc := "()I" } : Jvm.MethodName)) ∈ LW := LW_mem (mt_4 (List.mem_of_getElem? (i := 221) rfl)) rfl
theorem t4_222 : (Jvm.Cond.instanceMethod ({ cls := "TrigramReaders", name := "documentCount", desc := "()I" } : Jvm.MethodName)) ∈ LW := LW_mem (mt_4 (List.mem_of_getElem? (i := 222) rfl)) rfl
theorem t4_223 : (Jvm.Cond.selects "TrigramReaders" ({ cls := "TrigramReaders", name := "documentCount", desc := "()I" } : Jvm.MethodName) ({ cls := "TrigramReaders", name := "documentCount", desc := "()I" } : Jvm.MethodName)) ∈ LW := LW_mem (mt_4 (List.mem_of_getElem? (i := 223) rfl)) rfl
theorem t4_224 : (Jvm.Cond.code ({ cls := "TrigramReaders", name := "documentCount", desc := "()I" } : Jvm.MethodName) prog_1_method_12_code (1 : Nat) (Option.some Jvm.ClassFile.FieldType.int)) ∈ LW := LW_mem (mt_4 (List.mem_of_getElem? (i := 224) rfl)) rfl
theorem t4_225 : (Jvm.Cond.methodLink "TrigramReadersLaw" (145 : Nat) ({ cls := "TrigramReaders", name := "trainedSymbols", desc := "(I)I" } : Jvm.MethodName)) ∈ LW := LW_mem (mt_4 (List.mem_of_getElem? (i := 225) rfl)) rfl
theorem t4_226 : (Jvm.Cond.instanceMethod ({ cls := "TrigramReaders", name := "trainedSymbols", desc := "(I)I" } : Jvm.MethodName)) ∈ LW := LW_mem (mt_4 (List.mem_of_getElem? (i := 226) rfl)) rfl
theorem t4_227 : (Jvm.Cond.selects "TrigramReaders" ({ cls := "TrigramReaders", name := "trainedSymbols", desc := "(I)I" } : Jvm.MethodName) ({ cls := "TrigramReaders", name := "trainedSymbols", desc := "(I)I" } : Jvm.MethodName)) ∈ LW := LW_mem (mt_4 (List.mem_of_getElem? (i := 227) rfl)) rfl
theorem t4_228 : (Jvm.Cond.code ({ cls := "TrigramReaders", name := "trainedSymbols", desc := "(I)I" } : Jvm.MethodName) prog_1_method_24_code (2 : Nat) (Option.some Jvm.ClassFile.FieldType.int)) ∈ LW := LW_mem (mt_4 (List.mem_of_getElem? (i := 228) rfl)) rfl
theorem t4_229 : (Jvm.Cond.methodLink "TrigramReadersLaw" (148 : Nat) ({ cls := "TrigramReaders", name := "timesTrained", desc := "(II)I" } : Jvm.MethodName)) ∈ LW := LW_mem (mt_4 (List.mem_of_getElem? (i := 229) rfl)) rfl
theorem t4_230 : (Jvm.Cond.instanceMethod ({ cls := "TrigramReaders", name := "timesTrained", desc := "(II)I" } : Jvm.MethodName)) ∈ LW := LW_mem (mt_4 (List.mem_of_getElem? (i := 230) rfl)) rfl
theorem t4_231 : (Jvm.Cond.selects "TrigramReaders" ({ cls := "TrigramReaders", name := "timesTrained", desc := "(II)I" } : Jvm.MethodName) ({ cls := "TrigramReaders", name := "timesTrained", desc := "(II)I" } : Jvm.MethodName)) ∈ LW := LW_mem (mt_4 (List.mem_of_getElem? (i := 231) rfl)) rfl
theorem t4_232 : (Jvm.Cond.code ({ cls := "TrigramReaders", name := "timesTrained", desc := "(II)I" } : Jvm.MethodName) prog_1_method_23_code (4 : Nat) (Option.some Jvm.ClassFile.FieldType.int)) ∈ LW := LW_mem (mt_4 (List.mem_of_getElem? (i := 232) rfl)) rfl
theorem t4_233 : (Jvm.Cond.methodLink "TrigramReadersLaw" (151 : Nat) ({ cls := "TrigramReadersLaw", name := "counts", desc := "(LTrigramReaders;II)[I" } : Jvm.MethodName)) ∈ LW := LW_mem (mt_4 (List.mem_of_getElem? (i := 233) rfl)) rfl
theorem t4_234 : (Jvm.Cond.static ({ cls := "TrigramReadersLaw", name := "counts", desc := "(LTrigramReaders;II)[I" } : Jvm.MethodName)) ∈ LW := LW_mem (mt_4 (List.mem_of_getElem? (i := 234) rfl)) rfl
theorem t4_235 : (Jvm.Cond.code ({ cls := "TrigramReadersLaw", name := "counts", desc := "(LTrigramReaders;II)[I" } : Jvm.MethodName) method_10_code (6 : Nat) (Option.some (Jvm.ClassFile.FieldType.array Jvm.ClassFile.FieldType.int))) ∈ LW := LW_mem (mt_4 (List.mem_of_getElem? (i := 235) rfl)) rfl
theorem t4_236 : (Jvm.Cond.methodLink "TrigramReadersLaw" (128 : Nat) ({ cls := "TrigramReaders", name := "documentLength", desc := "(I)I" } : Jvm.MethodName)) ∈ LW := LW_mem (mt_4 (List.mem_of_getElem? (i := 236) rfl)) rfl
theorem t4_237 : (Jvm.Cond.instanceMethod ({ cls := "TrigramReaders", name := "documentLength", desc := "(I)I" } : Jvm.MethodName)) ∈ LW := LW_mem (mt_4 (List.mem_of_getElem? (i := 237) rfl)) rfl
theorem t4_238 : (Jvm.Cond.selects "TrigramReaders" ({ cls := "TrigramReaders", name := "documentLength", desc := "(I)I" } : Jvm.MethodName) ({ cls := "TrigramReaders", name := "documentLength", desc := "(I)I" } : Jvm.MethodName)) ∈ LW := LW_mem (mt_4 (List.mem_of_getElem? (i := 238) rfl)) rfl
theorem t4_239 : (Jvm.Cond.code ({ cls := "TrigramReaders", name := "documentLength", desc := "(I)I" } : Jvm.MethodName) prog_1_method_13_code (2 : Nat) (Option.some Jvm.ClassFile.FieldType.int)) ∈ LW := LW_mem (mt_4 (List.mem_of_getElem? (i := 239) rfl)) rfl
theorem t5_0 : (Jvm.Cond.methodLink "TrigramReadersLaw" (131 : Nat) ({ cls := "TrigramReaders", name := "documentSymbol", desc := "(II)I" } : Jvm.MethodName)) ∈ LW := LW_mem (mt_5 (List.mem_of_getElem? (i := 0) rfl)) rfl
theorem t5_1 : (Jvm.Cond.instanceMethod ({ cls := "TrigramReaders", name := "documentSymbol", desc := "(II)I" } : Jvm.MethodName)) ∈ LW := LW_mem (mt_5 (List.mem_of_getElem? (i := 1) rfl)) rfl
theorem t5_2 : (Jvm.Cond.selects "TrigramReaders" ({ cls := "TrigramReaders", name := "documentSymbol", desc := "(II)I" } : Jvm.MethodName) ({ cls := "TrigramReaders", name := "documentSymbol", desc := "(II)I" } : Jvm.MethodName)) ∈ LW := LW_mem (mt_5 (List.mem_of_getElem? (i := 2) rfl)) rfl
theorem t5_3 : (Jvm.Cond.code ({ cls := "TrigramReaders", name := "documentSymbol", desc := "(II)I" } : Jvm.MethodName) prog_1_method_14_code (4 : Nat) (Option.some Jvm.ClassFile.FieldType.int)) ∈ LW := LW_mem (mt_5 (List.mem_of_getElem? (i := 3) rfl)) rfl
theorem t5_4 : (Jvm.Cond.methodLink "TrigramReaders" (177 : Nat) ({ cls := "TrigramReaders$Document", name := "symbolAt", desc := "(I)I" } : Jvm.MethodName)) ∈ LW := LW_mem (mt_5 (List.mem_of_getElem? (i := 4) rfl)) rfl
theorem t5_5 : (Jvm.Cond.classLink "TrigramReaders" (159 : Nat) "java/util/NoSuchElementException") ∈ LW := LW_mem (mt_5 (List.mem_of_getElem? (i := 5) rfl)) rfl
theorem t5_6 : (Jvm.Cond.instantiable "java/util/NoSuchElementException" (6 : Nat)) ∈ LW := LW_mem (mt_5 (List.mem_of_getElem? (i := 6) rfl)) rfl
theorem t5_8 : (Jvm.Cond.selects "java/util/NoSuchElementException" ({ cls := "java/lang/Throwable", name := "fillInStackTrace", desc := "(I)Ljava/lang/Throwable;" } : Jvm.MethodName) ({ cls := "java/lang/Throwable", name := "fillInStackTrace", desc := "(I)Ljava/lang/Throwable;" } : Jvm.MethodName)) ∈ LW := LW_mem (mt_5 (List.mem_of_getElem? (i := 8) rfl)) rfl
theorem t5_9 : (Jvm.Cond.lays "java/util/NoSuchElementException" "java/lang/Throwable" "cause" "Ljava/lang/Throwable;") ∈ LW := LW_mem (mt_5 (List.mem_of_getElem? (i := 9) rfl)) rfl
theorem t5_10 : (Jvm.Cond.lays "java/util/NoSuchElementException" "java/lang/Throwable" "stackTrace" "[Ljava/lang/StackTraceElement;") ∈ LW := LW_mem (mt_5 (List.mem_of_getElem? (i := 10) rfl)) rfl
theorem t5_11 : (Jvm.Cond.lays "java/util/NoSuchElementException" "java/lang/Throwable" "suppressedExceptions" "Ljava/util/List;") ∈ LW := LW_mem (mt_5 (List.mem_of_getElem? (i := 11) rfl)) rfl
theorem t5_12 : (Jvm.Cond.lays "java/util/NoSuchElementException" "java/lang/Throwable" "detailMessage" "Ljava/lang/String;") ∈ LW := LW_mem (mt_5 (List.mem_of_getElem? (i := 12) rfl)) rfl
theorem t5_13 : (Jvm.Cond.lays "java/util/NoSuchElementException" "java/lang/Throwable" "backtrace" "Ljava/lang/Object;") ∈ LW := LW_mem (mt_5 (List.mem_of_getElem? (i := 13) rfl)) rfl
theorem t5_15 : (Jvm.Cond.methodLink "TrigramReaders" (163 : Nat) ({ cls := "java/util/NoSuchElementException", name := "<init>", desc := "(Ljava/lang/String;)V" } : Jvm.MethodName)) ∈ LW := LW_mem (mt_5 (List.mem_of_getElem? (i := 15) rfl)) rfl
theorem t5_16 : (Jvm.Cond.instanceMethod ({ cls := "java/util/NoSuchElementException", name := "<init>", desc := "(Ljava/lang/String;)V" } : Jvm.MethodName)) ∈ LW := LW_mem (mt_5 (List.mem_of_getElem? (i := 16) rfl)) rfl
theorem t5_17 : (Jvm.Cond.code ({ cls := "java/util/NoSuchElementException", name := "<init>", desc := "(Ljava/lang/String;)V" } : Jvm.MethodName) prog_35_method_4_code (2 : Nat) (Option.none : Option Jvm.ClassFile.FieldType)) ∈ LW := LW_mem (mt_5 (List.mem_of_getElem? (i := 17) rfl)) rfl
theorem t5_18 : (Jvm.Cond.methodLink "java/util/NoSuchElementException" (13 : Nat) ({ cls := "java/lang/RuntimeException", name := "<init>", desc := "(Ljava/lang/String;)V" } : Jvm.MethodName)) ∈ LW := LW_mem (mt_5 (List.mem_of_getElem? (i := 18) rfl)) rfl
theorem t5_19 : (Jvm.Cond.lays "java/util/NoSuchElementException" "java/lang/Throwable" "depth" "I") ∈ LW := LW_mem (mt_5 (List.mem_of_getElem? (i := 19) rfl)) rfl
theorem t5_21 : (Jvm.Cond.methodLink "TrigramReadersLaw" (134 : Nat) ({ cls := "TrigramReaders", name := "countOrder0", desc := "(II)I" } : Jvm.MethodName)) ∈ LW := LW_mem (mt_5 (List.mem_of_getElem? (i := 21) rfl)) rfl
theorem t5_22 : (Jvm.Cond.instanceMethod ({ cls := "TrigramReaders", name := "countOrder0", desc := "(II)I" } : Jvm.MethodName)) ∈ LW := LW_mem (mt_5 (List.mem_of_getElem? (i := 22) rfl)) rfl
theorem t5_23 : (Jvm.Cond.selects "TrigramReaders" ({ cls := "TrigramReaders", name := "countOrder0", desc := "(II)I" } : Jvm.MethodName) ({ cls := "TrigramReaders", name := "countOrder0", desc := "(II)I" } : Jvm.MethodName)) ∈ LW := LW_mem (mt_5 (List.mem_of_getElem? (i := 23) rfl)) rfl
theorem t5_24 : (Jvm.Cond.code ({ cls := "TrigramReaders", name := "countOrder0", desc := "(II)I" } : Jvm.MethodName) prog_1_method_16_code (4 : Nat) (Option.some Jvm.ClassFile.FieldType.int)) ∈ LW := LW_mem (mt_5 (List.mem_of_getElem? (i := 24) rfl)) rfl
theorem t5_25 : (Jvm.Cond.methodLink "TrigramReaders" (185 : Nat) ({ cls := "TrigramReaders", name := "requireSymbol", desc := "(I)V" } : Jvm.MethodName)) ∈ LW := LW_mem (mt_5 (List.mem_of_getElem? (i := 25) rfl)) rfl
theorem t5_26 : (Jvm.Cond.static ({ cls := "TrigramReaders", name := "requireSymbol", desc := "(I)V" } : Jvm.MethodName)) ∈ LW := LW_mem (mt_5 (List.mem_of_getElem? (i := 26) rfl)) rfl
theorem t5_27 : (Jvm.Cond.code ({ cls := "TrigramReaders", name := "requireSymbol", desc := "(I)V" } : Jvm.MethodName) prog_1_method_70_code (1 : Nat) (Option.none : Option Jvm.ClassFile.FieldType)) ∈ LW := LW_mem (mt_5 (List.mem_of_getElem? (i := 27) rfl)) rfl
theorem t5_28 : (Jvm.Cond.methodLink "TrigramReaders" (378 : Nat) ({ cls := "TrigramReaders", name := "isSymbol", desc := "(I)Z" } : Jvm.MethodName)) ∈ LW := LW_mem (mt_5 (List.mem_of_getElem? (i := 28) rfl)) rfl
theorem t5_29 : (Jvm.Cond.static ({ cls := "TrigramReaders", name := "isSymbol", desc := "(I)Z" } : Jvm.MethodName)) ∈ LW := LW_mem (mt_5 (List.mem_of_getElem? (i := 29) rfl)) rfl
theorem t5_30 : (Jvm.Cond.code ({ cls := "TrigramReaders", name := "isSymbol", desc := "(I)Z" } : Jvm.MethodName) prog_1_method_72_code (1 : Nat) (Option.some Jvm.ClassFile.FieldType.boolean)) ∈ LW := LW_mem (mt_5 (List.mem_of_getElem? (i := 30) rfl)) rfl
theorem t5_32 : (Jvm.Cond.methodLink "TrigramReaders" (191 : Nat) ({ cls := "TrigramReaders", name := "contextStart", desc := "(III)I" } : Jvm.MethodName)) ∈ LW := LW_mem (mt_5 (List.mem_of_getElem? (i := 32) rfl)) rfl
theorem t5_33 : (Jvm.Cond.methodLink "TrigramReaders" (195 : Nat) ({ cls := "TrigramReaders$Counts", name := "valueOf", desc := "(I)I" } : Jvm.MethodName)) ∈ LW := LW_mem (mt_5 (List.mem_of_getElem? (i := 33) rfl)) rfl
theorem t5_34 : (Jvm.Cond.instanceMethod ({ cls := "TrigramReaders$Counts", name := "valueOf", desc := "(I)I" } : Jvm.MethodName)) ∈ LW := LW_mem (mt_5 (List.mem_of_getElem? (i := 34) rfl)) rfl
theorem t5_35 : (Jvm.Cond.selects "TrigramReaders$Counts" ({ cls := "TrigramReaders$Counts", name := "valueOf", desc := "(I)I" } : Jvm.MethodName) ({ cls := "TrigramReaders$Counts", name := "valueOf", desc := "(I)I" } : Jvm.MethodName)) ∈ LW := LW_mem (mt_5 (List.mem_of_getElem? (i := 35) rfl)) rfl
theorem t5_36 : (Jvm.Cond.code ({ cls := "TrigramReaders$Counts", name := "valueOf", desc := "(I)I" } : Jvm.MethodName) prog_4_method_4_code (3 : Nat) (Option.some Jvm.ClassFile.FieldType.int)) ∈ LW := LW_mem (mt_5 (List.mem_of_getElem? (i := 36) rfl)) rfl
theorem t5_37 : (Jvm.Cond.methodLink "TrigramReadersLaw" (137 : Nat) ({ cls := "TrigramReaders", name := "countOrder1", desc := "(III)I" } : Jvm.MethodName)) ∈ LW := LW_mem (mt_5 (List.mem_of_getElem? (i := 37) rfl)) rfl
theorem t5_38 : (Jvm.Cond.instanceMethod ({ cls := "TrigramReaders", name := "countOrder1", desc := "(III)I" } : Jvm.MethodName)) ∈ LW := LW_mem (mt_5 (List.mem_of_getElem? (i := 38) rfl)) rfl
theorem t5_39 : (Jvm.Cond.selects "TrigramReaders" ({ cls := "TrigramReaders", name := "countOrder1", desc := "(III)I" } : Jvm.MethodName) ({ cls := "TrigramReaders", name := "countOrder1", desc := "(III)I" } : Jvm.MethodName)) ∈ LW := LW_mem (mt_5 (List.mem_of_getElem? (i := 39) rfl)) rfl
theorem t5_40 : (Jvm.Cond.code ({ cls := "TrigramReaders", name := "countOrder1", desc := "(III)I" } : Jvm.MethodName) prog_1_method_17_code (5 : Nat) (Option.some Jvm.ClassFile.FieldType.int)) ∈ LW := LW_mem (mt_5 (List.mem_of_getElem? (i := 40) rfl)) rfl
theorem t5_41 : (Jvm.Cond.methodLink "TrigramReadersLaw" (141 : Nat) ({ cls := "TrigramReaders", name := "countOrder2", desc := "(IIII)I" } : Jvm.MethodName)) ∈ LW := LW_mem (mt_5 (List.mem_of_getElem? (i := 41) rfl)) rfl
theorem t5_42 : (Jvm.Cond.instanceMethod ({ cls := "TrigramReaders", name := "countOrder2", desc := "(IIII)I" } : Jvm.MethodName)) ∈ LW := LW_mem (mt_5 (List.mem_of_getElem? (i := 42) rfl)) rfl
theorem t5_43 : (Jvm.Cond.selects "TrigramReaders" ({ cls := "TrigramReaders", name := "countOrder2", desc := "(IIII)I" } : Jvm.MethodName) ({ cls := "TrigramReaders", name := "countOrder2", desc := "(IIII)I" } : Jvm.MethodName)) ∈ LW := LW_mem (mt_5 (List.mem_of_getElem? (i := 43) rfl)) rfl
theorem t5_44 : (Jvm.Cond.code ({ cls := "TrigramReaders", name := "countOrder2", desc := "(IIII)I" } : Jvm.MethodName) prog_1_method_18_code (6 : Nat) (Option.some Jvm.ClassFile.FieldType.int)) ∈ LW := LW_mem (mt_5 (List.mem_of_getElem? (i := 44) rfl)) rfl
theorem t5_45 : (Jvm.Cond.methodLink "TrigramReadersLaw" (155 : Nat) ({ cls := "TrigramReadersLaw", name := "acts", desc := "(LTrigramReaders;I)I" } : Jvm.MethodName)) ∈ LW := LW_mem (mt_5 (List.mem_of_getElem? (i := 45) rfl)) rfl
theorem t5_46 : (Jvm.Cond.static ({ cls := "TrigramReadersLaw", name := "acts", desc := "(LTrigramReaders;I)I" } : Jvm.MethodName)) ∈ LW := LW_mem (mt_5 (List.mem_of_getElem? (i := 46) rfl)) rfl
theorem t5_47 : (Jvm.Cond.code ({ cls := "TrigramReadersLaw", name := "acts", desc := "(LTrigramReaders;I)I" } : Jvm.MethodName) method_8_code (6 : Nat) (Option.some Jvm.ClassFile.FieldType.int)) ∈ LW := LW_mem (mt_5 (List.mem_of_getElem? (i := 47) rfl)) rfl
theorem t5_48 : (Jvm.Cond.methodLink "TrigramReadersLaw" (84 : Nat) ({ cls := "TrigramReaders", name := "endYear", desc := "()I" } : Jvm.MethodName)) ∈ LW := LW_mem (mt_5 (List.mem_of_getElem? (i := 48) rfl)) rfl
theorem t5_49 : (Jvm.Cond.instanceMethod ({ cls := "TrigramReaders", name := "endYear", desc := "()I" } : Jvm.MethodName)) ∈ LW := LW_mem (mt_5 (List.mem_of_getElem? (i := 49) rfl)) rfl
theorem t5_50 : (Jvm.Cond.selects "TrigramReaders" ({ cls := "TrigramReaders", name := "endYear", desc := "()I" } : Jvm.MethodName) ({ cls := "TrigramReaders", name := "endYear", desc := "()I" } : Jvm.MethodName)) ∈ LW := LW_mem (mt_5 (List.mem_of_getElem? (i := 50) rfl)) rfl
theorem t5_51 : (Jvm.Cond.code ({ cls := "TrigramReaders", name := "endYear", desc := "()I" } : Jvm.MethodName) prog_1_method_55_code (1 : Nat) (Option.some Jvm.ClassFile.FieldType.int)) ∈ LW := LW_mem (mt_5 (List.mem_of_getElem? (i := 51) rfl)) rfl
theorem t5_52 : (Jvm.Cond.methodLink "TrigramReaders" (325 : Nat) ({ cls := "TrigramReaders$State", name := "passYear", desc := "()V" } : Jvm.MethodName)) ∈ LW := LW_mem (mt_5 (List.mem_of_getElem? (i := 52) rfl)) rfl
theorem t5_53 : (Jvm.Cond.methodLink "TrigramReadersLaw" (87 : Nat) ({ cls := "TrigramReaders", name := "train", desc := "(II)I" } : Jvm.MethodName)) ∈ LW := LW_mem (mt_5 (List.mem_of_getElem? (i := 53) rfl)) rfl
theorem t5_54 : (Jvm.Cond.instanceMethod ({ cls := "TrigramReaders", name := "train", desc := "(II)I" } : Jvm.MethodName)) ∈ LW := LW_mem (mt_5 (List.mem_of_getElem? (i := 54) rfl)) rfl
theorem t5_55 : (Jvm.Cond.selects "TrigramReaders" ({ cls := "TrigramReaders", name := "train", desc := "(II)I" } : Jvm.MethodName) ({ cls := "TrigramReaders", name := "train", desc := "(II)I" } : Jvm.MethodName)) ∈ LW := LW_mem (mt_5 (List.mem_of_getElem? (i := 55) rfl)) rfl
theorem t5_56 : (Jvm.Cond.code ({ cls := "TrigramReaders", name := "train", desc := "(II)I" } : Jvm.MethodName) prog_1_method_51_code (5 : Nat) (Option.some Jvm.ClassFile.FieldType.int)) ∈ LW := LW_mem (mt_5 (List.mem_of_getElem? (i := 56) rfl)) rfl
theorem t5_57 : (Jvm.Cond.methodLink "TrigramReaders" (274 : Nat) ({ cls := "TrigramReaders$Counts", name := "countDocument", desc := "(LTrigramReaders$Document;)V" } : Jvm.MethodName)) ∈ LW := LW_mem (mt_5 (List.mem_of_getElem? (i := 57) rfl)) rfl
theorem t5_58 : (Jvm.Cond.methodLink "TrigramReaders" (319 : Nat) ({ cls := "TrigramReaders$Reader", name := "recordTraining", desc := "(II)V" } : Jvm.MethodName)) ∈ LW := LW_mem (mt_5 (List.mem_of_getElem? (i := 58) rfl)) rfl
theorem t5_59 : (Jvm.Cond.methodLink "TrigramReaders" (257 : Nat) ({ cls := "TrigramReaders", name := "guessesFor", desc := "(LTrigramReaders$Counts;LTrigramReaders$Document;)I" } : Jvm.MethodName)) ∈ LW := LW_mem (mt_5 (List.mem_of_getElem? (i := 59) rfl)) rfl
theorem t5_61 : (Jvm.Cond.instanceMethod ({ cls := "TrigramReaders", name := "guessesFor", desc := "(LTrigramReaders$Counts;LTrigramReaders$Document;)I" } : Jvm.MethodName)) ∈ LW := LW_mem (mt_5 (List.mem_of_getElem? (i := 61) rfl)) rfl
theorem t5_62 : (Jvm.Cond.code ({ cls := "TrigramReaders", name := "guessesFor", desc := "(LTrigramReaders$Counts;LTrigramReaders$Document;)I" } : Jvm.MethodName) prog_1_method_81_code (5 : Nat) (Option.some Jvm.ClassFile.FieldType.int)) ∈ LW := LW_mem (mt_5 (List.mem_of_getElem? (i := 62) rfl)) rfl
theorem t5_63 : (Jvm.Cond.methodLink "TrigramReaders" (253 : Nat) ({ cls := "TrigramReaders", name := "rankOfPosition", desc := "(LTrigramReaders$Counts;LTrigramReaders$Document;I)I" } : Jvm.MethodName)) ∈ LW := LW_mem (mt_5 (List.mem_of_getElem? (i := 63) rfl)) rfl
theorem t5_65 : (Jvm.Cond.instanceMethod ({ cls := "TrigramReaders", name := "rankOfPosition", desc := "(LTrigramReaders$Counts;LTrigramReaders$Document;I)I" } : Jvm.MethodName)) ∈ LW := LW_mem (mt_5 (List.mem_of_getElem? (i := 65) rfl)) rfl
theorem t5_66 : (Jvm.Cond.code ({ cls := "TrigramReaders", name := "rankOfPosition", desc := "(LTrigramReaders$Counts;LTrigramReaders$Document;I)I" } : Jvm.MethodName) prog_1_method_80_code (4 : Nat) (Option.some Jvm.ClassFile.FieldType.int)) ∈ LW := LW_mem (mt_5 (List.mem_of_getElem? (i := 66) rfl)) rfl
theorem t5_67 : (Jvm.Cond.methodLink "TrigramReaders" (230 : Nat) ({ cls := "TrigramReaders", name := "rankIn", desc := "(LTrigramReaders$Counts;III)I" } : Jvm.MethodName)) ∈ LW := LW_mem (mt_5 (List.mem_of_getElem? (i := 67) rfl)) rfl
theorem t5_69 : (Jvm.Cond.instanceMethod ({ cls := "TrigramReaders", name := "rankIn", desc := "(LTrigramReaders$Counts;III)I" } : Jvm.MethodName)) ∈ LW := LW_mem (mt_5 (List.mem_of_getElem? (i := 69) rfl)) rfl
theorem t5_70 : (Jvm.Cond.code ({ cls := "TrigramReaders", name := "rankIn", desc := "(LTrigramReaders$Counts;III)I" } : Jvm.MethodName) prog_1_method_77_code (5 : Nat) (Option.some Jvm.ClassFile.FieldType.int)) ∈ LW := LW_mem (mt_5 (List.mem_of_getElem? (i := 70) rfl)) rfl
theorem t5_71 : (Jvm.Cond.methodLink "TrigramReaders" (386 : Nat) ({ cls := "TrigramReaders$Ranking", name := "fill", desc := "(LTrigramReaders$Counts;II)V" } : Jvm.MethodName)) ∈ LW := LW_mem (mt_5 (List.mem_of_getElem? (i := 71) rfl)) rfl
theorem t5_72 : (Jvm.Cond.instanceMethod ({ cls := "TrigramReaders$Ranking", name := "fill", desc := "(LTrigramReaders$Counts;II)V" } : Jvm.MethodName)) ∈ LW := LW_mem (mt_5 (List.mem_of_getElem? (i := 72) rfl)) rfl
theorem t5_73 : (Jvm.Cond.selects "TrigramReaders$Ranking" ({ cls := "TrigramReaders$Ranking", name := "fill", desc := "(LTrigramReaders$Counts;II)V" } : Jvm.MethodName) ({ cls := "TrigramReaders$Ranking", name := "fill", desc := "(LTrigramReaders$Counts;II)V" } : Jvm.MethodName)) ∈ LW := LW_mem (mt_5 (List.mem_of_getElem? (i := 73) rfl)) rfl
theorem t5_74 : (Jvm.Cond.code ({ cls := "TrigramReaders$Ranking", name := "fill", desc := "(LTrigramReaders$Counts;II)V" } : Jvm.MethodName) prog_7_method_2_code (6 : Nat) (Option.none : Option Jvm.ClassFile.FieldType)) ∈ LW := LW_mem (mt_5 (List.mem_of_getElem? (i := 74) rfl)) rfl
theorem t5_77 : (Jvm.Cond.methodLink "TrigramReaders$Ranking" (33 : Nat) ({ cls := "TrigramReaders$Ranking", name := "appendOrder", desc := "(LTrigramReaders$Counts;I)V" } : Jvm.MethodName)) ∈ LW := LW_mem (mt_5 (List.mem_of_getElem? (i := 77) rfl)) rfl
theorem t5_79 : (Jvm.Cond.instanceMethod ({ cls := "TrigramReaders$Ranking", name := "appendOrder", desc := "(LTrigramReaders$Counts;I)V" } : Jvm.MethodName)) ∈ LW := LW_mem (mt_5 (List.mem_of_getElem? (i := 79) rfl)) rfl
theorem t5_80 : (Jvm.Cond.code ({ cls := "TrigramReaders$Ranking", name := "appendOrder", desc := "(LTrigramReaders$Counts;I)V" } : Jvm.MethodName) prog_7_method_3_code (5 : Nat) (Option.none : Option Jvm.ClassFile.FieldType)) ∈ LW := LW_mem (mt_5 (List.mem_of_getElem? (i := 80) rfl)) rfl
theorem t5_81 : (Jvm.Cond.methodLink "TrigramReaders$Ranking" (41 : Nat) ({ cls := "TrigramReaders$Counts", name := "placeOf", desc := "(I)I" } : Jvm.MethodName)) ∈ LW := LW_mem (mt_5 (List.mem_of_getElem? (i := 81) rfl)) rfl
theorem t5_82 : (Jvm.Cond.methodLink "TrigramReaders$Ranking" (37 : Nat) ({ cls := "TrigramReaders$Ranking", name := "insert", desc := "(III)V" } : Jvm.MethodName)) ∈ LW := LW_mem (mt_5 (List.mem_of_getElem? (i := 82) rfl)) rfl
theorem t5_84 : (Jvm.Cond.instanceMethod ({ cls := "TrigramReaders$Ranking", name := "insert", desc := "(III)V" } : Jvm.MethodName)) ∈ LW := LW_mem (mt_5 (List.mem_of_getElem? (i := 84) rfl)) rfl
theorem t5_85 : (Jvm.Cond.code ({ cls := "TrigramReaders$Ranking", name := "insert", desc := "(III)V" } : Jvm.MethodName) prog_7_method_4_code (6 : Nat) (Option.none : Option Jvm.ClassFile.FieldType)) ∈ LW := LW_mem (mt_5 (List.mem_of_getElem? (i := 85) rfl)) rfl
theorem t5_86 : (Jvm.Cond.methodLink "TrigramReaders" (393 : Nat) ({ cls := "TrigramReaders$Ranking", name := "guessesUntil", desc := "(I)I" } : Jvm.MethodName)) ∈ LW := LW_mem (mt_5 (List.mem_of_getElem? (i := 86) rfl)) rfl
theorem t5_87 : (Jvm.Cond.instanceMethod ({ cls := "TrigramReaders$Ranking", name := "guessesUntil", desc := "(I)I" } : Jvm.MethodName)) ∈ LW := LW_mem (mt_5 (List.mem_of_getElem? (i := 87) rfl)) rfl
theorem t5_88 : (Jvm.Cond.selects "TrigramReaders$Ranking" ({ cls := "TrigramReaders$Ranking", name := "guessesUntil", desc := "(I)I" } : Jvm.MethodName) ({ cls := "TrigramReaders$Ranking", name := "guessesUntil", desc := "(I)I" } : Jvm.MethodName)) ∈ LW := LW_mem (mt_5 (List.mem_of_getElem? (i := 88) rfl)) rfl
theorem t5_89 : (Jvm.Cond.code ({ cls := "TrigramReaders$Ranking", name := "guessesUntil", desc := "(I)I" } : Jvm.MethodName) prog_7_method_6_code (3 : Nat) (Option.some Jvm.ClassFile.FieldType.int)) ∈ LW := LW_mem (mt_5 (List.mem_of_getElem? (i := 89) rfl)) rfl
theorem t5_90 : (Jvm.Cond.methodLink "TrigramReadersLaw" (91 : Nat) ({ cls := "TrigramReaders", name := "forget", desc := "(I)I" } : Jvm.MethodName)) ∈ LW := LW_mem (mt_5 (List.mem_of_getElem? (i := 90) rfl)) rfl
theorem t5_91 : (Jvm.Cond.instanceMethod ({ cls := "TrigramReaders", name := "forget", desc := "(I)I" } : Jvm.MethodName)) ∈ LW := LW_mem (mt_5 (List.mem_of_getElem? (i := 91) rfl)) rfl
theorem t5_92 : (Jvm.Cond.selects "TrigramReaders" ({ cls := "TrigramReaders", name := "forget", desc := "(I)I" } : Jvm.MethodName) ({ cls := "TrigramReaders", name := "forget", desc := "(I)I" } : Jvm.MethodName)) ∈ LW := LW_mem (mt_5 (List.mem_of_getElem? (i := 92) rfl)) rfl
theorem t5_93 : (Jvm.Cond.code ({ cls := "TrigramReaders", name := "forget", desc := "(I)I" } : Jvm.MethodName) prog_1_method_53_code (4 : Nat) (Option.some Jvm.ClassFile.FieldType.int)) ∈ LW := LW_mem (mt_5 (List.mem_of_getElem? (i := 93) rfl)) rfl
theorem t5_94 : (Jvm.Cond.methodLink "TrigramReaders" (322 : Nat) ({ cls := "TrigramReaders$Reader", name := "clearTrainings", desc := "()V" } : Jvm.MethodName)) ∈ LW := LW_mem (mt_5 (List.mem_of_getElem? (i := 94) rfl)) rfl
theorem t5_95 : (Jvm.Cond.methodLink "TrigramReadersLaw" (94 : Nat) ({ cls := "TrigramReaders", name := "learn", desc := "(II)I" } : Jvm.MethodName)) ∈ LW := LW_mem (mt_5 (List.mem_of_getElem? (i := 95) rfl)) rfl
theorem t5_96 : (Jvm.Cond.instanceMethod ({ cls := "TrigramReaders", name := "learn", desc := "(II)I" } : Jvm.MethodName)) ∈ LW := LW_mem (mt_5 (List.mem_of_getElem? (i := 96) rfl)) rfl
theorem t5_97 : (Jvm.Cond.selects "TrigramReaders" ({ cls := "TrigramReaders", name := "learn", desc := "(II)I" } : Jvm.MethodName) ({ cls := "TrigramReaders", name := "learn", desc := "(II)I" } : Jvm.MethodName)) ∈ LW := LW_mem (mt_5 (List.mem_of_getElem? (i := 97) rfl)) rfl
theorem t5_98 : (Jvm.Cond.code ({ cls := "TrigramReaders", name := "learn", desc := "(II)I" } : Jvm.MethodName) prog_1_method_52_code (5 : Nat) (Option.some Jvm.ClassFile.FieldType.int)) ∈ LW := LW_mem (mt_5 (List.mem_of_getElem? (i := 98) rfl)) rfl
theorem t5_99 : (Jvm.Cond.methodLink "TrigramReaders" (264 : Nat) ({ cls := "TrigramReaders", name := "guessesWhileLearning", desc := "(LTrigramReaders$Counts;LTrigramReaders$Document;)I" } : Jvm.MethodName)) ∈ LW := LW_mem (mt_5 (List.mem_of_getElem? (i := 99) rfl)) rfl
theorem t5_101 : (Jvm.Cond.instanceMethod ({ cls := "TrigramReaders", name := "guessesWhileLearning", desc := "(LTrigramReaders$Counts;LTrigramReaders$Document;)I" } : Jvm.MethodName)) ∈ LW := LW_mem (mt_5 (List.mem_of_getElem? (i := 101) rfl)) rfl
theorem t5_102 : (Jvm.Cond.code ({ cls := "TrigramReaders", name := "guessesWhileLearning", desc := "(LTrigramReaders$Counts;LTrigramReaders$Document;)I" } : Jvm.MethodName) prog_1_method_82_code (5 : Nat) (Option.some Jvm.ClassFile.FieldType.int)) ∈ LW := LW_mem (mt_5 (List.mem_of_getElem? (i := 102) rfl)) rfl
theorem t5_103 : (Jvm.Cond.methodLink "TrigramReaders" (396 : Nat) ({ cls := "TrigramReaders$Counts", name := "countPosition", desc := "(LTrigramReaders$Document;I)V" } : Jvm.MethodName)) ∈ LW := LW_mem (mt_5 (List.mem_of_getElem? (i := 103) rfl)) rfl
theorem t5_104 : (Jvm.Cond.methodLink "TrigramReadersLaw" (97 : Nat) ({ cls := "TrigramReaders", name := "setEscapeMethod", desc := "(II)I" } : Jvm.MethodName)) ∈ LW := LW_mem (mt_5 (List.mem_of_getElem? (i := 104) rfl)) rfl
theorem t5_105 : (Jvm.Cond.instanceMethod ({ cls := "TrigramReaders", name := "setEscapeMethod", desc := "(II)I" } : Jvm.MethodName)) ∈ LW := LW_mem (mt_5 (List.mem_of_getElem? (i := 105) rfl)) rfl
theorem t5_106 : (Jvm.Cond.selects "TrigramReaders" ({ cls := "TrigramReaders", name := "setEscapeMethod", desc := "(II)I" } : Jvm.MethodName) ({ cls := "TrigramReaders", name := "setEscapeMethod", desc := "(II)I" } : Jvm.MethodName)) ∈ LW := LW_mem (mt_5 (List.mem_of_getElem? (i := 106) rfl)) rfl
theorem t5_107 : (Jvm.Cond.code ({ cls := "TrigramReaders", name := "setEscapeMethod", desc := "(II)I" } : Jvm.MethodName) prog_1_method_54_code (5 : Nat) (Option.some Jvm.ClassFile.FieldType.int)) ∈ LW := LW_mem (mt_5 (List.mem_of_getElem? (i := 107) rfl)) rfl
theorem t5_108 : (Jvm.Cond.methodLink "TrigramReaders" (289 : Nat) ({ cls := "TrigramReaders", name := "requireMethod", desc := "(I)V" } : Jvm.MethodName)) ∈ LW := LW_mem (mt_5 (List.mem_of_getElem? (i := 108) rfl)) rfl
theorem t5_109 : (Jvm.Cond.static ({ cls := "TrigramReaders", name := "requireMethod", desc := "(I)V" } : Jvm.MethodName)) ∈ LW := LW_mem (mt_5 (List.mem_of_getElem? (i := 109) rfl)) rfl
theorem t5_110 : (Jvm.Cond.code ({ cls := "TrigramReaders", name := "requireMethod", desc := "(I)V" } : Jvm.MethodName) prog_1_method_69_code (1 : Nat) (Option.none : Option Jvm.ClassFile.FieldType)) ∈ LW := LW_mem (mt_5 (List.mem_of_getElem? (i := 110) rfl)) rfl
theorem t5_112 : (Jvm.Cond.methodLink "TrigramReadersLaw" (100 : Nat) ({ cls := "TrigramReaders", name := "merge", desc := "(II)I" } : Jvm.MethodName)) ∈ LW := LW_mem (mt_5 (List.mem_of_getElem? (i := 112) rfl)) rfl
theorem t5_113 : (Jvm.Cond.instanceMethod ({ cls := "TrigramReaders", name := "merge", desc := "(II)I" } : Jvm.MethodName)) ∈ LW := LW_mem (mt_5 (List.mem_of_getElem? (i := 113) rfl)) rfl
theorem t5_114 : (Jvm.Cond.selects "TrigramReaders" ({ cls := "TrigramReaders", name := "merge", desc := "(II)I" } : Jvm.MethodName) ({ cls := "TrigramReaders", name := "merge", desc := "(II)I" } : Jvm.MethodName)) ∈ LW := LW_mem (mt_5 (List.mem_of_getElem? (i := 114) rfl)) rfl
theorem t5_115 : (Jvm.Cond.code ({ cls := "TrigramReaders", name := "merge", desc := "(II)I" } : Jvm.MethodName) prog_1_method_56_code (5 : Nat) (Option.some Jvm.ClassFile.FieldType.int)) ∈ LW := LW_mem (mt_5 (List.mem_of_getElem? (i := 115) rfl)) rfl
theorem t5_117 : (Jvm.Cond.methodLink "TrigramReaders" (328 : Nat) ({ cls := "TrigramReaders$Reader", name := "takeIn", desc := "(LTrigramReaders$Reader;)V" } : Jvm.MethodName)) ∈ LW := LW_mem (mt_5 (List.mem_of_getElem? (i := 117) rfl)) rfl
theorem t5_118 : (Jvm.Cond.instanceMethod ({ cls := "TrigramReaders$Reader", name := "takeIn", desc := "(LTrigramReaders$Reader;)V" } : Jvm.MethodName)) ∈ LW := LW_mem (mt_5 (List.mem_of_getElem? (i := 118) rfl)) rfl
theorem t5_119 : (Jvm.Cond.selects "TrigramReaders$Reader" ({ cls := "TrigramReaders$Reader", name := "takeIn", desc := "(LTrigramReaders$Reader;)V" } : Jvm.MethodName) ({ cls := "TrigramReaders$Reader", name := "takeIn", desc := "(LTrigramReaders$Reader;)V" } : Jvm.MethodName)) ∈ LW := LW_mem (mt_5 (List.mem_of_getElem? (i := 119) rfl)) rfl
theorem t5_120 : (Jvm.Cond.code ({ cls := "TrigramReaders$Reader", name := "takeIn", desc := "(LTrigramReaders$Reader;)V" } : Jvm.MethodName) prog_8_method_9_code (3 : Nat) (Option.none : Option Jvm.ClassFile.FieldType)) ∈ LW := LW_mem (mt_5 (List.mem_of_getElem? (i := 120) rfl)) rfl
theorem t5_121 : (Jvm.Cond.methodLink "TrigramReaders$Reader" (60 : Nat) ({ cls := "TrigramReaders$Counts", name := "addAll", desc := "(LTrigramReaders$Counts;)V" } : Jvm.MethodName)) ∈ LW := LW_mem (mt_5 (List.mem_of_getElem? (i := 121) rfl)) rfl
theorem t5_122 : (Jvm.Cond.instanceMethod ({ cls := "TrigramReaders$Counts", name := "addAll", desc := "(LTrigramReaders$Counts;)V" } : Jvm.MethodName)) ∈ LW := LW_mem (mt_5 (List.mem_of_getElem? (i := 122) rfl)) rfl
theorem t5_123 : (Jvm.Cond.selects "TrigramReaders$Counts" ({ cls := "TrigramReaders$Counts", name := "addAll", desc := "(LTrigramReaders$Counts;)V" } : Jvm.MethodName) ({ cls := "TrigramReaders$Counts", name := "addAll", desc := "(LTrigramReaders$Counts;)V" } : Jvm.MethodName)) ∈ LW := LW_mem (mt_5 (List.mem_of_getElem? (i := 123) rfl)) rfl
theorem t5_124 : (Jvm.Cond.code ({ cls := "TrigramReaders$Counts", name := "addAll", desc := "(LTrigramReaders$Counts;)V" } : Jvm.MethodName) prog_4_method_6_code (3 : Nat) (Option.none : Option Jvm.ClassFile.FieldType)) ∈ LW := LW_mem (mt_5 (List.mem_of_getElem? (i := 124) rfl)) rfl
theorem t5_125 : (Jvm.Cond.methodLink "TrigramReadersLaw" (159 : Nat) ({ cls := "TrigramReadersLaw", name := "times", desc := "(LTrigramReaders;III)I" } : Jvm.MethodName)) ∈ LW := LW_mem (mt_5 (List.mem_of_getElem? (i := 125) rfl)) rfl
theorem t5_126 : (Jvm.Cond.static ({ cls := "TrigramReadersLaw", name := "times", desc := "(LTrigramReaders;III)I" } : Jvm.MethodName)) ∈ LW := LW_mem (mt_5 (List.mem_of_getElem? (i := 126) rfl)) rfl
theorem t5_127 : (Jvm.Cond.code ({ cls := "TrigramReadersLaw", name := "times", desc := "(LTrigramReaders;III)I" } : Jvm.MethodName) method_11_code (8 : Nat) (Option.some Jvm.ClassFile.FieldType.int)) ∈ LW := LW_mem (mt_5 (List.mem_of_getElem? (i := 127) rfl)) rfl
theorem t5_128 : (Jvm.Cond.methodLink "TrigramReadersLaw" (163 : Nat) ({ cls := "java/lang/Math", name := "min", desc := "(II)I" } : Jvm.MethodName)) ∈ LW := LW_mem (mt_5 (List.mem_of_getElem? (i := 128) rfl)) rfl
theorem t5_129 : (Jvm.Cond.methodLink "TrigramReadersLaw" (168 : Nat) ({ cls := "TrigramReaders", name := "positiveCounts", desc := "(I)I" } : Jvm.MethodName)) ∈ LW := LW_mem (mt_5 (List.mem_of_getElem? (i := 129) rfl)) rfl
theorem t5_130 : (Jvm.Cond.instanceMethod ({ cls := "TrigramReaders", name := "positiveCounts", desc := "(I)I" } : Jvm.MethodName)) ∈ LW := LW_mem (mt_5 (List.mem_of_getElem? (i := 130) rfl)) rfl
theorem t5_131 : (Jvm.Cond.selects "TrigramReaders" ({ cls := "TrigramReaders", name := "positiveCounts", desc := "(I)I" } : Jvm.MethodName) ({ cls := "TrigramReaders", name := "positiveCounts", desc := "(I)I" } : Jvm.MethodName)) ∈ LW := LW_mem (mt_5 (List.mem_of_getElem? (i := 131) rfl)) rfl
theorem t5_132 : (Jvm.Cond.code ({ cls := "TrigramReaders", name := "positiveCounts", desc := "(I)I" } : Jvm.MethodName) prog_1_method_22_code (2 : Nat) (Option.some Jvm.ClassFile.FieldType.int)) ∈ LW := LW_mem (mt_5 (List.mem_of_getElem? (i := 132) rfl)) rfl
theorem t5_133 : (Jvm.Cond.methodLink "TrigramReadersLaw" (125 : Nat) ({ cls := "TrigramReadersLaw", name := "isRanked", desc := "(LTrigramReaders;I)Z" } : Jvm.MethodName)) ∈ LW := LW_mem (mt_5 (List.mem_of_getElem? (i := 133) rfl)) rfl
theorem t5_134 : (Jvm.Cond.static ({ cls := "TrigramReadersLaw", name := "isRanked", desc := "(LTrigramReaders;I)Z" } : Jvm.MethodName)) ∈ LW := LW_mem (mt_5 (List.mem_of_getElem? (i := 134) rfl)) rfl
theorem t5_135 : (Jvm.Cond.code ({ cls := "TrigramReadersLaw", name := "isRanked", desc := "(LTrigramReaders;I)Z" } : Jvm.MethodName) method_15_code (15 : Nat) (Option.some Jvm.ClassFile.FieldType.boolean)) ∈ LW := LW_mem (mt_5 (List.mem_of_getElem? (i := 135) rfl)) rfl
theorem t5_136 : (Jvm.Cond.methodLink "TrigramReadersLaw" (171 : Nat) ({ cls := "TrigramReadersLaw", name := "count", desc := "(LTrigramReaders;IIIII)I" } : Jvm.MethodName)) ∈ LW := LW_mem (mt_5 (List.mem_of_getElem? (i := 136) rfl)) rfl
theorem t5_137 : (Jvm.Cond.static ({ cls := "TrigramReadersLaw", name := "count", desc := "(LTrigramReaders;IIIII)I" } : Jvm.MethodName)) ∈ LW := LW_mem (mt_5 (List.mem_of_getElem? (i := 137) rfl)) rfl
theorem t5_138 : (Jvm.Cond.code ({ cls := "TrigramReadersLaw", name := "count", desc := "(LTrigramReaders;IIIII)I" } : Jvm.MethodName) method_13_code (6 : Nat) (Option.some Jvm.ClassFile.FieldType.int)) ∈ LW := LW_mem (mt_5 (List.mem_of_getElem? (i := 138) rfl)) rfl
theorem t5_139 : (Jvm.Cond.methodLink "TrigramReadersLaw" (175 : Nat) ({ cls := "TrigramReaders", name := "symbolAtRank", desc := "(IIII)I" } : Jvm.MethodName)) ∈ LW := LW_mem (mt_5 (List.mem_of_getElem? (i := 139) rfl)) rfl
theorem t5_140 : (Jvm.Cond.instanceMethod ({ cls := "TrigramReaders", name := "symbolAtRank", desc := "(IIII)I" } : Jvm.MethodName)) ∈ LW := LW_mem (mt_5 (List.mem_of_getElem? (i := 140) rfl)) rfl
theorem t5_141 : (Jvm.Cond.selects "TrigramReaders" ({ cls := "TrigramReaders", name := "symbolAtRank", desc := "(IIII)I" } : Jvm.MethodName) ({ cls := "TrigramReaders", name := "symbolAtRank", desc := "(IIII)I" } : Jvm.MethodName)) ∈ LW := LW_mem (mt_5 (List.mem_of_getElem? (i := 141) rfl)) rfl
theorem t5_142 : (Jvm.Cond.code ({ cls := "TrigramReaders", name := "symbolAtRank", desc := "(IIII)I" } : Jvm.MethodName) prog_1_method_26_code (6 : Nat) (Option.some Jvm.ClassFile.FieldType.int)) ∈ LW := LW_mem (mt_5 (List.mem_of_getElem? (i := 142) rfl)) rfl
theorem t5_143 : (Jvm.Cond.methodLink "TrigramReaders" (198 : Nat) ({ cls := "TrigramReaders", name := "requireContext", desc := "(II)V" } : Jvm.MethodName)) ∈ LW := LW_mem (mt_5 (List.mem_of_getElem? (i := 143) rfl)) rfl
theorem t5_144 : (Jvm.Cond.static ({ cls := "TrigramReaders", name := "requireContext", desc := "(II)V" } : Jvm.MethodName)) ∈ LW := LW_mem (mt_5 (List.mem_of_getElem? (i := 144) rfl)) rfl
theorem t5_145 : (Jvm.Cond.code ({ cls := "TrigramReaders", name := "requireContext", desc := "(II)V" } : Jvm.MethodName) prog_1_method_71_code (3 : Nat) (Option.none : Option Jvm.ClassFile.FieldType)) ∈ LW := LW_mem (mt_5 (List.mem_of_getElem? (i := 145) rfl)) rfl
theorem t5_148 : (Jvm.Cond.methodLink "TrigramReaders" (226 : Nat) ({ cls := "TrigramReaders", name := "guessIn", desc := "(LTrigramReaders$Counts;III)I" } : Jvm.MethodName)) ∈ LW := LW_mem (mt_5 (List.mem_of_getElem? (i := 148) rfl)) rfl
theorem t5_150 : (Jvm.Cond.instanceMethod ({ cls := "TrigramReaders", name := "guessIn", desc := "(LTrigramReaders$Counts;III)I" } : Jvm.MethodName)) ∈ LW := LW_mem (mt_5 (List.mem_of_getElem? (i := 150) rfl)) rfl
theorem t5_151 : (Jvm.Cond.code ({ cls := "TrigramReaders", name := "guessIn", desc := "(LTrigramReaders$Counts;III)I" } : Jvm.MethodName) prog_1_method_76_code (5 : Nat) (Option.some Jvm.ClassFile.FieldType.int)) ∈ LW := LW_mem (mt_5 (List.mem_of_getElem? (i := 151) rfl)) rfl
theorem t5_152 : (Jvm.Cond.methodLink "TrigramReaders" (390 : Nat) ({ cls := "TrigramReaders$Ranking", name := "guess", desc := "(I)I" } : Jvm.MethodName)) ∈ LW := LW_mem (mt_5 (List.mem_of_getElem? (i := 152) rfl)) rfl
theorem t5_153 : (Jvm.Cond.instanceMethod ({ cls := "TrigramReaders$Ranking", name := "guess", desc := "(I)I" } : Jvm.MethodName)) ∈ LW := LW_mem (mt_5 (List.mem_of_getElem? (i := 153) rfl)) rfl
theorem t5_154 : (Jvm.Cond.selects "TrigramReaders$Ranking" ({ cls := "TrigramReaders$Ranking", name := "guess", desc := "(I)I" } : Jvm.MethodName) ({ cls := "TrigramReaders$Ranking", name := "guess", desc := "(I)I" } : Jvm.MethodName)) ∈ LW := LW_mem (mt_5 (List.mem_of_getElem? (i := 154) rfl)) rfl
theorem t5_155 : (Jvm.Cond.code ({ cls := "TrigramReaders$Ranking", name := "guess", desc := "(I)I" } : Jvm.MethodName) prog_7_method_5_code (2 : Nat) (Option.some Jvm.ClassFile.FieldType.int)) ∈ LW := LW_mem (mt_5 (List.mem_of_getElem? (i := 155) rfl)) rfl
theorem t5_156 : (Jvm.Cond.methodLink "TrigramReadersLaw" (178 : Nat) ({ cls := "TrigramReaders", name := "rank", desc := "(IIII)I" } : Jvm.MethodName)) ∈ LW := LW_mem (mt_5 (List.mem_of_getElem? (i := 156) rfl)) rfl
theorem t5_157 : (Jvm.Cond.instanceMethod ({ cls := "TrigramReaders", name := "rank", desc := "(IIII)I" } : Jvm.MethodName)) ∈ LW := LW_mem (mt_5 (List.mem_of_getElem? (i := 157) rfl)) rfl
theorem t5_158 : (Jvm.Cond.selects "TrigramReaders" ({ cls := "TrigramReaders", name := "rank", desc := "(IIII)I" } : Jvm.MethodName) ({ cls := "TrigramReaders", name := "rank", desc := "(IIII)I" } : Jvm.MethodName)) ∈ LW := LW_mem (mt_5 (List.mem_of_getElem? (i := 158) rfl)) rfl
theorem t5_159 : (Jvm.Cond.code ({ cls := "TrigramReaders", name := "rank", desc := "(IIII)I" } : Jvm.MethodName) prog_1_method_27_code (6 : Nat) (Option.some Jvm.ClassFile.FieldType.int)) ∈ LW := LW_mem (mt_5 (List.mem_of_getElem? (i := 159) rfl)) rfl
theorem t5_160 : (Jvm.Cond.methodLink "TrigramReadersLaw" (181 : Nat) ({ cls := "TrigramReaders", name := "foundOrder", desc := "(IIII)I" } : Jvm.MethodName)) ∈ LW := LW_mem (mt_5 (List.mem_of_getElem? (i := 160) rfl)) rfl
theorem t5_161 : (Jvm.Cond.instanceMethod ({ cls := "TrigramReaders", name := "foundOrder", desc := "(IIII)I" } : Jvm.MethodName)) ∈ LW := LW_mem (mt_5 (List.mem_of_getElem? (i := 161) rfl)) rfl
theorem t5_162 : (Jvm.Cond.selects "TrigramReaders" ({ cls := "TrigramReaders", name := "foundOrder", desc := "(IIII)I" } : Jvm.MethodName) ({ cls := "TrigramReaders", name := "foundOrder", desc := "(IIII)I" } : Jvm.MethodName)) ∈ LW := LW_mem (mt_5 (List.mem_of_getElem? (i := 162) rfl)) rfl
theorem t5_163 : (Jvm.Cond.code ({ cls := "TrigramReaders", name := "foundOrder", desc := "(IIII)I" } : Jvm.MethodName) prog_1_method_28_code (6 : Nat) (Option.some Jvm.ClassFile.FieldType.int)) ∈ LW := LW_mem (mt_5 (List.mem_of_getElem? (i := 163) rfl)) rfl
theorem t5_164 : (Jvm.Cond.methodLink "TrigramReaders" (233 : Nat) ({ cls := "TrigramReaders", name := "orderOf", desc := "(LTrigramReaders$Counts;III)I" } : Jvm.MethodName)) ∈ LW := LW_mem (mt_5 (List.mem_of_getElem? (i := 164) rfl)) rfl
theorem t5_165 : (Jvm.Cond.static ({ cls := "TrigramReaders", name := "orderOf", desc := "(LTrigramReaders$Counts;III)I" } : Jvm.MethodName)) ∈ LW := LW_mem (mt_5 (List.mem_of_getElem? (i := 165) rfl)) rfl
theorem t5_166 : (Jvm.Cond.code ({ cls := "TrigramReaders", name := "orderOf", desc := "(LTrigramReaders$Counts;III)I" } : Jvm.MethodName) prog_1_method_78_code (5 : Nat) (Option.some Jvm.ClassFile.FieldType.int)) ∈ LW := LW_mem (mt_5 (List.mem_of_getElem? (i := 166) rfl)) rfl
theorem t5_167 : (Jvm.Cond.methodLink "TrigramReaders" (202 : Nat) ({ cls := "TrigramReaders", name := "firstOrder", desc := "(II)I" } : Jvm.MethodName)) ∈ LW := LW_mem (mt_5 (List.mem_of_getElem? (i := 167) rfl)) rfl
theorem t5_168 : (Jvm.Cond.methodLink "TrigramReadersLaw" (184 : Nat) ({ cls := "TrigramReaders", name := "contextTotal", desc := "(III)I" } : Jvm.MethodName)) ∈ LW := LW_mem (mt_5 (List.mem_of_getElem? (i := 168) rfl)) rfl
theorem t5_169 : (Jvm.Cond.instanceMethod ({ cls := "TrigramReaders", name := "contextTotal", desc := "(III)I" } : Jvm.MethodName)) ∈ LW := LW_mem (mt_5 (List.mem_of_getElem? (i := 169) rfl)) rfl
theorem t5_170 : (Jvm.Cond.selects "TrigramReaders" ({ cls := "TrigramReaders", name := "contextTotal", desc := "(III)I" } : Jvm.MethodName) ({ cls := "TrigramReaders", name := "contextTotal", desc := "(III)I" } : Jvm.MethodName)) ∈ LW := LW_mem (mt_5 (List.mem_of_getElem? (i := 170) rfl)) rfl
theorem t5_171 : (Jvm.Cond.code ({ cls := "TrigramReaders", name := "contextTotal", desc := "(III)I" } : Jvm.MethodName) prog_1_method_19_code (6 : Nat) (Option.some Jvm.ClassFile.FieldType.int)) ∈ LW := LW_mem (mt_5 (List.mem_of_getElem? (i := 171) rfl)) rfl
theorem t5_172 : (Jvm.Cond.methodLink "TrigramReaders" (206 : Nat) ({ cls := "TrigramReaders$Counts", name := "sumIn", desc := "(I)I" } : Jvm.MethodName)) ∈ LW := LW_mem (mt_5 (List.mem_of_getElem? (i := 172) rfl)) rfl
theorem t5_173 : (Jvm.Cond.instanceMethod ({ cls := "TrigramReaders$Counts", name := "sumIn", desc := "(I)I" } : Jvm.MethodName)) ∈ LW := LW_mem (mt_5 (List.mem_of_getElem? (i := 173) rfl)) rfl
theorem t5_174 : (Jvm.Cond.selects "TrigramReaders$Counts" ({ cls := "TrigramReaders$Counts", name := "sumIn", desc := "(I)I" } : Jvm.MethodName) ({ cls := "TrigramReaders$Counts", name := "sumIn", desc := "(I)I" } : Jvm.MethodName)) ∈ LW := LW_mem (mt_5 (List.mem_of_getElem? (i := 174) rfl)) rfl
theorem t5_175 : (Jvm.Cond.code ({ cls := "TrigramReaders$Counts", name := "sumIn", desc := "(I)I" } : Jvm.MethodName) prog_4_method_11_code (4 : Nat) (Option.some Jvm.ClassFile.FieldType.int)) ∈ LW := LW_mem (mt_5 (List.mem_of_getElem? (i := 175) rfl)) rfl
theorem t5_176 : (Jvm.Cond.methodLink "TrigramReadersLaw" (187 : Nat) ({ cls := "TrigramReaders", name := "contextSymbols", desc := "(III)I" } : Jvm.MethodName)) ∈ LW := LW_mem (mt_5 (List.mem_of_getElem? (i := 176) rfl)) rfl
theorem t5_177 : (Jvm.Cond.instanceMethod ({ cls := "TrigramReaders", name := "contextSymbols", desc := "(III)I" } : Jvm.MethodName)) ∈ LW := LW_mem (mt_5 (List.mem_of_getElem? (i := 177) rfl)) rfl
theorem t5_178 : (Jvm.Cond.selects "TrigramReaders" ({ cls := "TrigramReaders", name := "contextSymbols", desc := "(III)I" } : Jvm.MethodName) ({ cls := "TrigramReaders", name := "contextSymbols", desc := "(III)I" } : Jvm.MethodName)) ∈ LW := LW_mem (mt_5 (List.mem_of_getElem? (i := 178) rfl)) rfl
theorem t5_179 : (Jvm.Cond.code ({ cls := "TrigramReaders", name := "contextSymbols", desc := "(III)I" } : Jvm.MethodName) prog_1_method_20_code (6 : Nat) (Option.some Jvm.ClassFile.FieldType.int)) ∈ LW := LW_mem (mt_5 (List.mem_of_getElem? (i := 179) rfl)) rfl
theorem t5_180 : (Jvm.Cond.methodLink "TrigramReaders" (209 : Nat) ({ cls := "TrigramReaders$Counts", name := "symbolsIn", desc := "(I)I" } : Jvm.MethodName)) ∈ LW := LW_mem (mt_5 (List.mem_of_getElem? (i := 180) rfl)) rfl
theorem t5_181 : (Jvm.Cond.instanceMethod ({ cls := "TrigramReaders$Counts", name := "symbolsIn", desc := "(I)I" } : Jvm.MethodName)) ∈ LW := LW_mem (mt_5 (List.mem_of_getElem? (i := 181) rfl)) rfl
theorem t5_182 : (Jvm.Cond.selects "TrigramReaders$Counts" ({ cls := "TrigramReaders$Counts", name := "symbolsIn", desc := "(I)I" } : Jvm.MethodName) ({ cls := "TrigramReaders$Counts", name := "symbolsIn", desc := "(I)I" } : Jvm.MethodName)) ∈ LW := LW_mem (mt_5 (List.mem_of_getElem? (i := 182) rfl)) rfl
theorem t5_183 : (Jvm.Cond.code ({ cls := "TrigramReaders$Counts", name := "symbolsIn", desc := "(I)I" } : Jvm.MethodName) prog_4_method_10_code (2 : Nat) (Option.some Jvm.ClassFile.FieldType.int)) ∈ LW := LW_mem (mt_5 (List.mem_of_getElem? (i := 183) rfl)) rfl
theorem t5_184 : (Jvm.Cond.methodLink "TrigramReadersLaw" (190 : Nat) ({ cls := "TrigramReadersLaw", name := "isFraction", desc := "(LTrigramReaders;IIII)Z" } : Jvm.MethodName)) ∈ LW := LW_mem (mt_5 (List.mem_of_getElem? (i := 184) rfl)) rfl
theorem t5_185 : (Jvm.Cond.static ({ cls := "TrigramReadersLaw", name := "isFraction", desc := "(LTrigramReaders;IIII)Z" } : Jvm.MethodName)) ∈ LW := LW_mem (mt_5 (List.mem_of_getElem? (i := 185) rfl)) rfl
theorem t5_186 : (Jvm.Cond.code ({ cls := "TrigramReadersLaw", name := "isFraction", desc := "(LTrigramReaders;IIII)Z" } : Jvm.MethodName) method_16_code (22 : Nat) (Option.some Jvm.ClassFile.FieldType.boolean)) ∈ LW := LW_mem (mt_5 (List.mem_of_getElem? (i := 186) rfl)) rfl
theorem t5_187 : (Jvm.Cond.methodLink "TrigramReadersLaw" (194 : Nat) ({ cls := "TrigramReaders", name := "escapeMethod", desc := "(I)I" } : Jvm.MethodName)) ∈ LW := LW_mem (mt_5 (List.mem_of_getElem? (i := 187) rfl)) rfl
theorem t5_188 : (Jvm.Cond.instanceMethod ({ cls := "TrigramReaders", name := "escapeMethod", desc := "(I)I" } : Jvm.MethodName)) ∈ LW := LW_mem (mt_5 (List.mem_of_getElem? (i := 188) rfl)) rfl
theorem t5_189 : (Jvm.Cond.selects "TrigramReaders" ({ cls := "TrigramReaders", name := "escapeMethod", desc := "(I)I" } : Jvm.MethodName) ({ cls := "TrigramReaders", name := "escapeMethod", desc := "(I)I" } : Jvm.MethodName)) ∈ LW := LW_mem (mt_5 (List.mem_of_getElem? (i := 189) rfl)) rfl
theorem t5_190 : (Jvm.Cond.code ({ cls := "TrigramReaders", name := "escapeMethod", desc := "(I)I" } : Jvm.MethodName) prog_1_method_11_code (2 : Nat) (Option.some Jvm.ClassFile.FieldType.int)) ∈ LW := LW_mem (mt_5 (List.mem_of_getElem? (i := 190) rfl)) rfl
theorem t5_191 : (Jvm.Cond.methodLink "TrigramReadersLaw" (197 : Nat) ({ cls := "TrigramReadersLaw", name := "divisor", desc := "(JJ)J" } : Jvm.MethodName)) ∈ LW := LW_mem (mt_5 (List.mem_of_getElem? (i := 191) rfl)) rfl
theorem t5_192 : (Jvm.Cond.static ({ cls := "TrigramReadersLaw", name := "divisor", desc := "(JJ)J" } : Jvm.MethodName)) ∈ LW := LW_mem (mt_5 (List.mem_of_getElem? (i := 192) rfl)) rfl
theorem t5_193 : (Jvm.Cond.code ({ cls := "TrigramReadersLaw", name := "divisor", desc := "(JJ)J" } : Jvm.MethodName) method_14_code (10 : Nat) (Option.some Jvm.ClassFile.FieldType.long)) ∈ LW := LW_mem (mt_5 (List.mem_of_getElem? (i := 193) rfl)) rfl
theorem t5_194 : (Jvm.Cond.methodLink "TrigramReadersLaw" (201 : Nat) ({ cls := "TrigramReaders", name := "numerator", desc := "(IIII)J" } : Jvm.MethodName)) ∈ LW := LW_mem (mt_5 (List.mem_of_getElem? (i := 194) rfl)) rfl
theorem t5_195 : (Jvm.Cond.instanceMethod ({ cls := "TrigramReaders", name := "numerator", desc := "(IIII)J" } : Jvm.MethodName)) ∈ LW := LW_mem (mt_5 (List.mem_of_getElem? (i := 195) rfl)) rfl
theorem t5_196 : (Jvm.Cond.selects "TrigramReaders" ({ cls := "TrigramReaders", name := "numerator", desc := "(IIII)J" } : Jvm.MethodName) ({ cls := "TrigramReaders", name := "numerator", desc := "(IIII)J" } : Jvm.MethodName)) ∈ LW := LW_mem (mt_5 (List.mem_of_getElem? (i := 196) rfl)) rfl
theorem t5_197 : (Jvm.Cond.code ({ cls := "TrigramReaders", name := "numerator", desc := "(IIII)J" } : Jvm.MethodName) prog_1_method_30_code (5 : Nat) (Option.some Jvm.ClassFile.FieldType.long)) ∈ LW := LW_mem (mt_5 (List.mem_of_getElem? (i := 197) rfl)) rfl
theorem t5_198 : (Jvm.Cond.methodLink "TrigramReaders" (236 : Nat) ({ cls := "TrigramReaders", name := "chanceOf", desc := "(IIII)LTrigramReaders$Chance;" } : Jvm.MethodName)) ∈ LW := LW_mem (mt_5 (List.mem_of_getElem? (i := 198) rfl)) rfl
theorem t5_200 : (Jvm.Cond.instanceMethod ({ cls := "TrigramReaders", name := "chanceOf", desc := "(IIII)LTrigramReaders$Chance;" } : Jvm.MethodName)) ∈ LW := LW_mem (mt_5 (List.mem_of_getElem? (i := 200) rfl)) rfl
theorem t5_201 : (Jvm.Cond.code ({ cls := "TrigramReaders", name := "chanceOf", desc := "(IIII)LTrigramReaders$Chance;" } : Jvm.MethodName) prog_1_method_75_code (6 : Nat) (Option.some (Jvm.ClassFile.FieldType.object "TrigramReaders$Chance"))) ∈ LW := LW_mem (mt_5 (List.mem_of_getElem? (i := 201) rfl)) rfl
theorem t5_202 : (Jvm.Cond.methodLink "TrigramReaders" (270 : Nat) ({ cls := "TrigramReaders$Chance", name := "find", desc := "(LTrigramReaders$Reader;III)V" } : Jvm.MethodName)) ∈ LW := LW_mem (mt_5 (List.mem_of_getElem? (i := 202) rfl)) rfl
theorem t5_203 : (Jvm.Cond.instanceMethod ({ cls := "TrigramReaders$Chance", name := "find", desc := "(LTrigramReaders$Reader;III)V" } : Jvm.MethodName)) ∈ LW := LW_mem (mt_5 (List.mem_of_getElem? (i := 203) rfl)) rfl
theorem t5_204 : (Jvm.Cond.selects "TrigramReaders$Chance" ({ cls := "TrigramReaders$Chance", name := "find", desc := "(LTrigramReaders$Reader;III)V" } : Jvm.MethodName) ({ cls := "TrigramReaders$Chance", name := "find", desc := "(LTrigramReaders$Reader;III)V" } : Jvm.MethodName)) ∈ LW := LW_mem (mt_5 (List.mem_of_getElem? (i := 204) rfl)) rfl
theorem t5_205 : (Jvm.Cond.code ({ cls := "TrigramReaders$Chance", name := "find", desc := "(LTrigramReaders$Reader;III)V" } : Jvm.MethodName) prog_3_method_2_code (7 : Nat) (Option.none : Option Jvm.ClassFile.FieldType)) ∈ LW := LW_mem (mt_5 (List.mem_of_getElem? (i := 205) rfl)) rfl
theorem t5_208 : (Jvm.Cond.methodLink "TrigramReaders$Chance" (42 : Nat) ({ cls := "TrigramReaders$Chance", name := "visit", desc := "(LTrigramReaders$Counts;III)Z" } : Jvm.MethodName)) ∈ LW := LW_mem (mt_5 (List.mem_of_getElem? (i := 208) rfl)) rfl
theorem t5_210 : (Jvm.Cond.instanceMethod ({ cls := "TrigramReaders$Chance", name := "visit", desc := "(LTrigramReaders$Counts;III)Z" } : Jvm.MethodName)) ∈ LW := LW_mem (mt_5 (List.mem_of_getElem? (i := 210) rfl)) rfl
theorem t5_211 : (Jvm.Cond.code ({ cls := "TrigramReaders$Chance", name := "visit", desc := "(LTrigramReaders$Counts;III)Z" } : Jvm.MethodName) prog_3_method_3_code (11 : Nat) (Option.some Jvm.ClassFile.FieldType.boolean)) ∈ LW := LW_mem (mt_5 (List.mem_of_getElem? (i := 211) rfl)) rfl
theorem t5_212 : (Jvm.Cond.methodLink "TrigramReaders$Chance" (55 : Nat) ({ cls := "TrigramReaders$Counts", name := "placeOf", desc := "(I)I" } : Jvm.MethodName)) ∈ LW := LW_mem (mt_5 (List.mem_of_getElem? (i := 212) rfl)) rfl
theorem t5_213 : (Jvm.Cond.methodLink "TrigramReaders$Chance" (70 : Nat) ({ cls := "TrigramReaders$Chance", name := "divisorFor", desc := "(III)I" } : Jvm.MethodName)) ∈ LW := LW_mem (mt_5 (List.mem_of_getElem? (i := 213) rfl)) rfl
theorem t5_214 : (Jvm.Cond.static ({ cls := "TrigramReaders$Chance", name := "divisorFor", desc := "(III)I" } : Jvm.MethodName)) ∈ LW := LW_mem (mt_5 (List.mem_of_getElem? (i := 214) rfl)) rfl
theorem t5_215 : (Jvm.Cond.code ({ cls := "TrigramReaders$Chance", name := "divisorFor", desc := "(III)I" } : Jvm.MethodName) prog_3_method_4_code (3 : Nat) (Option.some Jvm.ClassFile.FieldType.int)) ∈ LW := LW_mem (mt_5 (List.mem_of_getElem? (i := 215) rfl)) rfl
theorem t5_216 : (Jvm.Cond.methodLink "TrigramReaders$Chance" (46 : Nat) ({ cls := "java/lang/Integer", name := "bitCount", desc := "(I)I" } : Jvm.MethodName)) ∈ LW := LW_mem (mt_5 (List.mem_of_getElem? (i := 216) rfl)) rfl
theorem t5_217 : (Jvm.Cond.static ({ cls := "java/lang/Integer", name := "bitCount", desc := "(I)I" } : Jvm.MethodName)) ∈ LW := LW_mem (mt_5 (List.mem_of_getElem? (i := 217) rfl)) rfl
theorem t5_218 : (Jvm.Cond.code ({ cls := "java/lang/Integer", name := "bitCount", desc := "(I)I" } : Jvm.MethodName) prog_22_method_49_code (1 : Nat) (Option.some Jvm.ClassFile.FieldType.int)) ∈ LW := LW_mem (mt_5 (List.mem_of_getElem? (i := 218) rfl)) rfl
theorem t5_219 : (Jvm.Cond.constant "java/lang/Integer" (265 : Nat) (1431655765 : Int32)) ∈ LW := LW_mem (mt_5 (List.mem_of_getElem? (i := 219) rfl)) rfl
theorem t5_220 : (Jvm.Cond.constant "java/lang/Integer" (266 : Nat) (858993459 : Int32)) ∈ LW := LW_mem (mt_5 (List.mem_of_getElem? (i := 220) rfl)) rfl
theorem t5_221 : (Jvm.Cond.constant "java/lang/Integer" (267 : Nat) (252645135 : Int32)) ∈ LW := LW_mem (mt_5 (List.mem_of_getElem? (i := 221) rfl)) rfl
theorem t5_222 : (Jvm.Cond.methodLink "TrigramReaders$Chance" (52 : Nat) ({ cls := "TrigramReaders$Chance", name := "reduce", desc := "()V" } : Jvm.MethodName)) ∈ LW := LW_mem (mt_5 (List.mem_of_getElem? (i := 222) rfl)) rfl
theorem t5_224 : (Jvm.Cond.instanceMethod ({ cls := "TrigramReaders$Chance", name := "reduce", desc := "()V" } : Jvm.MethodName)) ∈ LW := LW_mem (mt_5 (List.mem_of_getElem? (i := 224) rfl)) rfl
theorem t5_225 : (Jvm.Cond.code ({ cls := "TrigramReaders$Chance", name := "reduce", desc := "()V" } : Jvm.MethodName) prog_3_method_5_code (8 : Nat) (Option.none : Option Jvm.ClassFile.FieldType)) ∈ LW := LW_mem (mt_5 (List.mem_of_getElem? (i := 225) rfl)) rfl
theorem t5_226 : (Jvm.Cond.methodLink "TrigramReadersLaw" (205 : Nat) ({ cls := "TrigramReaders", name := "denominator", desc := "(IIII)J" } : Jvm.MethodName)) ∈ LW := LW_mem (mt_5 (List.mem_of_getElem? (i := 226) rfl)) rfl
theorem t5_227 : (Jvm.Cond.instanceMethod ({ cls := "TrigramReaders", name := "denominator", desc := "(IIII)J" } : Jvm.MethodName)) ∈ LW := LW_mem (mt_5 (List.mem_of_getElem? (i := 227) rfl)) rfl
theorem t5_228 : (Jvm.Cond.selects "TrigramReaders" ({ cls := "TrigramReaders", name := "denominator", desc := "(IIII)J" } : Jvm.MethodName) ({ cls := "TrigramReaders", name := "denominator", desc := "(IIII)J" } : Jvm.MethodName)) ∈ LW := LW_mem (mt_5 (List.mem_of_getElem? (i := 228) rfl)) rfl
theorem t5_229 : (Jvm.Cond.code ({ cls := "TrigramReaders", name := "denominator", desc := "(IIII)J" } : Jvm.MethodName) prog_1_method_31_code (5 : Nat) (Option.some Jvm.ClassFile.FieldType.long)) ∈ LW := LW_mem (mt_5 (List.mem_of_getElem? (i := 229) rfl)) rfl
theorem t5_230 : (Jvm.Cond.constantLong "TrigramReadersLaw" (208 : Nat) (2 : Int64)) ∈ LW := LW_mem (mt_5 (List.mem_of_getElem? (i := 230) rfl)) rfl
theorem t5_231 : (Jvm.Cond.methodLink "TrigramReadersLaw" (210 : Nat) ({ cls := "TrigramReaders", name := "escapes", desc := "(IIII)I" } : Jvm.MethodName)) ∈ LW := LW_mem (mt_5 (List.mem_of_getElem? (i := 231) rfl)) rfl
theorem t5_232 : (Jvm.Cond.instanceMethod ({ cls := "TrigramReaders", name := "escapes", desc := "(IIII)I" } : Jvm.MethodName)) ∈ LW := LW_mem (mt_5 (List.mem_of_getElem? (i := 232) rfl)) rfl
theorem t5_233 : (Jvm.Cond.selects "TrigramReaders" ({ cls := "TrigramReaders", name := "escapes", desc := "(IIII)I" } : Jvm.MethodName) ({ cls := "TrigramReaders", name := "escapes", desc := "(IIII)I" } : Jvm.MethodName)) ∈ LW := LW_mem (mt_5 (List.mem_of_getElem? (i := 233) rfl)) rfl
theorem t5_234 : (Jvm.Cond.code ({ cls := "TrigramReaders", name := "escapes", desc := "(IIII)I" } : Jvm.MethodName) prog_1_method_29_code (5 : Nat) (Option.some Jvm.ClassFile.FieldType.int)) ∈ LW := LW_mem (mt_5 (List.mem_of_getElem? (i := 234) rfl)) rfl
theorem t5_235 : (Jvm.Cond.methodLink "TrigramReadersLaw" (213 : Nat) ({ cls := "TrigramReaders", name := "codeLength", desc := "(IIII)I" } : Jvm.MethodName)) ∈ LW := LW_mem (mt_5 (List.mem_of_getElem? (i := 235) rfl)) rfl
theorem t5_236 : (Jvm.Cond.instanceMethod ({ cls := "TrigramReaders", name := "codeLength", desc := "(IIII)I" } : Jvm.MethodName)) ∈ LW := LW_mem (mt_5 (List.mem_of_getElem? (i := 236) rfl)) rfl
theorem t5_237 : (Jvm.Cond.selects "TrigramReaders" ({ cls := "TrigramReaders", name := "codeLength", desc := "(IIII)I" } : Jvm.MethodName) ({ cls := "TrigramReaders", name := "codeLength", desc := "(IIII)I" } : Jvm.MethodName)) ∈ LW := LW_mem (mt_5 (List.mem_of_getElem? (i := 237) rfl)) rfl
theorem t5_238 : (Jvm.Cond.code ({ cls := "TrigramReaders", name := "codeLength", desc := "(IIII)I" } : Jvm.MethodName) prog_1_method_33_code (5 : Nat) (Option.some Jvm.ClassFile.FieldType.int)) ∈ LW := LW_mem (mt_5 (List.mem_of_getElem? (i := 238) rfl)) rfl
theorem t5_239 : (Jvm.Cond.methodLink "TrigramReaders" (250 : Nat) ({ cls := "TrigramReaders$Chance", name := "bits", desc := "()I" } : Jvm.MethodName)) ∈ LW := LW_mem (mt_5 (List.mem_of_getElem? (i := 239) rfl)) rfl
theorem t6_0 : (Jvm.Cond.instanceMethod ({ cls := "TrigramReaders$Chance", name := "bits", desc := "()I" } : Jvm.MethodName)) ∈ LW := LW_mem (mt_6 (List.mem_of_getElem? (i := 0) rfl)) rfl
theorem t6_1 : (Jvm.Cond.selects "TrigramReaders$Chance" ({ cls := "TrigramReaders$Chance", name := "bits", desc := "()I" } : Jvm.MethodName) ({ cls := "TrigramReaders$Chance", name := "bits", desc := "()I" } : Jvm.MethodName)) ∈ LW := LW_mem (mt_6 (List.mem_of_getElem? (i := 1) rfl)) rfl
theorem t6_2 : (Jvm.Cond.code ({ cls := "TrigramReaders$Chance", name := "bits", desc := "()I" } : Jvm.MethodName) prog_3_method_6_code (4 : Nat) (Option.some Jvm.ClassFile.FieldType.int)) ∈ LW := LW_mem (mt_6 (List.mem_of_getElem? (i := 2) rfl)) rfl
theorem t6_3 : (Jvm.Cond.constantLong "TrigramReaders$Chance" (73 : Nat) (2 : Int64)) ∈ LW := LW_mem (mt_6 (List.mem_of_getElem? (i := 3) rfl)) rfl
theorem t6_4 : (Jvm.Cond.methodLink "TrigramReadersLaw" (216 : Nat) ({ cls := "TrigramReaders", name := "probability", desc := "(IIII)D" } : Jvm.MethodName)) ∈ LW := LW_mem (mt_6 (List.mem_of_getElem? (i := 4) rfl)) rfl
theorem t6_5 : (Jvm.Cond.instanceMethod ({ cls := "TrigramReaders", name := "probability", desc := "(IIII)D" } : Jvm.MethodName)) ∈ LW := LW_mem (mt_6 (List.mem_of_getElem? (i := 5) rfl)) rfl
theorem t6_6 : (Jvm.Cond.selects "TrigramReaders" ({ cls := "TrigramReaders", name := "probability", desc := "(IIII)D" } : Jvm.MethodName) ({ cls := "TrigramReaders", name := "probability", desc := "(IIII)D" } : Jvm.MethodName)) ∈ LW := LW_mem (mt_6 (List.mem_of_getElem? (i := 6) rfl)) rfl
theorem t6_7 : (Jvm.Cond.code ({ cls := "TrigramReaders", name := "probability", desc := "(IIII)D" } : Jvm.MethodName) prog_1_method_32_code (6 : Nat) (Option.some Jvm.ClassFile.FieldType.double)) ∈ LW := LW_mem (mt_6 (List.mem_of_getElem? (i := 7) rfl)) rfl
theorem ps_0 : Cond.selects "TrigramReaders$Parser" ⟨"TrigramReaders$Parser", "next", "()V"⟩ ⟨"TrigramReaders$Parser", "next", "()V"⟩ ∈ LW := LW_mem (List.mem_append_left _ (List.mem_of_getElem? (i := 0) rfl)) rfl
theorem ps_1 : Cond.selects "TrigramReaders$Parser" ⟨"TrigramReaders$Parser", "isWord", "(Ljava/lang/String;)Z"⟩ ⟨"TrigramReaders$Parser", "isWord", "(Ljava/lang/String;)Z"⟩ ∈ LW := LW_mem (List.mem_append_left _ (List.mem_of_getElem? (i := 1) rfl)) rfl
theorem ps_2 : Cond.selects "TrigramReaders$Parser" ⟨"TrigramReaders$Parser", "parseReader", "()Z"⟩ ⟨"TrigramReaders$Parser", "parseReader", "()Z"⟩ ∈ LW := LW_mem (List.mem_append_left _ (List.mem_of_getElem? (i := 2) rfl)) rfl
theorem ps_3 : Cond.selects "TrigramReaders$Parser" ⟨"TrigramReaders$Parser", "fail", "(I)Z"⟩ ⟨"TrigramReaders$Parser", "fail", "(I)Z"⟩ ∈ LW := LW_mem (List.mem_append_left _ (List.mem_of_getElem? (i := 3) rfl)) rfl
theorem ps_4 : Cond.selects "TrigramReaders$Parser" ⟨"TrigramReaders$Parser", "methodWord", "()I"⟩ ⟨"TrigramReaders$Parser", "methodWord", "()I"⟩ ∈ LW := LW_mem (List.mem_append_left _ (List.mem_of_getElem? (i := 4) rfl)) rfl
theorem ps_5 : Cond.selects "TrigramReaders$Parser" ⟨"TrigramReaders$Parser", "parseSemicolon", "()Z"⟩ ⟨"TrigramReaders$Parser", "parseSemicolon", "()Z"⟩ ∈ LW := LW_mem (List.mem_append_left _ (List.mem_of_getElem? (i := 5) rfl)) rfl
theorem ps_6 : Cond.selects "TrigramReaders$Parser" ⟨"TrigramReaders$Parser", "parseDocument", "()Z"⟩ ⟨"TrigramReaders$Parser", "parseDocument", "()Z"⟩ ∈ LW := LW_mem (List.mem_append_left _ (List.mem_of_getElem? (i := 6) rfl)) rfl
theorem ps_7 : Cond.selects "TrigramReaders$Parser" ⟨"TrigramReaders$Parser", "parseTrain", "()Z"⟩ ⟨"TrigramReaders$Parser", "parseTrain", "()Z"⟩ ∈ LW := LW_mem (List.mem_append_left _ (List.mem_of_getElem? (i := 7) rfl)) rfl
theorem ps_8 : Cond.selects "TrigramReaders$Parser" ⟨"TrigramReaders$Parser", "numberValue", "()I"⟩ ⟨"TrigramReaders$Parser", "numberValue", "()I"⟩ ∈ LW := LW_mem (List.mem_append_left _ (List.mem_of_getElem? (i := 8) rfl)) rfl
theorem ps_9 : Cond.selects "TrigramReaders$Parser" ⟨"TrigramReaders$Parser", "parseYear", "()Z"⟩ ⟨"TrigramReaders$Parser", "parseYear", "()Z"⟩ ∈ LW := LW_mem (List.mem_append_left _ (List.mem_of_getElem? (i := 9) rfl)) rfl
theorem ps_10 : Cond.selects "TrigramReaders" ⟨"TrigramReaders", "existingReader", "(I)LTrigramReaders$Reader;"⟩ ⟨"TrigramReaders", "existingReader", "(I)LTrigramReaders$Reader;"⟩ ∈ LW := LW_mem (List.mem_append_left _ (List.mem_of_getElem? (i := 10) rfl)) rfl
theorem ps_11 : Cond.selects "java/lang/Throwable" ⟨"java/lang/Throwable", "fillInStackTrace", "(I)Ljava/lang/Throwable;"⟩ ⟨"java/lang/Throwable", "fillInStackTrace", "(I)Ljava/lang/Throwable;"⟩ ∈ LW := LW_mem (List.mem_append_left _ (List.mem_of_getElem? (i := 11) rfl)) rfl
theorem ps_12 : Cond.selects "TrigramReaders" ⟨"TrigramReaders", "existingDocument", "(I)LTrigramReaders$Document;"⟩ ⟨"TrigramReaders", "existingDocument", "(I)LTrigramReaders$Document;"⟩ ∈ LW := LW_mem (List.mem_append_left _ (List.mem_of_getElem? (i := 12) rfl)) rfl
theorem ps_13 : Cond.selects "TrigramReaders" ⟨"TrigramReaders", "remember", "()V"⟩ ⟨"TrigramReaders", "remember", "()V"⟩ ∈ LW := LW_mem (List.mem_append_left _ (List.mem_of_getElem? (i := 13) rfl)) rfl
theorem ps_14 : Cond.selects "TrigramReaders" ⟨"TrigramReaders", "guessesFor", "(LTrigramReaders$Counts;LTrigramReaders$Document;)I"⟩ ⟨"TrigramReaders", "guessesFor", "(LTrigramReaders$Counts;LTrigramReaders$Document;)I"⟩ ∈ LW := LW_mem (List.mem_append_left _ (List.mem_of_getElem? (i := 14) rfl)) rfl
theorem ps_15 : Cond.selects "TrigramReaders" ⟨"TrigramReaders", "rankOfPosition", "(LTrigramReaders$Counts;LTrigramReaders$Document;I)I"⟩ ⟨"TrigramReaders", "rankOfPosition", "(LTrigramReaders$Counts;LTrigramReaders$Document;I)I"⟩ ∈ LW := LW_mem (List.mem_append_left _ (List.mem_of_getElem? (i := 15) rfl)) rfl
theorem ps_16 : Cond.selects "TrigramReaders" ⟨"TrigramReaders", "rankIn", "(LTrigramReaders$Counts;III)I"⟩ ⟨"TrigramReaders", "rankIn", "(LTrigramReaders$Counts;III)I"⟩ ∈ LW := LW_mem (List.mem_append_left _ (List.mem_of_getElem? (i := 16) rfl)) rfl
theorem ps_17 : Cond.selects "TrigramReaders$Ranking" ⟨"TrigramReaders$Ranking", "appendOrder", "(LTrigramReaders$Counts;I)V"⟩ ⟨"TrigramReaders$Ranking", "appendOrder", "(LTrigramReaders$Counts;I)V"⟩ ∈ LW := LW_mem (List.mem_append_left _ (List.mem_of_getElem? (i := 17) rfl)) rfl
theorem ps_18 : Cond.selects "TrigramReaders$Ranking" ⟨"TrigramReaders$Ranking", "insert", "(III)V"⟩ ⟨"TrigramReaders$Ranking", "insert", "(III)V"⟩ ∈ LW := LW_mem (List.mem_append_left _ (List.mem_of_getElem? (i := 18) rfl)) rfl
theorem ps_19 : Cond.selects "TrigramReaders" ⟨"TrigramReaders", "guessesWhileLearning", "(LTrigramReaders$Counts;LTrigramReaders$Document;)I"⟩ ⟨"TrigramReaders", "guessesWhileLearning", "(LTrigramReaders$Counts;LTrigramReaders$Document;)I"⟩ ∈ LW := LW_mem (List.mem_append_left _ (List.mem_of_getElem? (i := 19) rfl)) rfl
theorem ps_20 : Cond.selects "TrigramReaders" ⟨"TrigramReaders", "guessIn", "(LTrigramReaders$Counts;III)I"⟩ ⟨"TrigramReaders", "guessIn", "(LTrigramReaders$Counts;III)I"⟩ ∈ LW := LW_mem (List.mem_append_left _ (List.mem_of_getElem? (i := 20) rfl)) rfl
theorem ps_21 : Cond.selects "TrigramReaders" ⟨"TrigramReaders", "chanceOf", "(IIII)LTrigramReaders$Chance;"⟩ ⟨"TrigramReaders", "chanceOf", "(IIII)LTrigramReaders$Chance;"⟩ ∈ LW := LW_mem (List.mem_append_left _ (List.mem_of_getElem? (i := 21) rfl)) rfl
theorem ps_22 : Cond.selects "TrigramReaders$Chance" ⟨"TrigramReaders$Chance", "visit", "(LTrigramReaders$Counts;III)Z"⟩ ⟨"TrigramReaders$Chance", "visit", "(LTrigramReaders$Counts;III)Z"⟩ ∈ LW := LW_mem (List.mem_append_left _ (List.mem_of_getElem? (i := 22) rfl)) rfl
theorem ps_23 : Cond.selects "TrigramReaders$Chance" ⟨"TrigramReaders$Chance", "reduce", "()V"⟩ ⟨"TrigramReaders$Chance", "reduce", "()V"⟩ ∈ LW := LW_mem (List.mem_append_left _ (List.mem_of_getElem? (i := 23) rfl)) rfl
