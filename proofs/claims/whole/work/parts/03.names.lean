/-! ===== BEGIN printed: names, fields, word lists, decode rows ===== -/
def RX0 : String := "TrigramReaders$Bytes"
def TX0 : u_T := fun k => match k with
  | 0 => ("TrigramReaders$Bytes", "row", "[I", true)
  | _ => ("TrigramReaders$Bytes", "length", "I", false)
def tyX0 : Nat → FieldType := fun k => match k with
  | 0 => .array .int
  | _ => .int
abbrev wsX00 : List Cond := u_ws RX0 TX0 2
theorem nmX0 : ∀ a, a < 2 → ∀ b, b < 2 → a ≠ b → (TX0 a).2.1 ≠ (TX0 b).2.1 := by decide +kernel
theorem tyX0_ok : ∀ k, k < 2 → parseFieldDescriptor (TX0 k).2.2.1 = some (tyX0 k) := by decide +kernel
abbrev cX0_init : ByteArray := prog_2_method_1_code
def yX0_init : MethodName := ⟨RX0, "<init>", "()V"⟩
abbrev cX0_clear : ByteArray := prog_2_method_2_code
def yX0_clear : MethodName := ⟨RX0, "clear", "()V"⟩
abbrev cX0_append : ByteArray := prog_2_method_3_code
def yX0_append : MethodName := ⟨RX0, "append", "(I)V"⟩
abbrev cX0_appendFour : ByteArray := prog_2_method_4_code
def yX0_appendFour : MethodName := ⟨RX0, "appendFour", "(I)V"⟩
abbrev cX0_appendNumber : ByteArray := prog_2_method_5_code
def yX0_appendNumber : MethodName := ⟨RX0, "appendNumber", "(I)V"⟩
abbrev cX0_at : ByteArray := prog_2_method_6_code
def yX0_at : MethodName := ⟨RX0, "at", "(I)I"⟩
abbrev cX0_isName : ByteArray := prog_2_method_7_code
def yX0_isName : MethodName := ⟨RX0, "isName", "(II)Z"⟩
abbrev cX0_isDocument : ByteArray := prog_2_method_8_code
def yX0_isDocument : MethodName := ⟨RX0, "isDocument", "(II)Z"⟩
def RX1 : String := "TrigramReaders$Chance"
def TX1 : u_T := fun k => match k with
  | 0 => ("TrigramReaders$Chance", "top", "J", false)
  | 1 => ("TrigramReaders$Chance", "bottom", "J", false)
  | 2 => ("TrigramReaders$Chance", "escapeFactors", "I", false)
  | _ => ("TrigramReaders$Chance", "excluded", "I", false)
def tyX1 : Nat → FieldType := fun k => match k with
  | 0 => .long
  | 1 => .long
  | 2 => .int
  | _ => .int
abbrev wsX10 : List Cond := u_ws RX1 TX1 4
theorem nmX1 : ∀ a, a < 4 → ∀ b, b < 4 → a ≠ b → (TX1 a).2.1 ≠ (TX1 b).2.1 := by decide +kernel
theorem tyX1_ok : ∀ k, k < 4 → parseFieldDescriptor (TX1 k).2.2.1 = some (tyX1 k) := by decide +kernel
abbrev cX1_init : ByteArray := prog_3_method_1_code
def yX1_init : MethodName := ⟨RX1, "<init>", "()V"⟩
abbrev cX1_find : ByteArray := prog_3_method_2_code
def yX1_find : MethodName := ⟨RX1, "find", "(LTrigramReaders$Reader;III)V"⟩
abbrev cX1_visit : ByteArray := prog_3_method_3_code
def yX1_visit : MethodName := ⟨RX1, "visit", "(LTrigramReaders$Counts;III)Z"⟩
abbrev cX1_divisorFor : ByteArray := prog_3_method_4_code
def yX1_divisorFor : MethodName := ⟨RX1, "divisorFor", "(III)I"⟩
abbrev cX1_reduce : ByteArray := prog_3_method_5_code
def yX1_reduce : MethodName := ⟨RX1, "reduce", "()V"⟩
abbrev cX1_bits : ByteArray := prog_3_method_6_code
def yX1_bits : MethodName := ⟨RX1, "bits", "()I"⟩
def RX2 : String := "TrigramReaders$Counts"
def TX2 : u_T := fun k => match k with
  | 0 => ("TrigramReaders$Counts", "keys", "[I", true)
  | 1 => ("TrigramReaders$Counts", "values", "[I", true)
  | _ => ("TrigramReaders$Counts", "size", "I", false)
def tyX2 : Nat → FieldType := fun k => match k with
  | 0 => .array .int
  | 1 => .array .int
  | _ => .int
abbrev wsX20 : List Cond := u_ws RX2 TX2 3
theorem nmX2 : ∀ a, a < 3 → ∀ b, b < 3 → a ≠ b → (TX2 a).2.1 ≠ (TX2 b).2.1 := by decide +kernel
theorem tyX2_ok : ∀ k, k < 3 → parseFieldDescriptor (TX2 k).2.2.1 = some (tyX2 k) := by decide +kernel
abbrev cX2_init : ByteArray := prog_4_method_1_code
def yX2_init : MethodName := ⟨RX2, "<init>", "()V"⟩
abbrev cX2_copyFrom : ByteArray := prog_4_method_2_code
def yX2_copyFrom : MethodName := ⟨RX2, "copyFrom", "(LTrigramReaders$Counts;)V"⟩
abbrev cX2_placeOf : ByteArray := prog_4_method_3_code
def yX2_placeOf : MethodName := ⟨RX2, "placeOf", "(I)I"⟩
abbrev cX2_valueOf : ByteArray := prog_4_method_4_code
def yX2_valueOf : MethodName := ⟨RX2, "valueOf", "(I)I"⟩
abbrev cX2_add : ByteArray := prog_4_method_5_code
def yX2_add : MethodName := ⟨RX2, "add", "(II)V"⟩
abbrev cX2_addAll : ByteArray := prog_4_method_6_code
def yX2_addAll : MethodName := ⟨RX2, "addAll", "(LTrigramReaders$Counts;)V"⟩
abbrev cX2_countPosition : ByteArray := prog_4_method_7_code
def yX2_countPosition : MethodName := ⟨RX2, "countPosition", "(LTrigramReaders$Document;I)V"⟩
abbrev cX2_countDocument : ByteArray := prog_4_method_8_code
def yX2_countDocument : MethodName := ⟨RX2, "countDocument", "(LTrigramReaders$Document;)V"⟩
abbrev cX2_halve : ByteArray := prog_4_method_9_code
def yX2_halve : MethodName := ⟨RX2, "halve", "()V"⟩
abbrev cX2_symbolsIn : ByteArray := prog_4_method_10_code
def yX2_symbolsIn : MethodName := ⟨RX2, "symbolsIn", "(I)I"⟩
abbrev cX2_sumIn : ByteArray := prog_4_method_11_code
def yX2_sumIn : MethodName := ⟨RX2, "sumIn", "(I)I"⟩
abbrev cX2_pairsUsed : ByteArray := prog_4_method_12_code
def yX2_pairsUsed : MethodName := ⟨RX2, "pairsUsed", "()I"⟩
abbrev cX2_greatest : ByteArray := prog_4_method_13_code
def yX2_greatest : MethodName := ⟨RX2, "greatest", "()I"⟩
def RX3 : String := "TrigramReaders$Document"
def TX3 : u_T := fun k => match k with
  | 0 => ("TrigramReaders$Document", "symbols", "[I", true)
  | 1 => ("TrigramReaders$Document", "length", "I", false)
  | _ => ("TrigramReaders$Document", "yearAdded", "I", false)
def tyX3 : Nat → FieldType := fun k => match k with
  | 0 => .array .int
  | 1 => .int
  | _ => .int
abbrev wsX30 : List Cond := u_ws RX3 TX3 3
theorem nmX3 : ∀ a, a < 3 → ∀ b, b < 3 → a ≠ b → (TX3 a).2.1 ≠ (TX3 b).2.1 := by decide +kernel
theorem tyX3_ok : ∀ k, k < 3 → parseFieldDescriptor (TX3 k).2.2.1 = some (tyX3 k) := by decide +kernel
abbrev cX3_init : ByteArray := prog_5_method_1_code
def yX3_init : MethodName := ⟨RX3, "<init>", "()V"⟩
abbrev cX3_copyFrom : ByteArray := prog_5_method_2_code
def yX3_copyFrom : MethodName := ⟨RX3, "copyFrom", "(LTrigramReaders$Document;)V"⟩
abbrev cX3_take : ByteArray := prog_5_method_3_code
def yX3_take : MethodName := ⟨RX3, "take", "(LTrigramReaders$Bytes;III)V"⟩
abbrev cX3_symbolAt : ByteArray := prog_5_method_4_code
def yX3_symbolAt : MethodName := ⟨RX3, "symbolAt", "(I)I"⟩
def RX4 : String := "TrigramReaders$Parser"
def TX4 : u_T := fun k => match k with
  | 0 => ("TrigramReaders$Parser", "text", "LTrigramReaders$Bytes;", true)
  | 1 => ("TrigramReaders$Parser", "target", "LTrigramReaders$State;", true)
  | 2 => ("TrigramReaders$Parser", "kind", "I", false)
  | 3 => ("TrigramReaders$Parser", "tokenStart", "I", false)
  | 4 => ("TrigramReaders$Parser", "tokenEnd", "I", false)
  | 5 => ("TrigramReaders$Parser", "errorCode", "I", false)
  | _ => ("TrigramReaders$Parser", "errorPosition", "I", false)
def tyX4 : Nat → FieldType := fun k => match k with
  | 0 => .object "TrigramReaders$Bytes"
  | 1 => .object "TrigramReaders$State"
  | 2 => .int
  | 3 => .int
  | 4 => .int
  | 5 => .int
  | _ => .int
abbrev wsX40 : List Cond := u_ws RX4 TX4 7
theorem nmX4 : ∀ a, a < 7 → ∀ b, b < 7 → a ≠ b → (TX4 a).2.1 ≠ (TX4 b).2.1 := by decide +kernel
theorem tyX4_ok : ∀ k, k < 7 → parseFieldDescriptor (TX4 k).2.2.1 = some (tyX4 k) := by decide +kernel
abbrev cX4_init : ByteArray := prog_6_method_1_code
def yX4_init : MethodName := ⟨RX4, "<init>", "(LTrigramReaders$Bytes;LTrigramReaders$State;)V"⟩
abbrev cX4_parseAll : ByteArray := prog_6_method_2_code
def yX4_parseAll : MethodName := ⟨RX4, "parseAll", "()Z"⟩
abbrev cX4_parseReader : ByteArray := prog_6_method_3_code
def yX4_parseReader : MethodName := ⟨RX4, "parseReader", "()Z"⟩
abbrev cX4_parseDocument : ByteArray := prog_6_method_4_code
def yX4_parseDocument : MethodName := ⟨RX4, "parseDocument", "()Z"⟩
abbrev cX4_parseTrain : ByteArray := prog_6_method_5_code
def yX4_parseTrain : MethodName := ⟨RX4, "parseTrain", "()Z"⟩
abbrev cX4_parseYear : ByteArray := prog_6_method_6_code
def yX4_parseYear : MethodName := ⟨RX4, "parseYear", "()Z"⟩
abbrev cX4_parseSemicolon : ByteArray := prog_6_method_7_code
def yX4_parseSemicolon : MethodName := ⟨RX4, "parseSemicolon", "()Z"⟩
abbrev cX4_fail : ByteArray := prog_6_method_8_code
def yX4_fail : MethodName := ⟨RX4, "fail", "(I)Z"⟩
abbrev cX4_next : ByteArray := prog_6_method_9_code
def yX4_next : MethodName := ⟨RX4, "next", "()V"⟩
abbrev cX4_isBlank : ByteArray := prog_6_method_10_code
def yX4_isBlank : MethodName := ⟨RX4, "isBlank", "(I)Z"⟩
abbrev cX4_kindOf : ByteArray := prog_6_method_11_code
def yX4_kindOf : MethodName := ⟨RX4, "kindOf", "(I)I"⟩
abbrev cX4_isWord : ByteArray := prog_6_method_12_code
def yX4_isWord : MethodName := ⟨RX4, "isWord", "(Ljava/lang/String;)Z"⟩
abbrev cX4_methodWord : ByteArray := prog_6_method_13_code
def yX4_methodWord : MethodName := ⟨RX4, "methodWord", "()I"⟩
abbrev cX4_numberValue : ByteArray := prog_6_method_14_code
def yX4_numberValue : MethodName := ⟨RX4, "numberValue", "()I"⟩
def RX5 : String := "TrigramReaders$Ranking"
def TX5 : u_T := fun k => match k with
  | 0 => ("TrigramReaders$Ranking", "symbols", "[I", true)
  | 1 => ("TrigramReaders$Ranking", "weights", "[I", true)
  | 2 => ("TrigramReaders$Ranking", "size", "I", false)
  | _ => ("TrigramReaders$Ranking", "placed", "I", false)
def tyX5 : Nat → FieldType := fun k => match k with
  | 0 => .array .int
  | 1 => .array .int
  | 2 => .int
  | _ => .int
abbrev wsX50 : List Cond := u_ws RX5 TX5 4
theorem nmX5 : ∀ a, a < 4 → ∀ b, b < 4 → a ≠ b → (TX5 a).2.1 ≠ (TX5 b).2.1 := by decide +kernel
theorem tyX5_ok : ∀ k, k < 4 → parseFieldDescriptor (TX5 k).2.2.1 = some (tyX5 k) := by decide +kernel
abbrev cX5_init : ByteArray := prog_7_method_1_code
def yX5_init : MethodName := ⟨RX5, "<init>", "()V"⟩
abbrev cX5_fill : ByteArray := prog_7_method_2_code
def yX5_fill : MethodName := ⟨RX5, "fill", "(LTrigramReaders$Counts;II)V"⟩
abbrev cX5_appendOrder : ByteArray := prog_7_method_3_code
def yX5_appendOrder : MethodName := ⟨RX5, "appendOrder", "(LTrigramReaders$Counts;I)V"⟩
abbrev cX5_insert : ByteArray := prog_7_method_4_code
def yX5_insert : MethodName := ⟨RX5, "insert", "(III)V"⟩
abbrev cX5_guess : ByteArray := prog_7_method_5_code
def yX5_guess : MethodName := ⟨RX5, "guess", "(I)I"⟩
abbrev cX5_guessesUntil : ByteArray := prog_7_method_6_code
def yX5_guessesUntil : MethodName := ⟨RX5, "guessesUntil", "(I)I"⟩
def RX6 : String := "TrigramReaders$Reader"
def TX6 : u_T := fun k => match k with
  | 0 => ("TrigramReaders$Reader", "name", "[I", true)
  | 1 => ("TrigramReaders$Reader", "nameLength", "I", false)
  | 2 => ("TrigramReaders$Reader", "method", "I", false)
  | 3 => ("TrigramReaders$Reader", "counts", "LTrigramReaders$Counts;", true)
  | 4 => ("TrigramReaders$Reader", "symbolsTrained", "I", false)
  | _ => ("TrigramReaders$Reader", "trainings", "[I", true)
def tyX6 : Nat → FieldType := fun k => match k with
  | 0 => .array .int
  | 1 => .int
  | 2 => .int
  | 3 => .object "TrigramReaders$Counts"
  | 4 => .int
  | _ => .array .int
abbrev wsX60 : List Cond := u_ws RX6 TX6 6
theorem nmX6 : ∀ a, a < 6 → ∀ b, b < 6 → a ≠ b → (TX6 a).2.1 ≠ (TX6 b).2.1 := by decide +kernel
theorem tyX6_ok : ∀ k, k < 6 → parseFieldDescriptor (TX6 k).2.2.1 = some (tyX6 k) := by decide +kernel
abbrev cX6_init : ByteArray := prog_8_method_1_code
def yX6_init : MethodName := ⟨RX6, "<init>", "()V"⟩
abbrev cX6_copyFrom : ByteArray := prog_8_method_2_code
def yX6_copyFrom : MethodName := ⟨RX6, "copyFrom", "(LTrigramReaders$Reader;)V"⟩
abbrev cX6_begin : ByteArray := prog_8_method_3_code
def yX6_begin : MethodName := ⟨RX6, "begin", "(LTrigramReaders$Bytes;III)V"⟩
abbrev cX6_clearTrainings : ByteArray := prog_8_method_4_code
def yX6_clearTrainings : MethodName := ⟨RX6, "clearTrainings", "()V"⟩
abbrev cX6_nameAt : ByteArray := prog_8_method_5_code
def yX6_nameAt : MethodName := ⟨RX6, "nameAt", "(I)I"⟩
abbrev cX6_isNamed : ByteArray := prog_8_method_6_code
def yX6_isNamed : MethodName := ⟨RX6, "isNamed", "(LTrigramReaders$Bytes;II)Z"⟩
abbrev cX6_trainingsOn : ByteArray := prog_8_method_7_code
def yX6_trainingsOn : MethodName := ⟨RX6, "trainingsOn", "(I)I"⟩
abbrev cX6_recordTraining : ByteArray := prog_8_method_8_code
def yX6_recordTraining : MethodName := ⟨RX6, "recordTraining", "(II)V"⟩
abbrev cX6_takeIn : ByteArray := prog_8_method_9_code
def yX6_takeIn : MethodName := ⟨RX6, "takeIn", "(LTrigramReaders$Reader;)V"⟩
def RX7 : String := "TrigramReaders$State"
def TX7 : u_T := fun k => match k with
  | 0 => ("TrigramReaders$State", "readers", "[LTrigramReaders$Reader;", true)
  | 1 => ("TrigramReaders$State", "readersUsed", "I", false)
  | 2 => ("TrigramReaders$State", "documents", "[LTrigramReaders$Document;", true)
  | 3 => ("TrigramReaders$State", "documentsUsed", "I", false)
  | _ => ("TrigramReaders$State", "currentYear", "I", false)
def tyX7 : Nat → FieldType := fun k => match k with
  | 0 => .array (.object "TrigramReaders$Reader")
  | 1 => .int
  | 2 => .array (.object "TrigramReaders$Document")
  | 3 => .int
  | _ => .int
abbrev wsX70 : List Cond := u_ws RX7 TX7 5
theorem nmX7 : ∀ a, a < 5 → ∀ b, b < 5 → a ≠ b → (TX7 a).2.1 ≠ (TX7 b).2.1 := by decide +kernel
theorem tyX7_ok : ∀ k, k < 5 → parseFieldDescriptor (TX7 k).2.2.1 = some (tyX7 k) := by decide +kernel
abbrev cX7_init : ByteArray := prog_9_method_1_code
def yX7_init : MethodName := ⟨RX7, "<init>", "()V"⟩
abbrev cX7_copyFrom : ByteArray := prog_9_method_2_code
def yX7_copyFrom : MethodName := ⟨RX7, "copyFrom", "(LTrigramReaders$State;)V"⟩
abbrev cX7_clear : ByteArray := prog_9_method_3_code
def yX7_clear : MethodName := ⟨RX7, "clear", "()V"⟩
abbrev cX7_readerNamed : ByteArray := prog_9_method_4_code
def yX7_readerNamed : MethodName := ⟨RX7, "readerNamed", "(LTrigramReaders$Bytes;II)LTrigramReaders$Reader;"⟩
abbrev cX7_readerAt : ByteArray := prog_9_method_5_code
def yX7_readerAt : MethodName := ⟨RX7, "readerAt", "(I)LTrigramReaders$Reader;"⟩
abbrev cX7_documentAt : ByteArray := prog_9_method_6_code
def yX7_documentAt : MethodName := ⟨RX7, "documentAt", "(I)LTrigramReaders$Document;"⟩
abbrev cX7_putReader : ByteArray := prog_9_method_7_code
def yX7_putReader : MethodName := ⟨RX7, "putReader", "(LTrigramReaders$Bytes;III)V"⟩
abbrev cX7_putDocument : ByteArray := prog_9_method_8_code
def yX7_putDocument : MethodName := ⟨RX7, "putDocument", "(LTrigramReaders$Bytes;II)V"⟩
abbrev cX7_passYear : ByteArray := prog_9_method_9_code
def yX7_passYear : MethodName := ⟨RX7, "passYear", "()V"⟩
def RX8 : String := "TrigramReaders"
def TX8 : u_T := fun k => match k with
  | 0 => ("TrigramReaders", "state", "LTrigramReaders$State;", true)
  | 1 => ("TrigramReaders", "loaded", "LTrigramReaders$State;", true)
  | 2 => ("TrigramReaders", "past", "[LTrigramReaders$State;", true)
  | 3 => ("TrigramReaders", "pastNext", "I", false)
  | 4 => ("TrigramReaders", "pastCount", "I", false)
  | 5 => ("TrigramReaders", "slots", "[LTrigramReaders$State;", true)
  | 6 => ("TrigramReaders", "slotUsed", "[Z", true)
  | 7 => ("TrigramReaders", "input", "LTrigramReaders$Bytes;", true)
  | 8 => ("TrigramReaders", "output", "LTrigramReaders$Bytes;", true)
  | 9 => ("TrigramReaders", "loadErrorCode", "I", false)
  | 10 => ("TrigramReaders", "loadErrorPosition", "I", false)
  | 11 => ("TrigramReaders", "trial", "LTrigramReaders$Counts;", true)
  | 12 => ("TrigramReaders", "ranking", "LTrigramReaders$Ranking;", true)
  | 13 => ("TrigramReaders", "chance", "LTrigramReaders$Chance;", true)
  | _ => ("TrigramReaders", "decodedRanks", "[I", true)
def tyX8 : Nat → FieldType := fun k => match k with
  | 0 => .object "TrigramReaders$State"
  | 1 => .object "TrigramReaders$State"
  | 2 => .array (.object "TrigramReaders$State")
  | 3 => .int
  | 4 => .int
  | 5 => .array (.object "TrigramReaders$State")
  | 6 => .array .boolean
  | 7 => .object "TrigramReaders$Bytes"
  | 8 => .object "TrigramReaders$Bytes"
  | 9 => .int
  | 10 => .int
  | 11 => .object "TrigramReaders$Counts"
  | 12 => .object "TrigramReaders$Ranking"
  | 13 => .object "TrigramReaders$Chance"
  | _ => .array .int
abbrev wsX80 : List Cond := u_ws RX8 TX8 15
theorem nmX8 : ∀ a, a < 15 → ∀ b, b < 15 → a ≠ b → (TX8 a).2.1 ≠ (TX8 b).2.1 := by decide +kernel
theorem tyX8_ok : ∀ k, k < 15 → parseFieldDescriptor (TX8 k).2.2.1 = some (tyX8 k) := by decide +kernel
abbrev cX8_init : ByteArray := prog_1_method_1_code
def yX8_init : MethodName := ⟨RX8, "<init>", "()V"⟩
abbrev cX8_firstState : ByteArray := prog_1_method_2_code
def yX8_firstState : MethodName := ⟨RX8, "firstState", "()LTrigramReaders$State;"⟩
abbrev cX8_appendInput : ByteArray := prog_1_method_3_code
def yX8_appendInput : MethodName := ⟨RX8, "appendInput", "(IIIII)I"⟩
abbrev cX8_truncateInput : ByteArray := prog_1_method_4_code
def yX8_truncateInput : MethodName := ⟨RX8, "truncateInput", "(I)I"⟩
abbrev cX8_load : ByteArray := prog_1_method_5_code
def yX8_load : MethodName := ⟨RX8, "load", "()I"⟩
abbrev cX8_errorCode : ByteArray := prog_1_method_6_code
def yX8_errorCode : MethodName := ⟨RX8, "errorCode", "()I"⟩
abbrev cX8_errorPosition : ByteArray := prog_1_method_7_code
def yX8_errorPosition : MethodName := ⟨RX8, "errorPosition", "()I"⟩
abbrev cX8_year : ByteArray := prog_1_method_8_code
def yX8_year : MethodName := ⟨RX8, "year", "()I"⟩
abbrev cX8_readerCount : ByteArray := prog_1_method_9_code
def yX8_readerCount : MethodName := ⟨RX8, "readerCount", "()I"⟩
abbrev cX8_readerNameByte : ByteArray := prog_1_method_10_code
def yX8_readerNameByte : MethodName := ⟨RX8, "readerNameByte", "(II)I"⟩
abbrev cX8_escapeMethod : ByteArray := prog_1_method_11_code
def yX8_escapeMethod : MethodName := ⟨RX8, "escapeMethod", "(I)I"⟩
abbrev cX8_documentCount : ByteArray := prog_1_method_12_code
def yX8_documentCount : MethodName := ⟨RX8, "documentCount", "()I"⟩
abbrev cX8_documentLength : ByteArray := prog_1_method_13_code
def yX8_documentLength : MethodName := ⟨RX8, "documentLength", "(I)I"⟩
abbrev cX8_documentSymbol : ByteArray := prog_1_method_14_code
def yX8_documentSymbol : MethodName := ⟨RX8, "documentSymbol", "(II)I"⟩
abbrev cX8_documentYear : ByteArray := prog_1_method_15_code
def yX8_documentYear : MethodName := ⟨RX8, "documentYear", "(I)I"⟩
abbrev cX8_countOrder0 : ByteArray := prog_1_method_16_code
def yX8_countOrder0 : MethodName := ⟨RX8, "countOrder0", "(II)I"⟩
abbrev cX8_countOrder1 : ByteArray := prog_1_method_17_code
def yX8_countOrder1 : MethodName := ⟨RX8, "countOrder1", "(III)I"⟩
abbrev cX8_countOrder2 : ByteArray := prog_1_method_18_code
def yX8_countOrder2 : MethodName := ⟨RX8, "countOrder2", "(IIII)I"⟩
abbrev cX8_contextTotal : ByteArray := prog_1_method_19_code
def yX8_contextTotal : MethodName := ⟨RX8, "contextTotal", "(III)I"⟩
abbrev cX8_contextSymbols : ByteArray := prog_1_method_20_code
def yX8_contextSymbols : MethodName := ⟨RX8, "contextSymbols", "(III)I"⟩
abbrev cX8_order2Contexts : ByteArray := prog_1_method_21_code
def yX8_order2Contexts : MethodName := ⟨RX8, "order2Contexts", "(I)I"⟩
abbrev cX8_positiveCounts : ByteArray := prog_1_method_22_code
def yX8_positiveCounts : MethodName := ⟨RX8, "positiveCounts", "(I)I"⟩
abbrev cX8_timesTrained : ByteArray := prog_1_method_23_code
def yX8_timesTrained : MethodName := ⟨RX8, "timesTrained", "(II)I"⟩
abbrev cX8_trainedSymbols : ByteArray := prog_1_method_24_code
def yX8_trainedSymbols : MethodName := ⟨RX8, "trainedSymbols", "(I)I"⟩
abbrev cX8_trainingGap : ByteArray := prog_1_method_25_code
def yX8_trainingGap : MethodName := ⟨RX8, "trainingGap", "(I)I"⟩
abbrev cX8_symbolAtRank : ByteArray := prog_1_method_26_code
def yX8_symbolAtRank : MethodName := ⟨RX8, "symbolAtRank", "(IIII)I"⟩
abbrev cX8_rank : ByteArray := prog_1_method_27_code
def yX8_rank : MethodName := ⟨RX8, "rank", "(IIII)I"⟩
abbrev cX8_foundOrder : ByteArray := prog_1_method_28_code
def yX8_foundOrder : MethodName := ⟨RX8, "foundOrder", "(IIII)I"⟩
abbrev cX8_escapes : ByteArray := prog_1_method_29_code
def yX8_escapes : MethodName := ⟨RX8, "escapes", "(IIII)I"⟩
abbrev cX8_numerator : ByteArray := prog_1_method_30_code
def yX8_numerator : MethodName := ⟨RX8, "numerator", "(IIII)J"⟩
abbrev cX8_denominator : ByteArray := prog_1_method_31_code
def yX8_denominator : MethodName := ⟨RX8, "denominator", "(IIII)J"⟩
abbrev cX8_probability : ByteArray := prog_1_method_32_code
def yX8_probability : MethodName := ⟨RX8, "probability", "(IIII)D"⟩
abbrev cX8_codeLength : ByteArray := prog_1_method_33_code
def yX8_codeLength : MethodName := ⟨RX8, "codeLength", "(IIII)I"⟩
abbrev cX8_rankAt : ByteArray := prog_1_method_34_code
def yX8_rankAt : MethodName := ⟨RX8, "rankAt", "(III)I"⟩
abbrev cX8_totalGuesses : ByteArray := prog_1_method_35_code
def yX8_totalGuesses : MethodName := ⟨RX8, "totalGuesses", "(II)I"⟩
abbrev cX8_adaptiveGuesses : ByteArray := prog_1_method_36_code
def yX8_adaptiveGuesses : MethodName := ⟨RX8, "adaptiveGuesses", "(II)I"⟩
abbrev cX8_firstGuessHits : ByteArray := prog_1_method_37_code
def yX8_firstGuessHits : MethodName := ⟨RX8, "firstGuessHits", "(II)I"⟩
abbrev cX8_unseenSymbols : ByteArray := prog_1_method_38_code
def yX8_unseenSymbols : MethodName := ⟨RX8, "unseenSymbols", "(II)I"⟩
abbrev cX8_hardestPosition : ByteArray := prog_1_method_39_code
def yX8_hardestPosition : MethodName := ⟨RX8, "hardestPosition", "(II)I"⟩
abbrev cX8_totalBits : ByteArray := prog_1_method_40_code
def yX8_totalBits : MethodName := ⟨RX8, "totalBits", "(II)I"⟩
abbrev cX8_meanGuesses : ByteArray := prog_1_method_41_code
def yX8_meanGuesses : MethodName := ⟨RX8, "meanGuesses", "(II)D"⟩
abbrev cX8_hitShare : ByteArray := prog_1_method_42_code
def yX8_hitShare : MethodName := ⟨RX8, "hitShare", "(II)F"⟩
abbrev cX8_bestReader : ByteArray := prog_1_method_43_code
def yX8_bestReader : MethodName := ⟨RX8, "bestReader", "(I)I"⟩
abbrev cX8_hardestDocument : ByteArray := prog_1_method_44_code
def yX8_hardestDocument : MethodName := ⟨RX8, "hardestDocument", "(I)I"⟩
abbrev cX8_guessesAfterTraining : ByteArray := prog_1_method_45_code
def yX8_guessesAfterTraining : MethodName := ⟨RX8, "guessesAfterTraining", "(III)I"⟩
abbrev cX8_trainingsNeeded : ByteArray := prog_1_method_46_code
def yX8_trainingsNeeded : MethodName := ⟨RX8, "trainingsNeeded", "(III)I"⟩
abbrev cX8_yearsToForget : ByteArray := prog_1_method_47_code
def yX8_yearsToForget : MethodName := ⟨RX8, "yearsToForget", "(I)I"⟩
abbrev cX8_agreements : ByteArray := prog_1_method_48_code
def yX8_agreements : MethodName := ⟨RX8, "agreements", "(II)I"⟩
abbrev cX8_addReader : ByteArray := prog_1_method_49_code
def yX8_addReader : MethodName := ⟨RX8, "addReader", "(I)I"⟩
abbrev cX8_addDocument : ByteArray := prog_1_method_50_code
def yX8_addDocument : MethodName := ⟨RX8, "addDocument", "()I"⟩
abbrev cX8_train : ByteArray := prog_1_method_51_code
def yX8_train : MethodName := ⟨RX8, "train", "(II)I"⟩
abbrev cX8_learn : ByteArray := prog_1_method_52_code
def yX8_learn : MethodName := ⟨RX8, "learn", "(II)I"⟩
abbrev cX8_forget : ByteArray := prog_1_method_53_code
def yX8_forget : MethodName := ⟨RX8, "forget", "(I)I"⟩
abbrev cX8_setEscapeMethod : ByteArray := prog_1_method_54_code
def yX8_setEscapeMethod : MethodName := ⟨RX8, "setEscapeMethod", "(II)I"⟩
abbrev cX8_endYear : ByteArray := prog_1_method_55_code
def yX8_endYear : MethodName := ⟨RX8, "endYear", "()I"⟩
abbrev cX8_merge : ByteArray := prog_1_method_56_code
def yX8_merge : MethodName := ⟨RX8, "merge", "(II)I"⟩
abbrev cX8_encode : ByteArray := prog_1_method_57_code
def yX8_encode : MethodName := ⟨RX8, "encode", "(II)I"⟩
abbrev cX8_decode : ByteArray := prog_1_method_58_code
def yX8_decode : MethodName := ⟨RX8, "decode", "(I)I"⟩
abbrev cX8_writeExpected : ByteArray := prog_1_method_59_code
def yX8_writeExpected : MethodName := ⟨RX8, "writeExpected", "(II)I"⟩
abbrev cX8_outputByte : ByteArray := prog_1_method_60_code
def yX8_outputByte : MethodName := ⟨RX8, "outputByte", "(I)I"⟩
abbrev cX8_save : ByteArray := prog_1_method_61_code
def yX8_save : MethodName := ⟨RX8, "save", "(I)I"⟩
abbrev cX8_restore : ByteArray := prog_1_method_62_code
def yX8_restore : MethodName := ⟨RX8, "restore", "(I)I"⟩
abbrev cX8_undo : ByteArray := prog_1_method_63_code
def yX8_undo : MethodName := ⟨RX8, "undo", "()I"⟩
abbrev cX8_undoDepth : ByteArray := prog_1_method_64_code
def yX8_undoDepth : MethodName := ⟨RX8, "undoDepth", "()I"⟩
abbrev cX8_remember : ByteArray := prog_1_method_65_code
def yX8_remember : MethodName := ⟨RX8, "remember", "()V"⟩
abbrev cX8_existingReader : ByteArray := prog_1_method_66_code
def yX8_existingReader : MethodName := ⟨RX8, "existingReader", "(I)LTrigramReaders$Reader;"⟩
abbrev cX8_existingDocument : ByteArray := prog_1_method_67_code
def yX8_existingDocument : MethodName := ⟨RX8, "existingDocument", "(I)LTrigramReaders$Document;"⟩
abbrev cX8_requireSlot : ByteArray := prog_1_method_68_code
def yX8_requireSlot : MethodName := ⟨RX8, "requireSlot", "(I)V"⟩
abbrev cX8_requireMethod : ByteArray := prog_1_method_69_code
def yX8_requireMethod : MethodName := ⟨RX8, "requireMethod", "(I)V"⟩
abbrev cX8_requireSymbol : ByteArray := prog_1_method_70_code
def yX8_requireSymbol : MethodName := ⟨RX8, "requireSymbol", "(I)V"⟩
abbrev cX8_requireContext : ByteArray := prog_1_method_71_code
def yX8_requireContext : MethodName := ⟨RX8, "requireContext", "(II)V"⟩
abbrev cX8_isSymbol : ByteArray := prog_1_method_72_code
def yX8_isSymbol : MethodName := ⟨RX8, "isSymbol", "(I)Z"⟩
abbrev cX8_firstOrder : ByteArray := prog_1_method_73_code
def yX8_firstOrder : MethodName := ⟨RX8, "firstOrder", "(II)I"⟩
abbrev cX8_contextStart : ByteArray := prog_1_method_74_code
def yX8_contextStart : MethodName := ⟨RX8, "contextStart", "(III)I"⟩
abbrev cX8_chanceOf : ByteArray := prog_1_method_75_code
def yX8_chanceOf : MethodName := ⟨RX8, "chanceOf", "(IIII)LTrigramReaders$Chance;"⟩
abbrev cX8_guessIn : ByteArray := prog_1_method_76_code
def yX8_guessIn : MethodName := ⟨RX8, "guessIn", "(LTrigramReaders$Counts;III)I"⟩
abbrev cX8_rankIn : ByteArray := prog_1_method_77_code
def yX8_rankIn : MethodName := ⟨RX8, "rankIn", "(LTrigramReaders$Counts;III)I"⟩
abbrev cX8_orderOf : ByteArray := prog_1_method_78_code
def yX8_orderOf : MethodName := ⟨RX8, "orderOf", "(LTrigramReaders$Counts;III)I"⟩
abbrev cX8_agreeAfter : ByteArray := prog_1_method_79_code
def yX8_agreeAfter : MethodName := ⟨RX8, "agreeAfter", "(LTrigramReaders$Counts;LTrigramReaders$Counts;I)Z"⟩
abbrev cX8_rankOfPosition : ByteArray := prog_1_method_80_code
def yX8_rankOfPosition : MethodName := ⟨RX8, "rankOfPosition", "(LTrigramReaders$Counts;LTrigramReaders$Document;I)I"⟩
abbrev cX8_guessesFor : ByteArray := prog_1_method_81_code
def yX8_guessesFor : MethodName := ⟨RX8, "guessesFor", "(LTrigramReaders$Counts;LTrigramReaders$Document;)I"⟩
abbrev cX8_guessesWhileLearning : ByteArray := prog_1_method_82_code
def yX8_guessesWhileLearning : MethodName := ⟨RX8, "guessesWhileLearning", "(LTrigramReaders$Counts;LTrigramReaders$Document;)I"⟩
abbrev cX8_hitsFor : ByteArray := prog_1_method_83_code
def yX8_hitsFor : MethodName := ⟨RX8, "hitsFor", "(LTrigramReaders$Counts;LTrigramReaders$Document;)I"⟩
abbrev cX8_readRanks : ByteArray := prog_1_method_84_code
def yX8_readRanks : MethodName := ⟨RX8, "readRanks", "()I"⟩
abbrev cX8_writeSymbols : ByteArray := prog_1_method_85_code
def yX8_writeSymbols : MethodName := ⟨RX8, "writeSymbols", "(LTrigramReaders$Counts;[II)V"⟩
abbrev cX8_isDigit : ByteArray := prog_1_method_86_code
def yX8_isDigit : MethodName := ⟨RX8, "isDigit", "(I)Z"⟩
abbrev cX8_isLetter : ByteArray := prog_1_method_87_code
def yX8_isLetter : MethodName := ⟨RX8, "isLetter", "(I)Z"⟩
abbrev cX8_withDigit : ByteArray := prog_1_method_88_code
def yX8_withDigit : MethodName := ⟨RX8, "withDigit", "(II)I"⟩
def RX9 : String := "TrigramReadersModel"
def TX9 : u_T := fun k => match k with
  | 0 => ("TrigramReadersModel", "s", "[I", true)
  | 1 => ("TrigramReadersModel", "parsed", "[I", true)
  | 2 => ("TrigramReadersModel", "tried", "[I", true)
  | 3 => ("TrigramReadersModel", "remembered", "[I", true)
  | 4 => ("TrigramReadersModel", "slots", "[I", true)
  | 5 => ("TrigramReadersModel", "kept", "[Z", true)
  | 6 => ("TrigramReadersModel", "undoable", "I", false)
  | 7 => ("TrigramReadersModel", "undoStart", "I", false)
  | 8 => ("TrigramReadersModel", "thrown", "I", false)
  | 9 => ("TrigramReadersModel", "counts", "[I", true)
  | 10 => ("TrigramReadersModel", "orders", "I", false)
  | 11 => ("TrigramReadersModel", "ranking", "[I", true)
  | 12 => ("TrigramReadersModel", "rankBy", "[I", true)
  | 13 => ("TrigramReadersModel", "ranked", "I", false)
  | 14 => ("TrigramReadersModel", "excluded", "[Z", true)
  | 15 => ("TrigramReadersModel", "top", "J", false)
  | 16 => ("TrigramReadersModel", "bottom", "J", false)
  | 17 => ("TrigramReadersModel", "escaped", "I", false)
  | 18 => ("TrigramReadersModel", "input", "[I", true)
  | 19 => ("TrigramReadersModel", "inputLength", "I", false)
  | 20 => ("TrigramReadersModel", "position", "I", false)
  | 21 => ("TrigramReadersModel", "start", "I", false)
  | 22 => ("TrigramReadersModel", "token", "I", false)
  | 23 => ("TrigramReadersModel", "value", "I", false)
  | 24 => ("TrigramReadersModel", "letters", "I", false)
  | 25 => ("TrigramReadersModel", "code", "I", false)
  | 26 => ("TrigramReadersModel", "place", "I", false)
  | 27 => ("TrigramReadersModel", "pairs", "[Z", true)
  | 28 => ("TrigramReadersModel", "output", "[B", true)
  | 29 => ("TrigramReadersModel", "outputLength", "I", false)
  | 30 => ("TrigramReadersModel", "numbers", "[I", true)
  | 31 => ("TrigramReadersModel", "before", "I", false)
  | _ => ("TrigramReadersModel", "previous", "I", false)
def tyX9 : Nat → FieldType := fun k => match k with
  | 0 => .array .int
  | 1 => .array .int
  | 2 => .array .int
  | 3 => .array .int
  | 4 => .array .int
  | 5 => .array .boolean
  | 6 => .int
  | 7 => .int
  | 8 => .int
  | 9 => .array .int
  | 10 => .int
  | 11 => .array .int
  | 12 => .array .int
  | 13 => .int
  | 14 => .array .boolean
  | 15 => .long
  | 16 => .long
  | 17 => .int
  | 18 => .array .int
  | 19 => .int
  | 20 => .int
  | 21 => .int
  | 22 => .int
  | 23 => .int
  | 24 => .int
  | 25 => .int
  | 26 => .int
  | 27 => .array .boolean
  | 28 => .array .byte
  | 29 => .int
  | 30 => .array .int
  | 31 => .int
  | _ => .int
abbrev wsX90 : List Cond := u_ws RX9 TX9 33
theorem nmX9 : ∀ a, a < 33 → ∀ b, b < 33 → a ≠ b → (TX9 a).2.1 ≠ (TX9 b).2.1 := by decide +kernel
theorem tyX9_ok : ∀ k, k < 33 → parseFieldDescriptor (TX9 k).2.2.1 = some (tyX9 k) := by decide +kernel
abbrev cX9_init : ByteArray := prog_11_method_1_code
def yX9_init : MethodName := ⟨RX9, "<init>", "()V"⟩
abbrev cX9_layInput : ByteArray := prog_11_method_2_code
def yX9_layInput : MethodName := ⟨RX9, "layInput", "(Ljava/lang/String;)V"⟩
abbrev cX9_thrown : ByteArray := prog_11_method_3_code
def yX9_thrown : MethodName := ⟨RX9, "thrown", "()I"⟩
abbrev cX9_refuses : ByteArray := prog_11_method_4_code
def yX9_refuses : MethodName := ⟨RX9, "refuses", "(ZI)Z"⟩
abbrev cX9_isBetween : ByteArray := prog_11_method_5_code
def yX9_isBetween : MethodName := ⟨RX9, "isBetween", "(III)Z"⟩
abbrev cX9_copyRow : ByteArray := prog_11_method_6_code
def yX9_copyRow : MethodName := ⟨RX9, "copyRow", "([II[II)V"⟩
abbrev cX9_atDocument : ByteArray := prog_11_method_7_code
def yX9_atDocument : MethodName := ⟨RX9, "atDocument", "(I)I"⟩
abbrev cX9_atReader : ByteArray := prog_11_method_8_code
def yX9_atReader : MethodName := ⟨RX9, "atReader", "(I)I"⟩
abbrev cX9_lengthOf : ByteArray := prog_11_method_9_code
def yX9_lengthOf : MethodName := ⟨RX9, "lengthOf", "([II)I"⟩
abbrev cX9_symbolOf : ByteArray := prog_11_method_10_code
def yX9_symbolOf : MethodName := ⟨RX9, "symbolOf", "([III)I"⟩
abbrev cX9_keyOf : ByteArray := prog_11_method_11_code
def yX9_keyOf : MethodName := ⟨RX9, "keyOf", "(III)I"⟩
abbrev cX9_entryAt : ByteArray := prog_11_method_12_code
def yX9_entryAt : MethodName := ⟨RX9, "entryAt", "(II)I"⟩
abbrev cX9_find : ByteArray := prog_11_method_13_code
def yX9_find : MethodName := ⟨RX9, "find", "([III)I"⟩
abbrev cX9_countOf : ByteArray := prog_11_method_14_code
def yX9_countOf : MethodName := ⟨RX9, "countOf", "([III)I"⟩
abbrev cX9_addTo : ByteArray := prog_11_method_15_code
def yX9_addTo : MethodName := ⟨RX9, "addTo", "([IIII)V"⟩
abbrev cX9_learnOne : ByteArray := prog_11_method_16_code
def yX9_learnOne : MethodName := ⟨RX9, "learnOne", "([IIII)V"⟩
abbrev cX9_noteTraining : ByteArray := prog_11_method_17_code
def yX9_noteTraining : MethodName := ⟨RX9, "noteTraining", "([III)V"⟩
abbrev cX9_trainOn : ByteArray := prog_11_method_18_code
def yX9_trainOn : MethodName := ⟨RX9, "trainOn", "([III)V"⟩
abbrev cX9_passYear : ByteArray := prog_11_method_19_code
def yX9_passYear : MethodName := ⟨RX9, "passYear", "([I)V"⟩
abbrev cX9_positiveOf : ByteArray := prog_11_method_20_code
def yX9_positiveOf : MethodName := ⟨RX9, "positiveOf", "([II)I"⟩
abbrev cX9_look : ByteArray := prog_11_method_21_code
def yX9_look : MethodName := ⟨RX9, "look", "([IIII)V"⟩
abbrev cX9_append : ByteArray := prog_11_method_22_code
def yX9_append : MethodName := ⟨RX9, "append", "(I)V"⟩
abbrev cX9_bestOf : ByteArray := prog_11_method_23_code
def yX9_bestOf : MethodName := ⟨RX9, "bestOf", "(I)I"⟩
abbrev cX9_rankAll : ByteArray := prog_11_method_24_code
def yX9_rankAll : MethodName := ⟨RX9, "rankAll", "([IIII)V"⟩
abbrev cX9_rankIn : ByteArray := prog_11_method_25_code
def yX9_rankIn : MethodName := ⟨RX9, "rankIn", "([IIII)I"⟩
abbrev cX9_guesses : ByteArray := prog_11_method_26_code
def yX9_guesses : MethodName := ⟨RX9, "guesses", "([III)I"⟩
abbrev cX9_found : ByteArray := prog_11_method_27_code
def yX9_found : MethodName := ⟨RX9, "found", "([IIIII)I"⟩
abbrev cX9_divisor : ByteArray := prog_11_method_28_code
def yX9_divisor : MethodName := ⟨RX9, "divisor", "(JJ)J"⟩
abbrev cX9_times : ByteArray := prog_11_method_29_code
def yX9_times : MethodName := ⟨RX9, "times", "(JJ)V"⟩
abbrev cX9_isThere : ByteArray := prog_11_method_30_code
def yX9_isThere : MethodName := ⟨RX9, "isThere", "(II)Z"⟩
abbrev cX9_sumAt : ByteArray := prog_11_method_31_code
def yX9_sumAt : MethodName := ⟨RX9, "sumAt", "(I)I"⟩
abbrev cX9_manyAt : ByteArray := prog_11_method_32_code
def yX9_manyAt : MethodName := ⟨RX9, "manyAt", "(I)I"⟩
abbrev cX9_factor : ByteArray := prog_11_method_33_code
def yX9_factor : MethodName := ⟨RX9, "factor", "(IIII)V"⟩
abbrev cX9_exclude : ByteArray := prog_11_method_34_code
def yX9_exclude : MethodName := ⟨RX9, "exclude", "(I)V"⟩
abbrev cX9_reckon : ByteArray := prog_11_method_35_code
def yX9_reckon : MethodName := ⟨RX9, "reckon", "(IIII)V"⟩
abbrev cX9_codeBits : ByteArray := prog_11_method_36_code
def yX9_codeBits : MethodName := ⟨RX9, "codeBits", "()I"⟩
abbrev cX9_appendWord : ByteArray := prog_11_method_37_code
def yX9_appendWord : MethodName := ⟨RX9, "appendWord", "(I)V"⟩
abbrev cX9_appendInput : ByteArray := prog_11_method_38_code
def yX9_appendInput : MethodName := ⟨RX9, "appendInput", "(IIIII)I"⟩
abbrev cX9_truncateInput : ByteArray := prog_11_method_39_code
def yX9_truncateInput : MethodName := ⟨RX9, "truncateInput", "(I)I"⟩
abbrev cX9_errorCode : ByteArray := prog_11_method_40_code
def yX9_errorCode : MethodName := ⟨RX9, "errorCode", "()I"⟩
abbrev cX9_errorPosition : ByteArray := prog_11_method_41_code
def yX9_errorPosition : MethodName := ⟨RX9, "errorPosition", "()I"⟩
abbrev cX9_byteAt : ByteArray := prog_11_method_42_code
def yX9_byteAt : MethodName := ⟨RX9, "byteAt", "(I)I"⟩
abbrev cX9_isLetter : ByteArray := prog_11_method_43_code
def yX9_isLetter : MethodName := ⟨RX9, "isLetter", "(I)Z"⟩
abbrev cX9_isSymbolByte : ByteArray := prog_11_method_44_code
def yX9_isSymbolByte : MethodName := ⟨RX9, "isSymbolByte", "(I)Z"⟩
abbrev cX9_advance : ByteArray := prog_11_method_45_code
def yX9_advance : MethodName := ⟨RX9, "advance", "()V"⟩
abbrev cX9_is : ByteArray := prog_11_method_46_code
def yX9_is : MethodName := ⟨RX9, "is", "(Ljava/lang/String;)Z"⟩
abbrev cX9_check : ByteArray := prog_11_method_47_code
def yX9_check : MethodName := ⟨RX9, "check", "(ZI)Z"⟩
abbrev cX9_next : ByteArray := prog_11_method_48_code
def yX9_next : MethodName := ⟨RX9, "next", "()V"⟩
abbrev cX9_finish : ByteArray := prog_11_method_49_code
def yX9_finish : MethodName := ⟨RX9, "finish", "()V"⟩
abbrev cX9_nameFrom : ByteArray := prog_11_method_50_code
def yX9_nameFrom : MethodName := ⟨RX9, "nameFrom", "(II)I"⟩
abbrev cX9_named : ByteArray := prog_11_method_51_code
def yX9_named : MethodName := ⟨RX9, "named", "([II)I"⟩
abbrev cX9_layReader : ByteArray := prog_11_method_52_code
def yX9_layReader : MethodName := ⟨RX9, "layReader", "([III)I"⟩
abbrev cX9_layDocument : ByteArray := prog_11_method_53_code
def yX9_layDocument : MethodName := ⟨RX9, "layDocument", "([III)I"⟩
abbrev cX9_readReader : ByteArray := prog_11_method_54_code
def yX9_readReader : MethodName := ⟨RX9, "readReader", "()V"⟩
abbrev cX9_readDocument : ByteArray := prog_11_method_55_code
def yX9_readDocument : MethodName := ⟨RX9, "readDocument", "()V"⟩
abbrev cX9_readTrain : ByteArray := prog_11_method_56_code
def yX9_readTrain : MethodName := ⟨RX9, "readTrain", "()V"⟩
abbrev cX9_read : ByteArray := prog_11_method_57_code
def yX9_read : MethodName := ⟨RX9, "read", "()V"⟩
abbrev cX9_load : ByteArray := prog_11_method_58_code
def yX9_load : MethodName := ⟨RX9, "load", "()I"⟩
abbrev cX9_remember : ByteArray := prog_11_method_59_code
def yX9_remember : MethodName := ⟨RX9, "remember", "()V"⟩
abbrev cX9_undo : ByteArray := prog_11_method_60_code
def yX9_undo : MethodName := ⟨RX9, "undo", "()I"⟩
abbrev cX9_undoDepth : ByteArray := prog_11_method_61_code
def yX9_undoDepth : MethodName := ⟨RX9, "undoDepth", "()I"⟩
abbrev cX9_noNumber : ByteArray := prog_11_method_62_code
def yX9_noNumber : MethodName := ⟨RX9, "noNumber", "(III)Z"⟩
abbrev cX9_noReader : ByteArray := prog_11_method_63_code
def yX9_noReader : MethodName := ⟨RX9, "noReader", "(I)Z"⟩
abbrev cX9_noDocument : ByteArray := prog_11_method_64_code
def yX9_noDocument : MethodName := ⟨RX9, "noDocument", "(I)Z"⟩
abbrev cX9_noBoth : ByteArray := prog_11_method_65_code
def yX9_noBoth : MethodName := ⟨RX9, "noBoth", "(II)Z"⟩
abbrev cX9_out : ByteArray := prog_11_method_66_code
def yX9_out : MethodName := ⟨RX9, "out", "(III)Z"⟩
abbrev cX9_noSymbol : ByteArray := prog_11_method_67_code
def yX9_noSymbol : MethodName := ⟨RX9, "noSymbol", "(I)Z"⟩
abbrev cX9_noContext : ByteArray := prog_11_method_68_code
def yX9_noContext : MethodName := ⟨RX9, "noContext", "(III)Z"⟩
abbrev cX9_noQuestion : ByteArray := prog_11_method_69_code
def yX9_noQuestion : MethodName := ⟨RX9, "noQuestion", "(IIII)Z"⟩
abbrev cX9_year : ByteArray := prog_11_method_70_code
def yX9_year : MethodName := ⟨RX9, "year", "()I"⟩
abbrev cX9_readerCount : ByteArray := prog_11_method_71_code
def yX9_readerCount : MethodName := ⟨RX9, "readerCount", "()I"⟩
abbrev cX9_letterOf : ByteArray := prog_11_method_72_code
def yX9_letterOf : MethodName := ⟨RX9, "letterOf", "(II)I"⟩
abbrev cX9_lettersOf : ByteArray := prog_11_method_73_code
def yX9_lettersOf : MethodName := ⟨RX9, "lettersOf", "(I)I"⟩
abbrev cX9_readerNameByte : ByteArray := prog_11_method_74_code
def yX9_readerNameByte : MethodName := ⟨RX9, "readerNameByte", "(II)I"⟩
abbrev cX9_escapeMethod : ByteArray := prog_11_method_75_code
def yX9_escapeMethod : MethodName := ⟨RX9, "escapeMethod", "(I)I"⟩
abbrev cX9_documentCount : ByteArray := prog_11_method_76_code
def yX9_documentCount : MethodName := ⟨RX9, "documentCount", "()I"⟩
abbrev cX9_documentLength : ByteArray := prog_11_method_77_code
def yX9_documentLength : MethodName := ⟨RX9, "documentLength", "(I)I"⟩
abbrev cX9_documentSymbol : ByteArray := prog_11_method_78_code
def yX9_documentSymbol : MethodName := ⟨RX9, "documentSymbol", "(II)I"⟩
abbrev cX9_documentYear : ByteArray := prog_11_method_79_code
def yX9_documentYear : MethodName := ⟨RX9, "documentYear", "(I)I"⟩
abbrev cX9_countOrder0 : ByteArray := prog_11_method_80_code
def yX9_countOrder0 : MethodName := ⟨RX9, "countOrder0", "(II)I"⟩
abbrev cX9_countOrder1 : ByteArray := prog_11_method_81_code
def yX9_countOrder1 : MethodName := ⟨RX9, "countOrder1", "(III)I"⟩
abbrev cX9_countOrder2 : ByteArray := prog_11_method_82_code
def yX9_countOrder2 : MethodName := ⟨RX9, "countOrder2", "(IIII)I"⟩
abbrev cX9_contextTotal : ByteArray := prog_11_method_83_code
def yX9_contextTotal : MethodName := ⟨RX9, "contextTotal", "(III)I"⟩
abbrev cX9_contextSymbols : ByteArray := prog_11_method_84_code
def yX9_contextSymbols : MethodName := ⟨RX9, "contextSymbols", "(III)I"⟩
abbrev cX9_clearPairs : ByteArray := prog_11_method_85_code
def yX9_clearPairs : MethodName := ⟨RX9, "clearPairs", "()V"⟩
abbrev cX9_markPairs : ByteArray := prog_11_method_86_code
def yX9_markPairs : MethodName := ⟨RX9, "markPairs", "(I)V"⟩
abbrev cX9_order2Contexts : ByteArray := prog_11_method_87_code
def yX9_order2Contexts : MethodName := ⟨RX9, "order2Contexts", "(I)I"⟩
abbrev cX9_positiveCounts : ByteArray := prog_11_method_88_code
def yX9_positiveCounts : MethodName := ⟨RX9, "positiveCounts", "(I)I"⟩
abbrev cX9_timesTrained : ByteArray := prog_11_method_89_code
def yX9_timesTrained : MethodName := ⟨RX9, "timesTrained", "(II)I"⟩
abbrev cX9_trainedSymbols : ByteArray := prog_11_method_90_code
def yX9_trainedSymbols : MethodName := ⟨RX9, "trainedSymbols", "(I)I"⟩
abbrev cX9_trainingGap : ByteArray := prog_11_method_91_code
def yX9_trainingGap : MethodName := ⟨RX9, "trainingGap", "(I)I"⟩
abbrev cX9_symbolAtRank : ByteArray := prog_11_method_92_code
def yX9_symbolAtRank : MethodName := ⟨RX9, "symbolAtRank", "(IIII)I"⟩
abbrev cX9_rank : ByteArray := prog_11_method_93_code
def yX9_rank : MethodName := ⟨RX9, "rank", "(IIII)I"⟩
abbrev cX9_foundOrder : ByteArray := prog_11_method_94_code
def yX9_foundOrder : MethodName := ⟨RX9, "foundOrder", "(IIII)I"⟩
abbrev cX9_escapes : ByteArray := prog_11_method_95_code
def yX9_escapes : MethodName := ⟨RX9, "escapes", "(IIII)I"⟩
abbrev cX9_numerator : ByteArray := prog_11_method_96_code
def yX9_numerator : MethodName := ⟨RX9, "numerator", "(IIII)J"⟩
abbrev cX9_denominator : ByteArray := prog_11_method_97_code
def yX9_denominator : MethodName := ⟨RX9, "denominator", "(IIII)J"⟩
abbrev cX9_probability : ByteArray := prog_11_method_98_code
def yX9_probability : MethodName := ⟨RX9, "probability", "(IIII)D"⟩
abbrev cX9_codeLength : ByteArray := prog_11_method_99_code
def yX9_codeLength : MethodName := ⟨RX9, "codeLength", "(IIII)I"⟩
abbrev cX9_rankAt : ByteArray := prog_11_method_100_code
def yX9_rankAt : MethodName := ⟨RX9, "rankAt", "(III)I"⟩
abbrev cX9_totalGuesses : ByteArray := prog_11_method_101_code
def yX9_totalGuesses : MethodName := ⟨RX9, "totalGuesses", "(II)I"⟩
abbrev cX9_learnAll : ByteArray := prog_11_method_102_code
def yX9_learnAll : MethodName := ⟨RX9, "learnAll", "([III)I"⟩
abbrev cX9_tries : ByteArray := prog_11_method_103_code
def yX9_tries : MethodName := ⟨RX9, "tries", "()V"⟩
abbrev cX9_adaptiveGuesses : ByteArray := prog_11_method_104_code
def yX9_adaptiveGuesses : MethodName := ⟨RX9, "adaptiveGuesses", "(II)I"⟩
abbrev cX9_hits : ByteArray := prog_11_method_105_code
def yX9_hits : MethodName := ⟨RX9, "hits", "(II)I"⟩
abbrev cX9_firstGuessHits : ByteArray := prog_11_method_106_code
def yX9_firstGuessHits : MethodName := ⟨RX9, "firstGuessHits", "(II)I"⟩
abbrev cX9_unseenSymbols : ByteArray := prog_11_method_107_code
def yX9_unseenSymbols : MethodName := ⟨RX9, "unseenSymbols", "(II)I"⟩
abbrev cX9_hardestPosition : ByteArray := prog_11_method_108_code
def yX9_hardestPosition : MethodName := ⟨RX9, "hardestPosition", "(II)I"⟩
abbrev cX9_totalBits : ByteArray := prog_11_method_109_code
def yX9_totalBits : MethodName := ⟨RX9, "totalBits", "(II)I"⟩
abbrev cX9_meanGuesses : ByteArray := prog_11_method_110_code
def yX9_meanGuesses : MethodName := ⟨RX9, "meanGuesses", "(II)D"⟩
abbrev cX9_hitShare : ByteArray := prog_11_method_111_code
def yX9_hitShare : MethodName := ⟨RX9, "hitShare", "(II)F"⟩
abbrev cX9_bestReader : ByteArray := prog_11_method_112_code
def yX9_bestReader : MethodName := ⟨RX9, "bestReader", "(I)I"⟩
abbrev cX9_hardestDocument : ByteArray := prog_11_method_113_code
def yX9_hardestDocument : MethodName := ⟨RX9, "hardestDocument", "(I)I"⟩
abbrev cX9_guessesAfterTraining : ByteArray := prog_11_method_114_code
def yX9_guessesAfterTraining : MethodName := ⟨RX9, "guessesAfterTraining", "(III)I"⟩
abbrev cX9_trainingsNeeded : ByteArray := prog_11_method_115_code
def yX9_trainingsNeeded : MethodName := ⟨RX9, "trainingsNeeded", "(III)I"⟩
abbrev cX9_yearsToForget : ByteArray := prog_11_method_116_code
def yX9_yearsToForget : MethodName := ⟨RX9, "yearsToForget", "(I)I"⟩
abbrev cX9_firstIn : ByteArray := prog_11_method_117_code
def yX9_firstIn : MethodName := ⟨RX9, "firstIn", "(III)I"⟩
abbrev cX9_agreements : ByteArray := prog_11_method_118_code
def yX9_agreements : MethodName := ⟨RX9, "agreements", "(II)I"⟩
abbrev cX9_addReader : ByteArray := prog_11_method_119_code
def yX9_addReader : MethodName := ⟨RX9, "addReader", "(I)I"⟩
abbrev cX9_isDocument : ByteArray := prog_11_method_120_code
def yX9_isDocument : MethodName := ⟨RX9, "isDocument", "()Z"⟩
abbrev cX9_addDocument : ByteArray := prog_11_method_121_code
def yX9_addDocument : MethodName := ⟨RX9, "addDocument", "()I"⟩
abbrev cX9_train : ByteArray := prog_11_method_122_code
def yX9_train : MethodName := ⟨RX9, "train", "(II)I"⟩
abbrev cX9_learn : ByteArray := prog_11_method_123_code
def yX9_learn : MethodName := ⟨RX9, "learn", "(II)I"⟩
abbrev cX9_forget : ByteArray := prog_11_method_124_code
def yX9_forget : MethodName := ⟨RX9, "forget", "(I)I"⟩
abbrev cX9_setEscapeMethod : ByteArray := prog_11_method_125_code
def yX9_setEscapeMethod : MethodName := ⟨RX9, "setEscapeMethod", "(II)I"⟩
abbrev cX9_endYear : ByteArray := prog_11_method_126_code
def yX9_endYear : MethodName := ⟨RX9, "endYear", "()I"⟩
abbrev cX9_merge : ByteArray := prog_11_method_127_code
def yX9_merge : MethodName := ⟨RX9, "merge", "(II)I"⟩
abbrev cX9_print : ByteArray := prog_11_method_128_code
def yX9_print : MethodName := ⟨RX9, "print", "(I)V"⟩
abbrev cX9_printSymbol : ByteArray := prog_11_method_129_code
def yX9_printSymbol : MethodName := ⟨RX9, "printSymbol", "(I)V"⟩
abbrev cX9_encode : ByteArray := prog_11_method_130_code
def yX9_encode : MethodName := ⟨RX9, "encode", "(II)I"⟩
abbrev cX9_readNumbers : ByteArray := prog_11_method_131_code
def yX9_readNumbers : MethodName := ⟨RX9, "readNumbers", "()I"⟩
abbrev cX9_write : ByteArray := prog_11_method_132_code
def yX9_write : MethodName := ⟨RX9, "write", "(II)V"⟩
abbrev cX9_begin : ByteArray := prog_11_method_133_code
def yX9_begin : MethodName := ⟨RX9, "begin", "()V"⟩
abbrev cX9_decode : ByteArray := prog_11_method_134_code
def yX9_decode : MethodName := ⟨RX9, "decode", "(I)I"⟩
abbrev cX9_writeExpected : ByteArray := prog_11_method_135_code
def yX9_writeExpected : MethodName := ⟨RX9, "writeExpected", "(II)I"⟩
abbrev cX9_outputByte : ByteArray := prog_11_method_136_code
def yX9_outputByte : MethodName := ⟨RX9, "outputByte", "(I)I"⟩
abbrev cX9_save : ByteArray := prog_11_method_137_code
def yX9_save : MethodName := ⟨RX9, "save", "(I)I"⟩
abbrev cX9_restore : ByteArray := prog_11_method_138_code
def yX9_restore : MethodName := ⟨RX9, "restore", "(I)I"⟩
def RJx145de : String := "java/io/Serializable"
def TJx145de : u_T := fun k => match k with
  | _ => ("", "", "", false)
def tyJx145de : Nat → FieldType := fun k => match k with
  | _ => .int
abbrev wsJx145de0 : List Cond := u_ws RJx145de TJx145de 0
theorem nmJx145de : ∀ a, a < 0 → ∀ b, b < 0 → a ≠ b → (TJx145de a).2.1 ≠ (TJx145de b).2.1 := by decide +kernel
theorem tyJx145de_ok : ∀ k, k < 0 → parseFieldDescriptor (TJx145de k).2.2.1 = some (tyJx145de k) := by decide +kernel
def RJx9f9b0 : String := "java/lang/CharSequence"
def TJx9f9b0 : u_T := fun k => match k with
  | _ => ("", "", "", false)
def tyJx9f9b0 : Nat → FieldType := fun k => match k with
  | _ => .int
abbrev wsJx9f9b00 : List Cond := u_ws RJx9f9b0 TJx9f9b0 0
theorem nmJx9f9b0 : ∀ a, a < 0 → ∀ b, b < 0 → a ≠ b → (TJx9f9b0 a).2.1 ≠ (TJx9f9b0 b).2.1 := by decide +kernel
theorem tyJx9f9b0_ok : ∀ k, k < 0 → parseFieldDescriptor (TJx9f9b0 k).2.2.1 = some (tyJx9f9b0 k) := by decide +kernel
def RJxb160c : String := "java/lang/Comparable"
def TJxb160c : u_T := fun k => match k with
  | _ => ("", "", "", false)
def tyJxb160c : Nat → FieldType := fun k => match k with
  | _ => .int
abbrev wsJxb160c0 : List Cond := u_ws RJxb160c TJxb160c 0
theorem nmJxb160c : ∀ a, a < 0 → ∀ b, b < 0 → a ≠ b → (TJxb160c a).2.1 ≠ (TJxb160c b).2.1 := by decide +kernel
theorem tyJxb160c_ok : ∀ k, k < 0 → parseFieldDescriptor (TJxb160c k).2.2.1 = some (tyJxb160c k) := by decide +kernel
def RJ6 : String := "java/lang/Integer"
def TJ6 : u_T := fun k => match k with
  | _ => ("", "", "", false)
def tyJ6 : Nat → FieldType := fun k => match k with
  | _ => .int
abbrev wsJ60 : List Cond := u_ws RJ6 TJ6 0
theorem nmJ6 : ∀ a, a < 0 → ∀ b, b < 0 → a ≠ b → (TJ6 a).2.1 ≠ (TJ6 b).2.1 := by decide +kernel
theorem tyJ6_ok : ∀ k, k < 0 → parseFieldDescriptor (TJ6 k).2.2.1 = some (tyJ6 k) := by decide +kernel
abbrev cJ6_bitCount_0f7a4 : ByteArray := prog_19_method_49_code
def yJ6_bitCount_0f7a4 : MethodName := ⟨RJ6, "bitCount", "(I)I"⟩
def RJ9 : String := "java/lang/Math"
def TJ9 : u_T := fun k => match k with
  | _ => ("", "", "", false)
def tyJ9 : Nat → FieldType := fun k => match k with
  | _ => .int
abbrev wsJ90 : List Cond := u_ws RJ9 TJ9 0
theorem nmJ9 : ∀ a, a < 0 → ∀ b, b < 0 → a ≠ b → (TJ9 a).2.1 ≠ (TJ9 b).2.1 := by decide +kernel
theorem tyJ9_ok : ∀ k, k < 0 → parseFieldDescriptor (TJ9 k).2.2.1 = some (tyJ9 k) := by decide +kernel
abbrev cJ9_max_7cf53 : ByteArray := prog_20_method_65_code
def yJ9_max_7cf53 : MethodName := ⟨RJ9, "max", "(II)I"⟩
abbrev cJ9_min_7cf53 : ByteArray := prog_20_method_69_code
def yJ9_min_7cf53 : MethodName := ⟨RJ9, "min", "(II)I"⟩
def RJ0 : String := "java/lang/String"
def TJ0 : u_T := fun k => match k with
  | _ => ("", "", "", false)
def tyJ0 : Nat → FieldType := fun k => match k with
  | _ => .int
abbrev wsJ00 : List Cond := u_ws RJ0 TJ0 0
theorem nmJ0 : ∀ a, a < 0 → ∀ b, b < 0 → a ≠ b → (TJ0 a).2.1 ≠ (TJ0 b).2.1 := by decide +kernel
theorem tyJ0_ok : ∀ k, k < 0 → parseFieldDescriptor (TJ0 k).2.2.1 = some (tyJ0 k) := by decide +kernel
abbrev cJ0_length_8abf5 : ByteArray := prog_22_method_54_code
def yJ0_length_8abf5 : MethodName := ⟨RJ0, "length", "()I"⟩
abbrev cJ0_charAt_5068e : ByteArray := prog_22_method_56_code
def yJ0_charAt_5068e : MethodName := ⟨RJ0, "charAt", "(I)C"⟩
abbrev cJ0_coder_7d493 : ByteArray := prog_22_method_152_code
def yJ0_coder_7d493 : MethodName := ⟨RJ0, "coder", "()B"⟩
abbrev cJ0_isLatin1_aae02 : ByteArray := prog_22_method_154_code
def yJ0_isLatin1_aae02 : MethodName := ⟨RJ0, "isLatin1", "()Z"⟩
abbrev cJ0_checkIndex_df160 : ByteArray := prog_22_method_155_code
def yJ0_checkIndex_df160 : MethodName := ⟨RJ0, "checkIndex", "(II)V"⟩
def RJ1 : String := "java/lang/StringLatin1"
def TJ1 : u_T := fun k => match k with
  | _ => ("", "", "", false)
def tyJ1 : Nat → FieldType := fun k => match k with
  | _ => .int
abbrev wsJ10 : List Cond := u_ws RJ1 TJ1 0
theorem nmJ1 : ∀ a, a < 0 → ∀ b, b < 0 → a ≠ b → (TJ1 a).2.1 ≠ (TJ1 b).2.1 := by decide +kernel
theorem tyJ1_ok : ∀ k, k < 0 → parseFieldDescriptor (TJ1 k).2.2.1 = some (tyJ1 k) := by decide +kernel
abbrev cJ1_charAt_3b067 : ByteArray := prog_23_method_2_code
def yJ1_charAt_3b067 : MethodName := ⟨RJ1, "charAt", "([BI)C"⟩
def RJ2 : String := "java/lang/StringUTF16"
def TJ2 : u_T := fun k => match k with
  | _ => ("", "", "", false)
def tyJ2 : Nat → FieldType := fun k => match k with
  | _ => .int
abbrev wsJ20 : List Cond := u_ws RJ2 TJ2 0
theorem nmJ2 : ∀ a, a < 0 → ∀ b, b < 0 → a ≠ b → (TJ2 a).2.1 ≠ (TJ2 b).2.1 := by decide +kernel
theorem tyJ2_ok : ∀ k, k < 0 → parseFieldDescriptor (TJ2 k).2.2.1 = some (tyJ2 k) := by decide +kernel
abbrev cJ2_getChar_3b067 : ByteArray := prog_24_method_5_code
def yJ2_getChar_3b067 : MethodName := ⟨RJ2, "getChar", "([BI)C"⟩
abbrev cJ2_length_9d52b : ByteArray := prog_24_method_6_code
def yJ2_length_9d52b : MethodName := ⟨RJ2, "length", "([B)I"⟩
abbrev cJ2_charAt_3b067 : ByteArray := prog_24_method_83_code
def yJ2_charAt_3b067 : MethodName := ⟨RJ2, "charAt", "([BI)C"⟩
abbrev cJ2_checkIndex_2214a : ByteArray := prog_24_method_91_code
def yJ2_checkIndex_2214a : MethodName := ⟨RJ2, "checkIndex", "(I[B)V"⟩
def RJ10 : String := "java/lang/System"
def TJ10 : u_T := fun k => match k with
  | _ => ("", "", "", false)
def tyJ10 : Nat → FieldType := fun k => match k with
  | _ => .int
abbrev wsJ100 : List Cond := u_ws RJ10 TJ10 0
theorem nmJ10 : ∀ a, a < 0 → ∀ b, b < 0 → a ≠ b → (TJ10 a).2.1 ≠ (TJ10 b).2.1 := by decide +kernel
theorem tyJ10_ok : ∀ k, k < 0 → parseFieldDescriptor (TJ10 k).2.2.1 = some (tyJ10 k) := by decide +kernel
def RJxfd54e : String := "java/lang/constant/Constable"
def TJxfd54e : u_T := fun k => match k with
  | _ => ("", "", "", false)
def tyJxfd54e : Nat → FieldType := fun k => match k with
  | _ => .int
abbrev wsJxfd54e0 : List Cond := u_ws RJxfd54e TJxfd54e 0
theorem nmJxfd54e : ∀ a, a < 0 → ∀ b, b < 0 → a ≠ b → (TJxfd54e a).2.1 ≠ (TJxfd54e b).2.1 := by decide +kernel
theorem tyJxfd54e_ok : ∀ k, k < 0 → parseFieldDescriptor (TJxfd54e k).2.2.1 = some (tyJxfd54e k) := by decide +kernel
def RJx3cf43 : String := "java/lang/constant/ConstantDesc"
def TJx3cf43 : u_T := fun k => match k with
  | _ => ("", "", "", false)
def tyJx3cf43 : Nat → FieldType := fun k => match k with
  | _ => .int
abbrev wsJx3cf430 : List Cond := u_ws RJx3cf43 TJx3cf43 0
theorem nmJx3cf43 : ∀ a, a < 0 → ∀ b, b < 0 → a ≠ b → (TJx3cf43 a).2.1 ≠ (TJx3cf43 b).2.1 := by decide +kernel
theorem tyJx3cf43_ok : ∀ k, k < 0 → parseFieldDescriptor (TJx3cf43 k).2.2.1 = some (tyJx3cf43 k) := by decide +kernel
def RJ3 : String := "jdk/internal/util/Preconditions"
def TJ3 : u_T := fun k => match k with
  | _ => ("", "", "", false)
def tyJ3 : Nat → FieldType := fun k => match k with
  | _ => .int
abbrev wsJ30 : List Cond := u_ws RJ3 TJ3 0
theorem nmJ3 : ∀ a, a < 0 → ∀ b, b < 0 → a ≠ b → (TJ3 a).2.1 ≠ (TJ3 b).2.1 := by decide +kernel
theorem tyJ3_ok : ∀ k, k < 0 → parseFieldDescriptor (TJ3 k).2.2.1 = some (tyJ3 k) := by decide +kernel
abbrev cJ3_checkIndex_8e157 : ByteArray := prog_30_method_11_code
def yJ3_checkIndex_8e157 : MethodName := ⟨RJ3, "checkIndex", "(IILjava/util/function/BiFunction;)I"⟩
def RL : String := "TrigramReadersLaw"
abbrev cL_appendInput : ByteArray := method_3_code
def yL_appendInput : MethodName := ⟨RL, "appendInput", "(LTrigramReaders;IIIII[J)I"⟩
abbrev cL_truncateInput : ByteArray := method_4_code
def yL_truncateInput : MethodName := ⟨RL, "truncateInput", "(LTrigramReaders;I[J)I"⟩
abbrev cL_load : ByteArray := method_5_code
def yL_load : MethodName := ⟨RL, "load", "(LTrigramReaders;[J)I"⟩
abbrev cL_readerNameByte : ByteArray := method_6_code
def yL_readerNameByte : MethodName := ⟨RL, "readerNameByte", "(LTrigramReaders;II[J)I"⟩
abbrev cL_escapeMethod : ByteArray := method_7_code
def yL_escapeMethod : MethodName := ⟨RL, "escapeMethod", "(LTrigramReaders;I[J)I"⟩
abbrev cL_documentLength : ByteArray := method_8_code
def yL_documentLength : MethodName := ⟨RL, "documentLength", "(LTrigramReaders;I[J)I"⟩
abbrev cL_documentSymbol : ByteArray := method_9_code
def yL_documentSymbol : MethodName := ⟨RL, "documentSymbol", "(LTrigramReaders;II[J)I"⟩
abbrev cL_documentYear : ByteArray := method_10_code
def yL_documentYear : MethodName := ⟨RL, "documentYear", "(LTrigramReaders;I[J)I"⟩
abbrev cL_countOrder0 : ByteArray := method_11_code
def yL_countOrder0 : MethodName := ⟨RL, "countOrder0", "(LTrigramReaders;II[J)I"⟩
abbrev cL_countOrder1 : ByteArray := method_12_code
def yL_countOrder1 : MethodName := ⟨RL, "countOrder1", "(LTrigramReaders;III[J)I"⟩
abbrev cL_countOrder2 : ByteArray := method_13_code
def yL_countOrder2 : MethodName := ⟨RL, "countOrder2", "(LTrigramReaders;IIII[J)I"⟩
abbrev cL_contextTotal : ByteArray := method_14_code
def yL_contextTotal : MethodName := ⟨RL, "contextTotal", "(LTrigramReaders;III[J)I"⟩
abbrev cL_contextSymbols : ByteArray := method_15_code
def yL_contextSymbols : MethodName := ⟨RL, "contextSymbols", "(LTrigramReaders;III[J)I"⟩
abbrev cL_order2Contexts : ByteArray := method_16_code
def yL_order2Contexts : MethodName := ⟨RL, "order2Contexts", "(LTrigramReaders;I[J)I"⟩
abbrev cL_positiveCounts : ByteArray := method_17_code
def yL_positiveCounts : MethodName := ⟨RL, "positiveCounts", "(LTrigramReaders;I[J)I"⟩
abbrev cL_timesTrained : ByteArray := method_18_code
def yL_timesTrained : MethodName := ⟨RL, "timesTrained", "(LTrigramReaders;II[J)I"⟩
abbrev cL_trainedSymbols : ByteArray := method_19_code
def yL_trainedSymbols : MethodName := ⟨RL, "trainedSymbols", "(LTrigramReaders;I[J)I"⟩
abbrev cL_trainingGap : ByteArray := method_20_code
def yL_trainingGap : MethodName := ⟨RL, "trainingGap", "(LTrigramReaders;I[J)I"⟩
abbrev cL_symbolAtRank : ByteArray := method_21_code
def yL_symbolAtRank : MethodName := ⟨RL, "symbolAtRank", "(LTrigramReaders;IIII[J)I"⟩
abbrev cL_rank : ByteArray := method_22_code
def yL_rank : MethodName := ⟨RL, "rank", "(LTrigramReaders;IIII[J)I"⟩
abbrev cL_foundOrder : ByteArray := method_23_code
def yL_foundOrder : MethodName := ⟨RL, "foundOrder", "(LTrigramReaders;IIII[J)I"⟩
abbrev cL_escapes : ByteArray := method_24_code
def yL_escapes : MethodName := ⟨RL, "escapes", "(LTrigramReaders;IIII[J)I"⟩
abbrev cL_numerator : ByteArray := method_25_code
def yL_numerator : MethodName := ⟨RL, "numerator", "(LTrigramReaders;IIII[J)I"⟩
abbrev cL_denominator : ByteArray := method_26_code
def yL_denominator : MethodName := ⟨RL, "denominator", "(LTrigramReaders;IIII[J)I"⟩
abbrev cL_probability : ByteArray := method_27_code
def yL_probability : MethodName := ⟨RL, "probability", "(LTrigramReaders;IIII[D)I"⟩
abbrev cL_codeLength : ByteArray := method_28_code
def yL_codeLength : MethodName := ⟨RL, "codeLength", "(LTrigramReaders;IIII[J)I"⟩
abbrev cL_rankAt : ByteArray := method_29_code
def yL_rankAt : MethodName := ⟨RL, "rankAt", "(LTrigramReaders;III[J)I"⟩
abbrev cL_totalGuesses : ByteArray := method_30_code
def yL_totalGuesses : MethodName := ⟨RL, "totalGuesses", "(LTrigramReaders;II[J)I"⟩
abbrev cL_adaptiveGuesses : ByteArray := method_31_code
def yL_adaptiveGuesses : MethodName := ⟨RL, "adaptiveGuesses", "(LTrigramReaders;II[J)I"⟩
abbrev cL_firstGuessHits : ByteArray := method_32_code
def yL_firstGuessHits : MethodName := ⟨RL, "firstGuessHits", "(LTrigramReaders;II[J)I"⟩
abbrev cL_unseenSymbols : ByteArray := method_33_code
def yL_unseenSymbols : MethodName := ⟨RL, "unseenSymbols", "(LTrigramReaders;II[J)I"⟩
abbrev cL_hardestPosition : ByteArray := method_34_code
def yL_hardestPosition : MethodName := ⟨RL, "hardestPosition", "(LTrigramReaders;II[J)I"⟩
abbrev cL_totalBits : ByteArray := method_35_code
def yL_totalBits : MethodName := ⟨RL, "totalBits", "(LTrigramReaders;II[J)I"⟩
abbrev cL_meanGuesses : ByteArray := method_36_code
def yL_meanGuesses : MethodName := ⟨RL, "meanGuesses", "(LTrigramReaders;II[D)I"⟩
abbrev cL_hitShare : ByteArray := method_37_code
def yL_hitShare : MethodName := ⟨RL, "hitShare", "(LTrigramReaders;II[D)I"⟩
abbrev cL_bestReader : ByteArray := method_38_code
def yL_bestReader : MethodName := ⟨RL, "bestReader", "(LTrigramReaders;I[J)I"⟩
abbrev cL_hardestDocument : ByteArray := method_39_code
def yL_hardestDocument : MethodName := ⟨RL, "hardestDocument", "(LTrigramReaders;I[J)I"⟩
abbrev cL_guessesAfterTraining : ByteArray := method_40_code
def yL_guessesAfterTraining : MethodName := ⟨RL, "guessesAfterTraining", "(LTrigramReaders;III[J)I"⟩
abbrev cL_trainingsNeeded : ByteArray := method_41_code
def yL_trainingsNeeded : MethodName := ⟨RL, "trainingsNeeded", "(LTrigramReaders;III[J)I"⟩
abbrev cL_yearsToForget : ByteArray := method_42_code
def yL_yearsToForget : MethodName := ⟨RL, "yearsToForget", "(LTrigramReaders;I[J)I"⟩
abbrev cL_agreements : ByteArray := method_43_code
def yL_agreements : MethodName := ⟨RL, "agreements", "(LTrigramReaders;II[J)I"⟩
abbrev cL_addReader : ByteArray := method_44_code
def yL_addReader : MethodName := ⟨RL, "addReader", "(LTrigramReaders;I[J)I"⟩
abbrev cL_addDocument : ByteArray := method_45_code
def yL_addDocument : MethodName := ⟨RL, "addDocument", "(LTrigramReaders;[J)I"⟩
abbrev cL_train : ByteArray := method_46_code
def yL_train : MethodName := ⟨RL, "train", "(LTrigramReaders;II[J)I"⟩
abbrev cL_learn : ByteArray := method_47_code
def yL_learn : MethodName := ⟨RL, "learn", "(LTrigramReaders;II[J)I"⟩
abbrev cL_forget : ByteArray := method_48_code
def yL_forget : MethodName := ⟨RL, "forget", "(LTrigramReaders;I[J)I"⟩
abbrev cL_setEscapeMethod : ByteArray := method_49_code
def yL_setEscapeMethod : MethodName := ⟨RL, "setEscapeMethod", "(LTrigramReaders;II[J)I"⟩
abbrev cL_merge : ByteArray := method_50_code
def yL_merge : MethodName := ⟨RL, "merge", "(LTrigramReaders;II[J)I"⟩
abbrev cL_encode : ByteArray := method_51_code
def yL_encode : MethodName := ⟨RL, "encode", "(LTrigramReaders;II[J)I"⟩
abbrev cL_decode : ByteArray := method_52_code
def yL_decode : MethodName := ⟨RL, "decode", "(LTrigramReaders;I[J)I"⟩
abbrev cL_writeExpected : ByteArray := method_53_code
def yL_writeExpected : MethodName := ⟨RL, "writeExpected", "(LTrigramReaders;II[J)I"⟩
abbrev cL_outputByte : ByteArray := method_54_code
def yL_outputByte : MethodName := ⟨RL, "outputByte", "(LTrigramReaders;I[J)I"⟩
abbrev cL_save : ByteArray := method_55_code
def yL_save : MethodName := ⟨RL, "save", "(LTrigramReaders;I[J)I"⟩
abbrev cL_restore : ByteArray := method_56_code
def yL_restore : MethodName := ⟨RL, "restore", "(LTrigramReaders;I[J)I"⟩
abbrev cL_undo : ByteArray := method_57_code
def yL_undo : MethodName := ⟨RL, "undo", "(LTrigramReaders;[J)I"⟩
abbrev cL_law : ByteArray := code
def yL_law : MethodName := ⟨RL, "law", "([I)Z"⟩
abbrev vwCl : List vw_C := [(RX0, TX0, 2), (RX1, TX1, 4), (RX2, TX2, 3), (RX3, TX3, 3), (RX4, TX4, 7), (RX5, TX5, 4), (RX6, TX6, 6), (RX7, TX7, 5), (RX8, TX8, 15), (RX9, TX9, 33)]
/-! ===== END names ===== -/
def LW : List Cond := lw_tbl.filter goodWord
theorem LW_mem {w : Cond} (h : w ∈ lw_tbl) (g : goodWord w = true) : w ∈ LW := List.mem_filter.mpr ⟨h, g⟩
theorem LW_tbl {w : Cond} (h : w ∈ LW) : w ∈ lw_tbl := (List.mem_filter.mp h).1
theorem mt_t {w : Cond} (h : w ∈ tables_1) : w ∈ lw_tbl := List.mem_append_right _ h
theorem mt_1 {w : Cond} (h : w ∈ tables_1_1) : w ∈ lw_tbl := mt_t (show w ∈ tables_1_1 ++ (tables_1_2 ++ (tables_1_3 ++ (tables_1_4 ++ (tables_1_5 ++ (tables_1_6 ++ (tables_1_7 ++ (tables_1_8 ++ tables_1_9))))))) from List.mem_append_left _ h)
theorem mt_2 {w : Cond} (h : w ∈ tables_1_2) : w ∈ lw_tbl := mt_t (show w ∈ tables_1_1 ++ (tables_1_2 ++ (tables_1_3 ++ (tables_1_4 ++ (tables_1_5 ++ (tables_1_6 ++ (tables_1_7 ++ (tables_1_8 ++ tables_1_9))))))) from List.mem_append_right _ (List.mem_append_left _ h))
theorem mt_3 {w : Cond} (h : w ∈ tables_1_3) : w ∈ lw_tbl := mt_t (show w ∈ tables_1_1 ++ (tables_1_2 ++ (tables_1_3 ++ (tables_1_4 ++ (tables_1_5 ++ (tables_1_6 ++ (tables_1_7 ++ (tables_1_8 ++ tables_1_9))))))) from List.mem_append_right _ (List.mem_append_right _ (List.mem_append_left _ h)))
theorem mt_4 {w : Cond} (h : w ∈ tables_1_4) : w ∈ lw_tbl := mt_t (show w ∈ tables_1_1 ++ (tables_1_2 ++ (tables_1_3 ++ (tables_1_4 ++ (tables_1_5 ++ (tables_1_6 ++ (tables_1_7 ++ (tables_1_8 ++ tables_1_9))))))) from List.mem_append_right _ (List.mem_append_right _ (List.mem_append_right _ (List.mem_append_left _ h))))
theorem mt_5 {w : Cond} (h : w ∈ tables_1_5) : w ∈ lw_tbl := mt_t (show w ∈ tables_1_1 ++ (tables_1_2 ++ (tables_1_3 ++ (tables_1_4 ++ (tables_1_5 ++ (tables_1_6 ++ (tables_1_7 ++ (tables_1_8 ++ tables_1_9))))))) from List.mem_append_right _ (List.mem_append_right _ (List.mem_append_right _ (List.mem_append_right _ (List.mem_append_left _ h)))))
theorem mt_6 {w : Cond} (h : w ∈ tables_1_6) : w ∈ lw_tbl := mt_t (show w ∈ tables_1_1 ++ (tables_1_2 ++ (tables_1_3 ++ (tables_1_4 ++ (tables_1_5 ++ (tables_1_6 ++ (tables_1_7 ++ (tables_1_8 ++ tables_1_9))))))) from List.mem_append_right _ (List.mem_append_right _ (List.mem_append_right _ (List.mem_append_right _ (List.mem_append_right _ (List.mem_append_left _ h))))))
theorem mt_7 {w : Cond} (h : w ∈ tables_1_7) : w ∈ lw_tbl := mt_t (show w ∈ tables_1_1 ++ (tables_1_2 ++ (tables_1_3 ++ (tables_1_4 ++ (tables_1_5 ++ (tables_1_6 ++ (tables_1_7 ++ (tables_1_8 ++ tables_1_9))))))) from List.mem_append_right _ (List.mem_append_right _ (List.mem_append_right _ (List.mem_append_right _ (List.mem_append_right _ (List.mem_append_right _ (List.mem_append_left _ h)))))))
theorem mt_8 {w : Cond} (h : w ∈ tables_1_8) : w ∈ lw_tbl := mt_t (show w ∈ tables_1_1 ++ (tables_1_2 ++ (tables_1_3 ++ (tables_1_4 ++ (tables_1_5 ++ (tables_1_6 ++ (tables_1_7 ++ (tables_1_8 ++ tables_1_9))))))) from List.mem_append_right _ (List.mem_append_right _ (List.mem_append_right _ (List.mem_append_right _ (List.mem_append_right _ (List.mem_append_right _ (List.mem_append_right _ (List.mem_append_left _ h))))))))
theorem mt_9 {w : Cond} (h : w ∈ tables_1_9) : w ∈ lw_tbl := mt_t (show w ∈ tables_1_1 ++ (tables_1_2 ++ (tables_1_3 ++ (tables_1_4 ++ (tables_1_5 ++ (tables_1_6 ++ (tables_1_7 ++ (tables_1_8 ++ tables_1_9))))))) from List.mem_append_right _ (List.mem_append_right _ (List.mem_append_right _ (List.mem_append_right _ (List.mem_append_right _ (List.mem_append_right _ (List.mem_append_right _ (List.mem_append_right _ (h)))))))))
theorem t1_0 : (Jvm.Cond.initialized "TrigramReadersLaw") ∈ LW := LW_mem (mt_1 (List.mem_of_getElem? (i := 0) rfl)) rfl
theorem t1_1 : (Jvm.Cond.initialized "TrigramReaders") ∈ LW := LW_mem (mt_1 (List.mem_of_getElem? (i := 1) rfl)) rfl
theorem t1_2 : (Jvm.Cond.initialized "TrigramReaders$Bytes") ∈ LW := LW_mem (mt_1 (List.mem_of_getElem? (i := 2) rfl)) rfl
theorem t1_3 : (Jvm.Cond.initialized "java/lang/String") ∈ LW := LW_mem (mt_1 (List.mem_of_getElem? (i := 3) rfl)) rfl
theorem t1_4 : (Jvm.Cond.initialized "java/lang/StringLatin1") ∈ LW := LW_mem (mt_1 (List.mem_of_getElem? (i := 4) rfl)) rfl
theorem t1_5 : (Jvm.Cond.initialized "jdk/internal/util/Preconditions") ∈ LW := LW_mem (mt_1 (List.mem_of_getElem? (i := 5) rfl)) rfl
theorem t1_6 : (Jvm.Cond.initialized "java/lang/StringUTF16") ∈ LW := LW_mem (mt_1 (List.mem_of_getElem? (i := 6) rfl)) rfl
theorem t1_7 : (Jvm.Cond.initialized "TrigramReaders$State") ∈ LW := LW_mem (mt_1 (List.mem_of_getElem? (i := 7) rfl)) rfl
theorem t1_8 : (Jvm.Cond.initialized "TrigramReaders$Reader") ∈ LW := LW_mem (mt_1 (List.mem_of_getElem? (i := 8) rfl)) rfl
theorem t1_9 : (Jvm.Cond.initialized "TrigramReaders$Counts") ∈ LW := LW_mem (mt_1 (List.mem_of_getElem? (i := 9) rfl)) rfl
theorem t1_10 : (Jvm.Cond.initialized "TrigramReaders$Document") ∈ LW := LW_mem (mt_1 (List.mem_of_getElem? (i := 10) rfl)) rfl
theorem t1_11 : (Jvm.Cond.initialized "TrigramReaders$Parser") ∈ LW := LW_mem (mt_1 (List.mem_of_getElem? (i := 11) rfl)) rfl
theorem t1_12 : (Jvm.Cond.initialized "java/lang/Math") ∈ LW := LW_mem (mt_1 (List.mem_of_getElem? (i := 12) rfl)) rfl
theorem t1_13 : (Jvm.Cond.initialized "java/lang/System") ∈ LW := LW_mem (mt_1 (List.mem_of_getElem? (i := 13) rfl)) rfl
theorem t1_14 : (Jvm.Cond.initialized "TrigramReaders$Ranking") ∈ LW := LW_mem (mt_1 (List.mem_of_getElem? (i := 14) rfl)) rfl
theorem t1_15 : (Jvm.Cond.initialized "TrigramReaders$Chance") ∈ LW := LW_mem (mt_1 (List.mem_of_getElem? (i := 15) rfl)) rfl
theorem t1_16 : (Jvm.Cond.initialized "TrigramReadersModel") ∈ LW := LW_mem (mt_1 (List.mem_of_getElem? (i := 16) rfl)) rfl
theorem t1_17 : (Jvm.Cond.initialized "java/lang/Throwable") ∈ LW := LW_mem (mt_1 (List.mem_of_getElem? (i := 17) rfl)) rfl
theorem t1_18 : (Jvm.Cond.initialized "java/lang/Exception") ∈ LW := LW_mem (mt_1 (List.mem_of_getElem? (i := 18) rfl)) rfl
theorem t1_19 : (Jvm.Cond.initialized "java/lang/RuntimeException") ∈ LW := LW_mem (mt_1 (List.mem_of_getElem? (i := 19) rfl)) rfl
theorem t1_20 : (Jvm.Cond.initialized "java/lang/IllegalStateException") ∈ LW := LW_mem (mt_1 (List.mem_of_getElem? (i := 20) rfl)) rfl
theorem t1_21 : (Jvm.Cond.initialized "java/lang/IllegalArgumentException") ∈ LW := LW_mem (mt_1 (List.mem_of_getElem? (i := 21) rfl)) rfl
theorem t1_22 : (Jvm.Cond.initialized "java/lang/IndexOutOfBoundsException") ∈ LW := LW_mem (mt_1 (List.mem_of_getElem? (i := 22) rfl)) rfl
theorem t1_23 : (Jvm.Cond.initialized "java/util/NoSuchElementException") ∈ LW := LW_mem (mt_1 (List.mem_of_getElem? (i := 23) rfl)) rfl
theorem t1_24 : (Jvm.Cond.initialized "java/lang/Integer") ∈ LW := LW_mem (mt_1 (List.mem_of_getElem? (i := 24) rfl)) rfl
theorem t1_25 : (Jvm.Cond.classLink "TrigramReadersLaw" (8 : Nat) "TrigramReaders") ∈ LW := LW_mem (mt_1 (List.mem_of_getElem? (i := 25) rfl)) rfl
theorem t1_26 : (Jvm.Cond.instantiable "TrigramReaders" (15 : Nat)) ∈ LW := LW_mem (mt_1 (List.mem_of_getElem? (i := 26) rfl)) rfl
theorem t1_27 : (Jvm.Cond.methodLink "TrigramReadersLaw" (192 : Nat) ({ cls := "TrigramReaders", name := "<init>", desc := "()V" } : Jvm.MethodName)) ∈ LW := LW_mem (mt_1 (List.mem_of_getElem? (i := 27) rfl)) rfl
theorem t1_28 : (Jvm.Cond.instanceMethod ({ cls := "TrigramReaders", name := "<init>", desc := "()V" } : Jvm.MethodName)) ∈ LW := LW_mem (mt_1 (List.mem_of_getElem? (i := 28) rfl)) rfl
theorem t1_29 : (Jvm.Cond.code ({ cls := "TrigramReaders", name := "<init>", desc := "()V" } : Jvm.MethodName) prog_1_method_1_code (2 : Nat) (Option.none : Option Jvm.ClassFile.FieldType)) ∈ LW := LW_mem (mt_1 (List.mem_of_getElem? (i := 29) rfl)) rfl
theorem t1_30 : (Jvm.Cond.methodLink "TrigramReaders" (3 : Nat) ({ cls := "java/lang/Object", name := "<init>", desc := "()V" } : Jvm.MethodName)) ∈ LW := LW_mem (mt_1 (List.mem_of_getElem? (i := 30) rfl)) rfl
theorem t1_31 : (Jvm.Cond.instanceMethod ({ cls := "java/lang/Object", name := "<init>", desc := "()V" } : Jvm.MethodName)) ∈ LW := LW_mem (mt_1 (List.mem_of_getElem? (i := 31) rfl)) rfl
theorem t1_32 : (Jvm.Cond.code ({ cls := "java/lang/Object", name := "<init>", desc := "()V" } : Jvm.MethodName) object_method_1_code (1 : Nat) (Option.none : Option Jvm.ClassFile.FieldType)) ∈ LW := LW_mem (mt_1 (List.mem_of_getElem? (i := 32) rfl)) rfl
theorem t1_33 : (Jvm.Cond.methodLink "TrigramReaders" (9 : Nat) ({ cls := "TrigramReaders", name := "firstState", desc := "()LTrigramReaders$State;" } : Jvm.MethodName)) ∈ LW := LW_mem (mt_1 (List.mem_of_getElem? (i := 33) rfl)) rfl
theorem t1_34 : (Jvm.Cond.static ({ cls := "TrigramReaders", name := "firstState", desc := "()LTrigramReaders$State;" } : Jvm.MethodName)) ∈ LW := LW_mem (mt_1 (List.mem_of_getElem? (i := 34) rfl)) rfl
theorem t1_35 : (Jvm.Cond.code ({ cls := "TrigramReaders", name := "firstState", desc := "()LTrigramReaders$State;" } : Jvm.MethodName) prog_1_method_2_code (3 : Nat) (Option.some (Jvm.ClassFile.FieldType.object "TrigramReaders$State"))) ∈ LW := LW_mem (mt_1 (List.mem_of_getElem? (i := 35) rfl)) rfl
theorem t1_36 : (Jvm.Cond.classLink "TrigramReaders" (41 : Nat) "TrigramReaders$Bytes") ∈ LW := LW_mem (mt_1 (List.mem_of_getElem? (i := 36) rfl)) rfl
theorem t1_37 : (Jvm.Cond.instantiable "TrigramReaders$Bytes" (2 : Nat)) ∈ LW := LW_mem (mt_1 (List.mem_of_getElem? (i := 37) rfl)) rfl
theorem t1_39 : (Jvm.Cond.instanceMethod ({ cls := "TrigramReaders$Bytes", name := "<init>", desc := "()V" } : Jvm.MethodName)) ∈ LW := LW_mem (mt_1 (List.mem_of_getElem? (i := 39) rfl)) rfl
theorem t1_40 : (Jvm.Cond.code ({ cls := "TrigramReaders$Bytes", name := "<init>", desc := "()V" } : Jvm.MethodName) prog_2_method_1_code (1 : Nat) (Option.none : Option Jvm.ClassFile.FieldType)) ∈ LW := LW_mem (mt_1 (List.mem_of_getElem? (i := 40) rfl)) rfl
theorem t1_41 : (Jvm.Cond.methodLink "TrigramReaders$Bytes" (3 : Nat) ({ cls := "java/lang/Object", name := "<init>", desc := "()V" } : Jvm.MethodName)) ∈ LW := LW_mem (mt_1 (List.mem_of_getElem? (i := 41) rfl)) rfl
theorem t1_42 : (Jvm.Cond.fieldLink "TrigramReaders$Bytes" (9 : Nat) "TrigramReaders$Bytes" "row" "[I") ∈ LW := LW_mem (mt_1 (List.mem_of_getElem? (i := 42) rfl)) rfl
theorem t1_43 : (Jvm.Cond.fieldLink "TrigramReaders$Bytes" (15 : Nat) "TrigramReaders$Bytes" "length" "I") ∈ LW := LW_mem (mt_1 (List.mem_of_getElem? (i := 43) rfl)) rfl
theorem t1_44 : (Jvm.Cond.fieldLink "TrigramReaders" (107 : Nat) "TrigramReaders$Bytes" "length" "I") ∈ LW := LW_mem (mt_1 (List.mem_of_getElem? (i := 44) rfl)) rfl
theorem t1_45 : (Jvm.Cond.fieldLink "TrigramReaders$Parser" (138 : Nat) "TrigramReaders$Bytes" "length" "I") ∈ LW := LW_mem (mt_1 (List.mem_of_getElem? (i := 45) rfl)) rfl
theorem t1_46 : (Jvm.Cond.laysFinal "TrigramReaders$Bytes" "TrigramReaders$Bytes" "row" "[I") ∈ LW := LW_mem (mt_1 (List.mem_of_getElem? (i := 46) rfl)) rfl
theorem t1_48 : (Jvm.Cond.lays "TrigramReaders$Bytes" "TrigramReaders$Bytes" "length" "I") ∈ LW := LW_mem (mt_1 (List.mem_of_getElem? (i := 48) rfl)) rfl
theorem t1_51 : (Jvm.Cond.arrayClass Jvm.ClassFile.FieldType.int) ∈ LW := LW_mem (mt_1 (List.mem_of_getElem? (i := 51) rfl)) rfl
theorem t1_53 : (Jvm.Cond.methodLink "TrigramReaders" (84 : Nat) ({ cls := "java/lang/String", name := "length", desc := "()I" } : Jvm.MethodName)) ∈ LW := LW_mem (mt_1 (List.mem_of_getElem? (i := 53) rfl)) rfl
theorem t1_54 : (Jvm.Cond.instanceMethod ({ cls := "java/lang/String", name := "length", desc := "()I" } : Jvm.MethodName)) ∈ LW := LW_mem (mt_1 (List.mem_of_getElem? (i := 54) rfl)) rfl
theorem t1_55 : (Jvm.Cond.selects "java/lang/String" ({ cls := "java/lang/String", name := "length", desc := "()I" } : Jvm.MethodName) ({ cls := "java/lang/String", name := "length", desc := "()I" } : Jvm.MethodName)) ∈ LW := LW_mem (mt_1 (List.mem_of_getElem? (i := 55) rfl)) rfl
theorem t1_56 : (Jvm.Cond.code ({ cls := "java/lang/String", name := "length", desc := "()I" } : Jvm.MethodName) prog_22_method_54_code (1 : Nat) (Option.some Jvm.ClassFile.FieldType.int)) ∈ LW := LW_mem (mt_1 (List.mem_of_getElem? (i := 56) rfl)) rfl
theorem t1_57 : (Jvm.Cond.methodLink "java/lang/String" (335 : Nat) ({ cls := "java/lang/String", name := "coder", desc := "()B" } : Jvm.MethodName)) ∈ LW := LW_mem (mt_1 (List.mem_of_getElem? (i := 57) rfl)) rfl
theorem t1_58 : (Jvm.Cond.instanceMethod ({ cls := "java/lang/String", name := "coder", desc := "()B" } : Jvm.MethodName)) ∈ LW := LW_mem (mt_1 (List.mem_of_getElem? (i := 58) rfl)) rfl
theorem t1_59 : (Jvm.Cond.selects "java/lang/String" ({ cls := "java/lang/String", name := "coder", desc := "()B" } : Jvm.MethodName) ({ cls := "java/lang/String", name := "coder", desc := "()B" } : Jvm.MethodName)) ∈ LW := LW_mem (mt_1 (List.mem_of_getElem? (i := 59) rfl)) rfl
theorem t1_60 : (Jvm.Cond.code ({ cls := "java/lang/String", name := "coder", desc := "()B" } : Jvm.MethodName) prog_22_method_152_code (1 : Nat) (Option.some Jvm.ClassFile.FieldType.byte)) ∈ LW := LW_mem (mt_1 (List.mem_of_getElem? (i := 60) rfl)) rfl
theorem t1_61 : (Jvm.Cond.fieldLink "java/lang/String" (38 : Nat) "java/lang/String" "COMPACT_STRINGS" "Z") ∈ LW := LW_mem (mt_1 (List.mem_of_getElem? (i := 61) rfl)) rfl
theorem t1_63 : (Jvm.Cond.methodLink "TrigramReaders" (90 : Nat) ({ cls := "java/lang/String", name := "charAt", desc := "(I)C" } : Jvm.MethodName)) ∈ LW := LW_mem (mt_1 (List.mem_of_getElem? (i := 63) rfl)) rfl
theorem t1_64 : (Jvm.Cond.instanceMethod ({ cls := "java/lang/String", name := "charAt", desc := "(I)C" } : Jvm.MethodName)) ∈ LW := LW_mem (mt_1 (List.mem_of_getElem? (i := 64) rfl)) rfl
theorem t1_65 : (Jvm.Cond.selects "java/lang/String" ({ cls := "java/lang/String", name := "charAt", desc := "(I)C" } : Jvm.MethodName) ({ cls := "java/lang/String", name := "charAt", desc := "(I)C" } : Jvm.MethodName)) ∈ LW := LW_mem (mt_1 (List.mem_of_getElem? (i := 65) rfl)) rfl
theorem t1_66 : (Jvm.Cond.code ({ cls := "java/lang/String", name := "charAt", desc := "(I)C" } : Jvm.MethodName) prog_22_method_56_code (2 : Nat) (Option.some Jvm.ClassFile.FieldType.char)) ∈ LW := LW_mem (mt_1 (List.mem_of_getElem? (i := 66) rfl)) rfl
theorem t1_67 : (Jvm.Cond.methodLink "java/lang/String" (492 : Nat) ({ cls := "java/lang/String", name := "isLatin1", desc := "()Z" } : Jvm.MethodName)) ∈ LW := LW_mem (mt_1 (List.mem_of_getElem? (i := 67) rfl)) rfl
theorem t1_68 : (Jvm.Cond.instanceMethod ({ cls := "java/lang/String", name := "isLatin1", desc := "()Z" } : Jvm.MethodName)) ∈ LW := LW_mem (mt_1 (List.mem_of_getElem? (i := 68) rfl)) rfl
theorem t1_69 : (Jvm.Cond.selects "java/lang/String" ({ cls := "java/lang/String", name := "isLatin1", desc := "()Z" } : Jvm.MethodName) ({ cls := "java/lang/String", name := "isLatin1", desc := "()Z" } : Jvm.MethodName)) ∈ LW := LW_mem (mt_1 (List.mem_of_getElem? (i := 69) rfl)) rfl
theorem t1_70 : (Jvm.Cond.code ({ cls := "java/lang/String", name := "isLatin1", desc := "()Z" } : Jvm.MethodName) prog_22_method_154_code (1 : Nat) (Option.some Jvm.ClassFile.FieldType.boolean)) ∈ LW := LW_mem (mt_1 (List.mem_of_getElem? (i := 70) rfl)) rfl
theorem t1_71 : (Jvm.Cond.methodLink "java/lang/String" (495 : Nat) ({ cls := "java/lang/StringLatin1", name := "charAt", desc := "([BI)C" } : Jvm.MethodName)) ∈ LW := LW_mem (mt_1 (List.mem_of_getElem? (i := 71) rfl)) rfl
theorem t1_72 : (Jvm.Cond.static ({ cls := "java/lang/StringLatin1", name := "charAt", desc := "([BI)C" } : Jvm.MethodName)) ∈ LW := LW_mem (mt_1 (List.mem_of_getElem? (i := 72) rfl)) rfl
theorem t1_73 : (Jvm.Cond.code ({ cls := "java/lang/StringLatin1", name := "charAt", desc := "([BI)C" } : Jvm.MethodName) prog_23_method_2_code (2 : Nat) (Option.some Jvm.ClassFile.FieldType.char)) ∈ LW := LW_mem (mt_1 (List.mem_of_getElem? (i := 73) rfl)) rfl
theorem t1_74 : (Jvm.Cond.methodLink "java/lang/StringLatin1" (9 : Nat) ({ cls := "java/lang/String", name := "checkIndex", desc := "(II)V" } : Jvm.MethodName)) ∈ LW := LW_mem (mt_1 (List.mem_of_getElem? (i := 74) rfl)) rfl
theorem t1_75 : (Jvm.Cond.static ({ cls := "java/lang/String", name := "checkIndex", desc := "(II)V" } : Jvm.MethodName)) ∈ LW := LW_mem (mt_1 (List.mem_of_getElem? (i := 75) rfl)) rfl
theorem t1_76 : (Jvm.Cond.code ({ cls := "java/lang/String", name := "checkIndex", desc := "(II)V" } : Jvm.MethodName) prog_22_method_155_code (2 : Nat) (Option.none : Option Jvm.ClassFile.FieldType)) ∈ LW := LW_mem (mt_1 (List.mem_of_getElem? (i := 76) rfl)) rfl
theorem t1_77 : (Jvm.Cond.fieldLink "java/lang/String" (1053 : Nat) "jdk/internal/util/Preconditions" "SIOOBE_FORMATTER" "Ljava/util/function/BiFunction;") ∈ LW := LW_mem (mt_1 (List.mem_of_getElem? (i := 77) rfl)) rfl
theorem t1_79 : (Jvm.Cond.methodLink "java/lang/String" (1059 : Nat) ({ cls := "jdk/internal/util/Preconditions", name := "checkIndex", desc := "(IILjava/util/function/BiFunction;)I" } : Jvm.MethodName)) ∈ LW := LW_mem (mt_1 (List.mem_of_getElem? (i := 79) rfl)) rfl
theorem t1_80 : (Jvm.Cond.static ({ cls := "jdk/internal/util/Preconditions", name := "checkIndex", desc := "(IILjava/util/function/BiFunction;)I" } : Jvm.MethodName)) ∈ LW := LW_mem (mt_1 (List.mem_of_getElem? (i := 80) rfl)) rfl
theorem t1_81 : (Jvm.Cond.code ({ cls := "jdk/internal/util/Preconditions", name := "checkIndex", desc := "(IILjava/util/function/BiFunction;)I" } : Jvm.MethodName) prog_30_method_11_code (3 : Nat) (Option.some Jvm.ClassFile.FieldType.int)) ∈ LW := LW_mem (mt_1 (List.mem_of_getElem? (i := 81) rfl)) rfl
theorem t1_82 : (Jvm.Cond.methodLink "java/lang/String" (498 : Nat) ({ cls := "java/lang/StringUTF16", name := "charAt", desc := "([BI)C" } : Jvm.MethodName)) ∈ LW := LW_mem (mt_1 (List.mem_of_getElem? (i := 82) rfl)) rfl
theorem t1_83 : (Jvm.Cond.static ({ cls := "java/lang/StringUTF16", name := "charAt", desc := "([BI)C" } : Jvm.MethodName)) ∈ LW := LW_mem (mt_1 (List.mem_of_getElem? (i := 83) rfl)) rfl
theorem t1_84 : (Jvm.Cond.code ({ cls := "java/lang/StringUTF16", name := "charAt", desc := "([BI)C" } : Jvm.MethodName) prog_24_method_83_code (2 : Nat) (Option.some Jvm.ClassFile.FieldType.char)) ∈ LW := LW_mem (mt_1 (List.mem_of_getElem? (i := 84) rfl)) rfl
theorem t1_85 : (Jvm.Cond.methodLink "java/lang/StringUTF16" (67 : Nat) ({ cls := "java/lang/StringUTF16", name := "checkIndex", desc := "(I[B)V" } : Jvm.MethodName)) ∈ LW := LW_mem (mt_1 (List.mem_of_getElem? (i := 85) rfl)) rfl
theorem t1_86 : (Jvm.Cond.static ({ cls := "java/lang/StringUTF16", name := "checkIndex", desc := "(I[B)V" } : Jvm.MethodName)) ∈ LW := LW_mem (mt_1 (List.mem_of_getElem? (i := 86) rfl)) rfl
theorem t1_87 : (Jvm.Cond.code ({ cls := "java/lang/StringUTF16", name := "checkIndex", desc := "(I[B)V" } : Jvm.MethodName) prog_24_method_91_code (2 : Nat) (Option.none : Option Jvm.ClassFile.FieldType)) ∈ LW := LW_mem (mt_1 (List.mem_of_getElem? (i := 87) rfl)) rfl
theorem t1_88 : (Jvm.Cond.methodLink "java/lang/StringUTF16" (48 : Nat) ({ cls := "java/lang/StringUTF16", name := "length", desc := "([B)I" } : Jvm.MethodName)) ∈ LW := LW_mem (mt_1 (List.mem_of_getElem? (i := 88) rfl)) rfl
theorem t1_89 : (Jvm.Cond.static ({ cls := "java/lang/StringUTF16", name := "length", desc := "([B)I" } : Jvm.MethodName)) ∈ LW := LW_mem (mt_1 (List.mem_of_getElem? (i := 89) rfl)) rfl
theorem t1_90 : (Jvm.Cond.code ({ cls := "java/lang/StringUTF16", name := "length", desc := "([B)I" } : Jvm.MethodName) prog_24_method_6_code (1 : Nat) (Option.some Jvm.ClassFile.FieldType.int)) ∈ LW := LW_mem (mt_1 (List.mem_of_getElem? (i := 90) rfl)) rfl
theorem t1_91 : (Jvm.Cond.methodLink "java/lang/StringUTF16" (414 : Nat) ({ cls := "java/lang/String", name := "checkIndex", desc := "(II)V" } : Jvm.MethodName)) ∈ LW := LW_mem (mt_1 (List.mem_of_getElem? (i := 91) rfl)) rfl
theorem t1_92 : (Jvm.Cond.methodLink "java/lang/StringUTF16" (71 : Nat) ({ cls := "java/lang/StringUTF16", name := "getChar", desc := "([BI)C" } : Jvm.MethodName)) ∈ LW := LW_mem (mt_1 (List.mem_of_getElem? (i := 92) rfl)) rfl
theorem t1_93 : (Jvm.Cond.static ({ cls := "java/lang/StringUTF16", name := "getChar", desc := "([BI)C" } : Jvm.MethodName)) ∈ LW := LW_mem (mt_1 (List.mem_of_getElem? (i := 93) rfl)) rfl
theorem t1_94 : (Jvm.Cond.code ({ cls := "java/lang/StringUTF16", name := "getChar", desc := "([BI)C" } : Jvm.MethodName) prog_24_method_5_code (2 : Nat) (Option.some Jvm.ClassFile.FieldType.char)) ∈ LW := LW_mem (mt_1 (List.mem_of_getElem? (i := 94) rfl)) rfl
theorem t1_95 : (Jvm.Cond.fieldLink "java/lang/StringUTF16" (44 : Nat) "java/lang/StringUTF16" "$assertionsDisabled" "Z") ∈ LW := LW_mem (mt_1 (List.mem_of_getElem? (i := 95) rfl)) rfl
theorem t1_97 : (Jvm.Cond.fieldLink "java/lang/StringUTF16" (59 : Nat) "java/lang/StringUTF16" "HI_BYTE_SHIFT" "I") ∈ LW := LW_mem (mt_1 (List.mem_of_getElem? (i := 97) rfl)) rfl
theorem t1_99 : (Jvm.Cond.fieldLink "java/lang/StringUTF16" (63 : Nat) "java/lang/StringUTF16" "LO_BYTE_SHIFT" "I") ∈ LW := LW_mem (mt_1 (List.mem_of_getElem? (i := 99) rfl)) rfl
theorem t1_101 : (Jvm.Cond.methodLink "TrigramReaders" (94 : Nat) ({ cls := "TrigramReaders$Bytes", name := "append", desc := "(I)V" } : Jvm.MethodName)) ∈ LW := LW_mem (mt_1 (List.mem_of_getElem? (i := 101) rfl)) rfl
theorem t1_102 : (Jvm.Cond.instanceMethod ({ cls := "TrigramReaders$Bytes", name := "append", desc := "(I)V" } : Jvm.MethodName)) ∈ LW := LW_mem (mt_1 (List.mem_of_getElem? (i := 102) rfl)) rfl
theorem t1_103 : (Jvm.Cond.selects "TrigramReaders$Bytes" ({ cls := "TrigramReaders$Bytes", name := "append", desc := "(I)V" } : Jvm.MethodName) ({ cls := "TrigramReaders$Bytes", name := "append", desc := "(I)V" } : Jvm.MethodName)) ∈ LW := LW_mem (mt_1 (List.mem_of_getElem? (i := 103) rfl)) rfl
theorem t1_104 : (Jvm.Cond.code ({ cls := "TrigramReaders$Bytes", name := "append", desc := "(I)V" } : Jvm.MethodName) prog_2_method_3_code (2 : Nat) (Option.none : Option Jvm.ClassFile.FieldType)) ∈ LW := LW_mem (mt_1 (List.mem_of_getElem? (i := 104) rfl)) rfl
theorem t1_105 : (Jvm.Cond.classLink "TrigramReaders" (17 : Nat) "TrigramReaders$State") ∈ LW := LW_mem (mt_1 (List.mem_of_getElem? (i := 105) rfl)) rfl
theorem t1_106 : (Jvm.Cond.instantiable "TrigramReaders$State" (5 : Nat)) ∈ LW := LW_mem (mt_1 (List.mem_of_getElem? (i := 106) rfl)) rfl
theorem t1_107 : (Jvm.Cond.methodLink "TrigramReaders" (19 : Nat) ({ cls := "TrigramReaders$State", name := "<init>", desc := "()V" } : Jvm.MethodName)) ∈ LW := LW_mem (mt_1 (List.mem_of_getElem? (i := 107) rfl)) rfl
theorem t1_108 : (Jvm.Cond.instanceMethod ({ cls := "TrigramReaders$State", name := "<init>", desc := "()V" } : Jvm.MethodName)) ∈ LW := LW_mem (mt_1 (List.mem_of_getElem? (i := 108) rfl)) rfl
theorem t1_109 : (Jvm.Cond.code ({ cls := "TrigramReaders$State", name := "<init>", desc := "()V" } : Jvm.MethodName) prog_9_method_1_code (2 : Nat) (Option.none : Option Jvm.ClassFile.FieldType)) ∈ LW := LW_mem (mt_1 (List.mem_of_getElem? (i := 109) rfl)) rfl
theorem t1_110 : (Jvm.Cond.methodLink "TrigramReaders$State" (3 : Nat) ({ cls := "java/lang/Object", name := "<init>", desc := "()V" } : Jvm.MethodName)) ∈ LW := LW_mem (mt_1 (List.mem_of_getElem? (i := 110) rfl)) rfl
theorem t1_111 : (Jvm.Cond.classLink "TrigramReaders$State" (9 : Nat) "TrigramReaders$Reader") ∈ LW := LW_mem (mt_1 (List.mem_of_getElem? (i := 111) rfl)) rfl
theorem t1_113 : (Jvm.Cond.classLink "TrigramReaders$State" (21 : Nat) "TrigramReaders$Document") ∈ LW := LW_mem (mt_1 (List.mem_of_getElem? (i := 113) rfl)) rfl
theorem t1_115 : (Jvm.Cond.instantiable "TrigramReaders$Reader" (6 : Nat)) ∈ LW := LW_mem (mt_1 (List.mem_of_getElem? (i := 115) rfl)) rfl
theorem t1_117 : (Jvm.Cond.instanceMethod ({ cls := "TrigramReaders$Reader", name := "<init>", desc := "()V" } : Jvm.MethodName)) ∈ LW := LW_mem (mt_1 (List.mem_of_getElem? (i := 117) rfl)) rfl
theorem t1_118 : (Jvm.Cond.code ({ cls := "TrigramReaders$Reader", name := "<init>", desc := "()V" } : Jvm.MethodName) prog_8_method_1_code (1 : Nat) (Option.none : Option Jvm.ClassFile.FieldType)) ∈ LW := LW_mem (mt_1 (List.mem_of_getElem? (i := 118) rfl)) rfl
theorem t1_119 : (Jvm.Cond.methodLink "TrigramReaders$Reader" (3 : Nat) ({ cls := "java/lang/Object", name := "<init>", desc := "()V" } : Jvm.MethodName)) ∈ LW := LW_mem (mt_1 (List.mem_of_getElem? (i := 119) rfl)) rfl
theorem t1_120 : (Jvm.Cond.classLink "TrigramReaders$Reader" (22 : Nat) "TrigramReaders$Counts") ∈ LW := LW_mem (mt_1 (List.mem_of_getElem? (i := 120) rfl)) rfl
theorem t1_121 : (Jvm.Cond.instantiable "TrigramReaders$Counts" (3 : Nat)) ∈ LW := LW_mem (mt_1 (List.mem_of_getElem? (i := 121) rfl)) rfl
theorem t1_123 : (Jvm.Cond.instanceMethod ({ cls := "TrigramReaders$Counts", name := "<init>", desc := "()V" } : Jvm.MethodName)) ∈ LW := LW_mem (mt_1 (List.mem_of_getElem? (i := 123) rfl)) rfl
theorem t1_124 : (Jvm.Cond.code ({ cls := "TrigramReaders$Counts", name := "<init>", desc := "()V" } : Jvm.MethodName) prog_4_method_1_code (1 : Nat) (Option.none : Option Jvm.ClassFile.FieldType)) ∈ LW := LW_mem (mt_1 (List.mem_of_getElem? (i := 124) rfl)) rfl
theorem t1_125 : (Jvm.Cond.methodLink "TrigramReaders$Counts" (3 : Nat) ({ cls := "java/lang/Object", name := "<init>", desc := "()V" } : Jvm.MethodName)) ∈ LW := LW_mem (mt_1 (List.mem_of_getElem? (i := 125) rfl)) rfl
theorem t1_126 : (Jvm.Cond.fieldLink "TrigramReaders$Counts" (9 : Nat) "TrigramReaders$Counts" "keys" "[I") ∈ LW := LW_mem (mt_1 (List.mem_of_getElem? (i := 126) rfl)) rfl
theorem t1_127 : (Jvm.Cond.fieldLink "TrigramReaders$Ranking" (48 : Nat) "TrigramReaders$Counts" "keys" "[I") ∈ LW := LW_mem (mt_1 (List.mem_of_getElem? (i := 127) rfl)) rfl
theorem t1_128 : (Jvm.Cond.fieldLink "TrigramReaders$Chance" (63 : Nat) "TrigramReaders$Counts" "keys" "[I") ∈ LW := LW_mem (mt_1 (List.mem_of_getElem? (i := 128) rfl)) rfl
theorem t1_129 : (Jvm.Cond.fieldLink "TrigramReaders$Counts" (15 : Nat) "TrigramReaders$Counts" "values" "[I") ∈ LW := LW_mem (mt_1 (List.mem_of_getElem? (i := 129) rfl)) rfl
theorem t1_130 : (Jvm.Cond.fieldLink "TrigramReaders$Ranking" (51 : Nat) "TrigramReaders$Counts" "values" "[I") ∈ LW := LW_mem (mt_1 (List.mem_of_getElem? (i := 130) rfl)) rfl
theorem t1_131 : (Jvm.Cond.fieldLink "TrigramReaders$Chance" (67 : Nat) "TrigramReaders$Counts" "values" "[I") ∈ LW := LW_mem (mt_1 (List.mem_of_getElem? (i := 131) rfl)) rfl
theorem t1_132 : (Jvm.Cond.fieldLink "TrigramReaders$Counts" (18 : Nat) "TrigramReaders$Counts" "size" "I") ∈ LW := LW_mem (mt_1 (List.mem_of_getElem? (i := 132) rfl)) rfl
theorem t1_133 : (Jvm.Cond.fieldLink "TrigramReaders$Ranking" (47 : Nat) "TrigramReaders$Counts" "size" "I") ∈ LW := LW_mem (mt_1 (List.mem_of_getElem? (i := 133) rfl)) rfl
theorem t1_134 : (Jvm.Cond.fieldLink "TrigramReaders$Chance" (60 : Nat) "TrigramReaders$Counts" "size" "I") ∈ LW := LW_mem (mt_1 (List.mem_of_getElem? (i := 134) rfl)) rfl
theorem t1_135 : (Jvm.Cond.fieldLink "TrigramReaders$Reader" (54 : Nat) "TrigramReaders$Counts" "size" "I") ∈ LW := LW_mem (mt_1 (List.mem_of_getElem? (i := 135) rfl)) rfl
theorem t1_136 : (Jvm.Cond.fieldLink "TrigramReaders" (215 : Nat) "TrigramReaders$Counts" "size" "I") ∈ LW := LW_mem (mt_1 (List.mem_of_getElem? (i := 136) rfl)) rfl
theorem t1_137 : (Jvm.Cond.laysFinal "TrigramReaders$Counts" "TrigramReaders$Counts" "keys" "[I") ∈ LW := LW_mem (mt_1 (List.mem_of_getElem? (i := 137) rfl)) rfl
theorem t1_139 : (Jvm.Cond.laysFinal "TrigramReaders$Counts" "TrigramReaders$Counts" "values" "[I") ∈ LW := LW_mem (mt_1 (List.mem_of_getElem? (i := 139) rfl)) rfl
theorem t1_141 : (Jvm.Cond.lays "TrigramReaders$Counts" "TrigramReaders$Counts" "size" "I") ∈ LW := LW_mem (mt_1 (List.mem_of_getElem? (i := 141) rfl)) rfl
theorem t1_144 : (Jvm.Cond.arrayClass Jvm.ClassFile.FieldType.byte) ∈ LW := LW_mem (mt_1 (List.mem_of_getElem? (i := 144) rfl)) rfl
theorem t1_145 : (Jvm.Cond.fieldLink "TrigramReaders$Reader" (9 : Nat) "TrigramReaders$Reader" "name" "[I") ∈ LW := LW_mem (mt_1 (List.mem_of_getElem? (i := 145) rfl)) rfl
theorem t1_146 : (Jvm.Cond.fieldLink "TrigramReaders$Reader" (15 : Nat) "TrigramReaders$Reader" "nameLength" "I") ∈ LW := LW_mem (mt_1 (List.mem_of_getElem? (i := 146) rfl)) rfl
theorem t1_147 : (Jvm.Cond.fieldLink "TrigramReaders$Reader" (19 : Nat) "TrigramReaders$Reader" "method" "I") ∈ LW := LW_mem (mt_1 (List.mem_of_getElem? (i := 147) rfl)) rfl
theorem t1_148 : (Jvm.Cond.fieldLink "TrigramReaders$Chance" (35 : Nat) "TrigramReaders$Reader" "method" "I") ∈ LW := LW_mem (mt_1 (List.mem_of_getElem? (i := 148) rfl)) rfl
theorem t1_149 : (Jvm.Cond.fieldLink "TrigramReaders" (164 : Nat) "TrigramReaders$Reader" "method" "I") ∈ LW := LW_mem (mt_1 (List.mem_of_getElem? (i := 149) rfl)) rfl
theorem t1_150 : (Jvm.Cond.fieldLink "TrigramReaders$Reader" (25 : Nat) "TrigramReaders$Reader" "counts" "LTrigramReaders$Counts;") ∈ LW := LW_mem (mt_1 (List.mem_of_getElem? (i := 150) rfl)) rfl
theorem t1_151 : (Jvm.Cond.fieldLink "TrigramReaders$Chance" (29 : Nat) "TrigramReaders$Reader" "counts" "LTrigramReaders$Counts;") ∈ LW := LW_mem (mt_1 (List.mem_of_getElem? (i := 151) rfl)) rfl
theorem t1_152 : (Jvm.Cond.fieldLink "TrigramReaders$Parser" (110 : Nat) "TrigramReaders$Reader" "counts" "LTrigramReaders$Counts;") ∈ LW := LW_mem (mt_1 (List.mem_of_getElem? (i := 152) rfl)) rfl
theorem t1_153 : (Jvm.Cond.fieldLink "TrigramReaders$State" (53 : Nat) "TrigramReaders$Reader" "counts" "LTrigramReaders$Counts;") ∈ LW := LW_mem (mt_1 (List.mem_of_getElem? (i := 153) rfl)) rfl
theorem t1_154 : (Jvm.Cond.fieldLink "TrigramReaders" (188 : Nat) "TrigramReaders$Reader" "counts" "LTrigramReaders$Counts;") ∈ LW := LW_mem (mt_1 (List.mem_of_getElem? (i := 154) rfl)) rfl
theorem t1_155 : (Jvm.Cond.fieldLink "TrigramReaders$Reader" (29 : Nat) "TrigramReaders$Reader" "symbolsTrained" "I") ∈ LW := LW_mem (mt_1 (List.mem_of_getElem? (i := 155) rfl)) rfl
theorem t1_156 : (Jvm.Cond.fieldLink "TrigramReaders" (221 : Nat) "TrigramReaders$Reader" "symbolsTrained" "I") ∈ LW := LW_mem (mt_1 (List.mem_of_getElem? (i := 156) rfl)) rfl
theorem t1_157 : (Jvm.Cond.fieldLink "TrigramReaders$Reader" (32 : Nat) "TrigramReaders$Reader" "trainings" "[I") ∈ LW := LW_mem (mt_1 (List.mem_of_getElem? (i := 157) rfl)) rfl
theorem t1_158 : (Jvm.Cond.laysFinal "TrigramReaders$Reader" "TrigramReaders$Reader" "name" "[I") ∈ LW := LW_mem (mt_1 (List.mem_of_getElem? (i := 158) rfl)) rfl
theorem t1_160 : (Jvm.Cond.lays "TrigramReaders$Reader" "TrigramReaders$Reader" "nameLength" "I") ∈ LW := LW_mem (mt_1 (List.mem_of_getElem? (i := 160) rfl)) rfl
theorem t1_162 : (Jvm.Cond.lays "TrigramReaders$Reader" "TrigramReaders$Reader" "method" "I") ∈ LW := LW_mem (mt_1 (List.mem_of_getElem? (i := 162) rfl)) rfl
theorem t1_164 : (Jvm.Cond.laysFinal "TrigramReaders$Reader" "TrigramReaders$Reader" "counts" "LTrigramReaders$Counts;") ∈ LW := LW_mem (mt_1 (List.mem_of_getElem? (i := 164) rfl)) rfl
theorem t1_166 : (Jvm.Cond.lays "TrigramReaders$Reader" "TrigramReaders$Reader" "symbolsTrained" "I") ∈ LW := LW_mem (mt_1 (List.mem_of_getElem? (i := 166) rfl)) rfl
theorem t1_168 : (Jvm.Cond.laysFinal "TrigramReaders$Reader" "TrigramReaders$Reader" "trainings" "[I") ∈ LW := LW_mem (mt_1 (List.mem_of_getElem? (i := 168) rfl)) rfl
theorem t1_171 : (Jvm.Cond.instantiable "TrigramReaders$Document" (3 : Nat)) ∈ LW := LW_mem (mt_1 (List.mem_of_getElem? (i := 171) rfl)) rfl
theorem t1_173 : (Jvm.Cond.instanceMethod ({ cls := "TrigramReaders$Document", name := "<init>", desc := "()V" } : Jvm.MethodName)) ∈ LW := LW_mem (mt_1 (List.mem_of_getElem? (i := 173) rfl)) rfl
theorem t1_174 : (Jvm.Cond.code ({ cls := "TrigramReaders$Document", name := "<init>", desc := "()V" } : Jvm.MethodName) prog_5_method_1_code (1 : Nat) (Option.none : Option Jvm.ClassFile.FieldType)) ∈ LW := LW_mem (mt_1 (List.mem_of_getElem? (i := 174) rfl)) rfl
theorem t1_175 : (Jvm.Cond.methodLink "TrigramReaders$Document" (3 : Nat) ({ cls := "java/lang/Object", name := "<init>", desc := "()V" } : Jvm.MethodName)) ∈ LW := LW_mem (mt_1 (List.mem_of_getElem? (i := 175) rfl)) rfl
theorem t1_176 : (Jvm.Cond.fieldLink "TrigramReaders$Document" (9 : Nat) "TrigramReaders$Document" "symbols" "[I") ∈ LW := LW_mem (mt_1 (List.mem_of_getElem? (i := 176) rfl)) rfl
theorem t1_177 : (Jvm.Cond.fieldLink "TrigramReaders$Document" (15 : Nat) "TrigramReaders$Document" "length" "I") ∈ LW := LW_mem (mt_1 (List.mem_of_getElem? (i := 177) rfl)) rfl
theorem t1_178 : (Jvm.Cond.fieldLink "TrigramReaders$Parser" (122 : Nat) "TrigramReaders$Document" "length" "I") ∈ LW := LW_mem (mt_1 (List.mem_of_getElem? (i := 178) rfl)) rfl
theorem t1_179 : (Jvm.Cond.fieldLink "TrigramReaders$Counts" (54 : Nat) "TrigramReaders$Document" "length" "I") ∈ LW := LW_mem (mt_1 (List.mem_of_getElem? (i := 179) rfl)) rfl
theorem t1_180 : (Jvm.Cond.fieldLink "TrigramReaders" (174 : Nat) "TrigramReaders$Document" "length" "I") ∈ LW := LW_mem (mt_1 (List.mem_of_getElem? (i := 180) rfl)) rfl
theorem t1_181 : (Jvm.Cond.fieldLink "TrigramReaders$Document" (19 : Nat) "TrigramReaders$Document" "yearAdded" "I") ∈ LW := LW_mem (mt_1 (List.mem_of_getElem? (i := 181) rfl)) rfl
theorem t1_182 : (Jvm.Cond.fieldLink "TrigramReaders" (182 : Nat) "TrigramReaders$Document" "yearAdded" "I") ∈ LW := LW_mem (mt_1 (List.mem_of_getElem? (i := 182) rfl)) rfl
theorem t1_183 : (Jvm.Cond.laysFinal "TrigramReaders$Document" "TrigramReaders$Document" "symbols" "[I") ∈ LW := LW_mem (mt_1 (List.mem_of_getElem? (i := 183) rfl)) rfl
theorem t1_185 : (Jvm.Cond.lays "TrigramReaders$Document" "TrigramReaders$Document" "length" "I") ∈ LW := LW_mem (mt_1 (List.mem_of_getElem? (i := 185) rfl)) rfl
theorem t1_187 : (Jvm.Cond.lays "TrigramReaders$Document" "TrigramReaders$Document" "yearAdded" "I") ∈ LW := LW_mem (mt_1 (List.mem_of_getElem? (i := 187) rfl)) rfl
theorem t1_190 : (Jvm.Cond.fieldLink "TrigramReaders$State" (11 : Nat) "TrigramReaders$State" "readers" "[LTrigramReaders$Reader;") ∈ LW := LW_mem (mt_1 (List.mem_of_getElem? (i := 190) rfl)) rfl
theorem t1_191 : (Jvm.Cond.fieldLink "TrigramReaders$State" (17 : Nat) "TrigramReaders$State" "readersUsed" "I") ∈ LW := LW_mem (mt_1 (List.mem_of_getElem? (i := 191) rfl)) rfl
theorem t1_192 : (Jvm.Cond.fieldLink "TrigramReaders$Parser" (67 : Nat) "TrigramReaders$State" "readersUsed" "I") ∈ LW := LW_mem (mt_1 (List.mem_of_getElem? (i := 192) rfl)) rfl
theorem t1_193 : (Jvm.Cond.fieldLink "TrigramReaders" (143 : Nat) "TrigramReaders$State" "readersUsed" "I") ∈ LW := LW_mem (mt_1 (List.mem_of_getElem? (i := 193) rfl)) rfl
theorem t1_194 : (Jvm.Cond.fieldLink "TrigramReaders$State" (23 : Nat) "TrigramReaders$State" "documents" "[LTrigramReaders$Document;") ∈ LW := LW_mem (mt_1 (List.mem_of_getElem? (i := 194) rfl)) rfl
theorem t1_195 : (Jvm.Cond.fieldLink "TrigramReaders$State" (27 : Nat) "TrigramReaders$State" "documentsUsed" "I") ∈ LW := LW_mem (mt_1 (List.mem_of_getElem? (i := 195) rfl)) rfl
theorem t1_196 : (Jvm.Cond.fieldLink "TrigramReaders$Parser" (93 : Nat) "TrigramReaders$State" "documentsUsed" "I") ∈ LW := LW_mem (mt_1 (List.mem_of_getElem? (i := 196) rfl)) rfl
theorem t1_197 : (Jvm.Cond.fieldLink "TrigramReaders" (167 : Nat) "TrigramReaders$State" "documentsUsed" "I") ∈ LW := LW_mem (mt_1 (List.mem_of_getElem? (i := 197) rfl)) rfl
theorem t1_198 : (Jvm.Cond.fieldLink "TrigramReaders$State" (30 : Nat) "TrigramReaders$State" "currentYear" "I") ∈ LW := LW_mem (mt_1 (List.mem_of_getElem? (i := 198) rfl)) rfl
theorem t1_199 : (Jvm.Cond.fieldLink "TrigramReaders" (146 : Nat) "TrigramReaders$State" "currentYear" "I") ∈ LW := LW_mem (mt_1 (List.mem_of_getElem? (i := 199) rfl)) rfl
theorem t1_200 : (Jvm.Cond.laysFinal "TrigramReaders$State" "TrigramReaders$State" "readers" "[LTrigramReaders$Reader;") ∈ LW := LW_mem (mt_1 (List.mem_of_getElem? (i := 200) rfl)) rfl
theorem t1_202 : (Jvm.Cond.lays "TrigramReaders$State" "TrigramReaders$State" "readersUsed" "I") ∈ LW := LW_mem (mt_1 (List.mem_of_getElem? (i := 202) rfl)) rfl
theorem t1_204 : (Jvm.Cond.laysFinal "TrigramReaders$State" "TrigramReaders$State" "documents" "[LTrigramReaders$Document;") ∈ LW := LW_mem (mt_1 (List.mem_of_getElem? (i := 204) rfl)) rfl
theorem t1_206 : (Jvm.Cond.lays "TrigramReaders$State" "TrigramReaders$State" "documentsUsed" "I") ∈ LW := LW_mem (mt_1 (List.mem_of_getElem? (i := 206) rfl)) rfl
theorem t1_208 : (Jvm.Cond.lays "TrigramReaders$State" "TrigramReaders$State" "currentYear" "I") ∈ LW := LW_mem (mt_1 (List.mem_of_getElem? (i := 208) rfl)) rfl
theorem t1_211 : (Jvm.Cond.classLink "TrigramReaders" (98 : Nat) "TrigramReaders$Parser") ∈ LW := LW_mem (mt_1 (List.mem_of_getElem? (i := 211) rfl)) rfl
theorem t1_212 : (Jvm.Cond.instantiable "TrigramReaders$Parser" (7 : Nat)) ∈ LW := LW_mem (mt_1 (List.mem_of_getElem? (i := 212) rfl)) rfl
theorem t1_213 : (Jvm.Cond.methodLink "TrigramReaders" (100 : Nat) ({ cls := "TrigramReaders$Parser", name := "<init>", desc := "(LTrigramReaders$Bytes;LTrigramReaders$State;)V" } : Jvm.MethodName)) ∈ LW := LW_mem (mt_1 (List.mem_of_getElem? (i := 213) rfl)) rfl
theorem t1_214 : (Jvm.Cond.instanceMethod ({ cls := "TrigramReaders$Parser", name := "<init>", desc := "(LTrigramReaders$Bytes;LTrigramReaders$State;)V" } : Jvm.MethodName)) ∈ LW := LW_mem (mt_1 (List.mem_of_getElem? (i := 214) rfl)) rfl
theorem t1_215 : (Jvm.Cond.code ({ cls := "TrigramReaders$Parser", name := "<init>", desc := "(LTrigramReaders$Bytes;LTrigramReaders$State;)V" } : Jvm.MethodName) prog_6_method_1_code (3 : Nat) (Option.none : Option Jvm.ClassFile.FieldType)) ∈ LW := LW_mem (mt_1 (List.mem_of_getElem? (i := 215) rfl)) rfl
theorem t1_216 : (Jvm.Cond.methodLink "TrigramReaders$Parser" (3 : Nat) ({ cls := "java/lang/Object", name := "<init>", desc := "()V" } : Jvm.MethodName)) ∈ LW := LW_mem (mt_1 (List.mem_of_getElem? (i := 216) rfl)) rfl
theorem t1_217 : (Jvm.Cond.fieldLink "TrigramReaders$Parser" (27 : Nat) "TrigramReaders$Parser" "text" "LTrigramReaders$Bytes;") ∈ LW := LW_mem (mt_1 (List.mem_of_getElem? (i := 217) rfl)) rfl
theorem t1_218 : (Jvm.Cond.fieldLink "TrigramReaders$Parser" (31 : Nat) "TrigramReaders$Parser" "target" "LTrigramReaders$State;") ∈ LW := LW_mem (mt_1 (List.mem_of_getElem? (i := 218) rfl)) rfl
theorem t1_219 : (Jvm.Cond.fieldLink "TrigramReaders$Parser" (11 : Nat) "TrigramReaders$Parser" "kind" "I") ∈ LW := LW_mem (mt_1 (List.mem_of_getElem? (i := 219) rfl)) rfl
theorem t1_220 : (Jvm.Cond.fieldLink "TrigramReaders$Parser" (15 : Nat) "TrigramReaders$Parser" "tokenStart" "I") ∈ LW := LW_mem (mt_1 (List.mem_of_getElem? (i := 220) rfl)) rfl
theorem t1_221 : (Jvm.Cond.fieldLink "TrigramReaders$Parser" (18 : Nat) "TrigramReaders$Parser" "tokenEnd" "I") ∈ LW := LW_mem (mt_1 (List.mem_of_getElem? (i := 221) rfl)) rfl
theorem t1_222 : (Jvm.Cond.fieldLink "TrigramReaders$Parser" (21 : Nat) "TrigramReaders$Parser" "errorCode" "I") ∈ LW := LW_mem (mt_1 (List.mem_of_getElem? (i := 222) rfl)) rfl
theorem t1_223 : (Jvm.Cond.fieldLink "TrigramReaders" (128 : Nat) "TrigramReaders$Parser" "errorCode" "I") ∈ LW := LW_mem (mt_1 (List.mem_of_getElem? (i := 223) rfl)) rfl
theorem t1_224 : (Jvm.Cond.fieldLink "TrigramReaders$Parser" (24 : Nat) "TrigramReaders$Parser" "errorPosition" "I") ∈ LW := LW_mem (mt_1 (List.mem_of_getElem? (i := 224) rfl)) rfl
theorem t1_225 : (Jvm.Cond.fieldLink "TrigramReaders" (131 : Nat) "TrigramReaders$Parser" "errorPosition" "I") ∈ LW := LW_mem (mt_1 (List.mem_of_getElem? (i := 225) rfl)) rfl
theorem t1_226 : (Jvm.Cond.laysFinal "TrigramReaders$Parser" "TrigramReaders$Parser" "text" "LTrigramReaders$Bytes;") ∈ LW := LW_mem (mt_1 (List.mem_of_getElem? (i := 226) rfl)) rfl
theorem t1_228 : (Jvm.Cond.laysFinal "TrigramReaders$Parser" "TrigramReaders$Parser" "target" "LTrigramReaders$State;") ∈ LW := LW_mem (mt_1 (List.mem_of_getElem? (i := 228) rfl)) rfl
theorem t1_230 : (Jvm.Cond.lays "TrigramReaders$Parser" "TrigramReaders$Parser" "kind" "I") ∈ LW := LW_mem (mt_1 (List.mem_of_getElem? (i := 230) rfl)) rfl
theorem t1_232 : (Jvm.Cond.lays "TrigramReaders$Parser" "TrigramReaders$Parser" "tokenStart" "I") ∈ LW := LW_mem (mt_1 (List.mem_of_getElem? (i := 232) rfl)) rfl
theorem t1_234 : (Jvm.Cond.lays "TrigramReaders$Parser" "TrigramReaders$Parser" "tokenEnd" "I") ∈ LW := LW_mem (mt_1 (List.mem_of_getElem? (i := 234) rfl)) rfl
theorem t1_236 : (Jvm.Cond.lays "TrigramReaders$Parser" "TrigramReaders$Parser" "errorCode" "I") ∈ LW := LW_mem (mt_1 (List.mem_of_getElem? (i := 236) rfl)) rfl
theorem t1_238 : (Jvm.Cond.lays "TrigramReaders$Parser" "TrigramReaders$Parser" "errorPosition" "I") ∈ LW := LW_mem (mt_1 (List.mem_of_getElem? (i := 238) rfl)) rfl
theorem t2_1 : (Jvm.Cond.methodLink "TrigramReaders" (103 : Nat) ({ cls := "TrigramReaders$Parser", name := "parseAll", desc := "()Z" } : Jvm.MethodName)) ∈ LW := LW_mem (mt_2 (List.mem_of_getElem? (i := 1) rfl)) rfl
theorem t2_2 : (Jvm.Cond.instanceMethod ({ cls := "TrigramReaders$Parser", name := "parseAll", desc := "()Z" } : Jvm.MethodName)) ∈ LW := LW_mem (mt_2 (List.mem_of_getElem? (i := 2) rfl)) rfl
theorem t2_3 : (Jvm.Cond.selects "TrigramReaders$Parser" ({ cls := "TrigramReaders$Parser", name := "parseAll", desc := "()Z" } : Jvm.MethodName) ({ cls := "TrigramReaders$Parser", name := "parseAll", desc := "()Z" } : Jvm.MethodName)) ∈ LW := LW_mem (mt_2 (List.mem_of_getElem? (i := 3) rfl)) rfl
theorem t2_4 : (Jvm.Cond.code ({ cls := "TrigramReaders$Parser", name := "parseAll", desc := "()Z" } : Jvm.MethodName) prog_6_method_2_code (3 : Nat) (Option.some Jvm.ClassFile.FieldType.boolean)) ∈ LW := LW_mem (mt_2 (List.mem_of_getElem? (i := 4) rfl)) rfl
theorem t2_5 : (Jvm.Cond.methodLink "TrigramReaders$Parser" (35 : Nat) ({ cls := "TrigramReaders$Parser", name := "next", desc := "()V" } : Jvm.MethodName)) ∈ LW := LW_mem (mt_2 (List.mem_of_getElem? (i := 5) rfl)) rfl
theorem t2_7 : (Jvm.Cond.instanceMethod ({ cls := "TrigramReaders$Parser", name := "next", desc := "()V" } : Jvm.MethodName)) ∈ LW := LW_mem (mt_2 (List.mem_of_getElem? (i := 7) rfl)) rfl
theorem t2_8 : (Jvm.Cond.code ({ cls := "TrigramReaders$Parser", name := "next", desc := "()V" } : Jvm.MethodName) prog_6_method_9_code (2 : Nat) (Option.none : Option Jvm.ClassFile.FieldType)) ∈ LW := LW_mem (mt_2 (List.mem_of_getElem? (i := 8) rfl)) rfl
theorem t2_9 : (Jvm.Cond.methodLink "TrigramReaders$Parser" (134 : Nat) ({ cls := "TrigramReaders$Bytes", name := "at", desc := "(I)I" } : Jvm.MethodName)) ∈ LW := LW_mem (mt_2 (List.mem_of_getElem? (i := 9) rfl)) rfl
theorem t2_10 : (Jvm.Cond.instanceMethod ({ cls := "TrigramReaders$Bytes", name := "at", desc := "(I)I" } : Jvm.MethodName)) ∈ LW := LW_mem (mt_2 (List.mem_of_getElem? (i := 10) rfl)) rfl
theorem t2_11 : (Jvm.Cond.selects "TrigramReaders$Bytes" ({ cls := "TrigramReaders$Bytes", name := "at", desc := "(I)I" } : Jvm.MethodName) ({ cls := "TrigramReaders$Bytes", name := "at", desc := "(I)I" } : Jvm.MethodName)) ∈ LW := LW_mem (mt_2 (List.mem_of_getElem? (i := 11) rfl)) rfl
theorem t2_12 : (Jvm.Cond.code ({ cls := "TrigramReaders$Bytes", name := "at", desc := "(I)I" } : Jvm.MethodName) prog_2_method_6_code (2 : Nat) (Option.some Jvm.ClassFile.FieldType.int)) ∈ LW := LW_mem (mt_2 (List.mem_of_getElem? (i := 12) rfl)) rfl
theorem t2_13 : (Jvm.Cond.methodLink "TrigramReaders$Parser" (139 : Nat) ({ cls := "TrigramReaders$Parser", name := "isBlank", desc := "(I)Z" } : Jvm.MethodName)) ∈ LW := LW_mem (mt_2 (List.mem_of_getElem? (i := 13) rfl)) rfl
theorem t2_14 : (Jvm.Cond.static ({ cls := "TrigramReaders$Parser", name := "isBlank", desc := "(I)Z" } : Jvm.MethodName)) ∈ LW := LW_mem (mt_2 (List.mem_of_getElem? (i := 14) rfl)) rfl
theorem t2_15 : (Jvm.Cond.code ({ cls := "TrigramReaders$Parser", name := "isBlank", desc := "(I)Z" } : Jvm.MethodName) prog_6_method_10_code (1 : Nat) (Option.some Jvm.ClassFile.FieldType.boolean)) ∈ LW := LW_mem (mt_2 (List.mem_of_getElem? (i := 15) rfl)) rfl
theorem t2_16 : (Jvm.Cond.methodLink "TrigramReaders$Parser" (142 : Nat) ({ cls := "TrigramReaders$Parser", name := "kindOf", desc := "(I)I" } : Jvm.MethodName)) ∈ LW := LW_mem (mt_2 (List.mem_of_getElem? (i := 16) rfl)) rfl
theorem t2_17 : (Jvm.Cond.static ({ cls := "TrigramReaders$Parser", name := "kindOf", desc := "(I)I" } : Jvm.MethodName)) ∈ LW := LW_mem (mt_2 (List.mem_of_getElem? (i := 17) rfl)) rfl
theorem t2_18 : (Jvm.Cond.code ({ cls := "TrigramReaders$Parser", name := "kindOf", desc := "(I)I" } : Jvm.MethodName) prog_6_method_11_code (1 : Nat) (Option.some Jvm.ClassFile.FieldType.int)) ∈ LW := LW_mem (mt_2 (List.mem_of_getElem? (i := 18) rfl)) rfl
theorem t2_20 : (Jvm.Cond.static ({ cls := "TrigramReaders", name := "isLetter", desc := "(I)Z" } : Jvm.MethodName)) ∈ LW := LW_mem (mt_2 (List.mem_of_getElem? (i := 20) rfl)) rfl
theorem t2_21 : (Jvm.Cond.code ({ cls := "TrigramReaders", name := "isLetter", desc := "(I)Z" } : Jvm.MethodName) prog_1_method_87_code (1 : Nat) (Option.some Jvm.ClassFile.FieldType.boolean)) ∈ LW := LW_mem (mt_2 (List.mem_of_getElem? (i := 21) rfl)) rfl
theorem t2_23 : (Jvm.Cond.static ({ cls := "TrigramReaders", name := "isDigit", desc := "(I)Z" } : Jvm.MethodName)) ∈ LW := LW_mem (mt_2 (List.mem_of_getElem? (i := 23) rfl)) rfl
theorem t2_24 : (Jvm.Cond.code ({ cls := "TrigramReaders", name := "isDigit", desc := "(I)Z" } : Jvm.MethodName) prog_1_method_86_code (1 : Nat) (Option.some Jvm.ClassFile.FieldType.boolean)) ∈ LW := LW_mem (mt_2 (List.mem_of_getElem? (i := 24) rfl)) rfl
theorem t2_26 : (Jvm.Cond.methodLink "TrigramReaders$Parser" (40 : Nat) ({ cls := "TrigramReaders$Parser", name := "isWord", desc := "(Ljava/lang/String;)Z" } : Jvm.MethodName)) ∈ LW := LW_mem (mt_2 (List.mem_of_getElem? (i := 26) rfl)) rfl
theorem t2_28 : (Jvm.Cond.instanceMethod ({ cls := "TrigramReaders$Parser", name := "isWord", desc := "(Ljava/lang/String;)Z" } : Jvm.MethodName)) ∈ LW := LW_mem (mt_2 (List.mem_of_getElem? (i := 28) rfl)) rfl
theorem t2_29 : (Jvm.Cond.code ({ cls := "TrigramReaders$Parser", name := "isWord", desc := "(Ljava/lang/String;)Z" } : Jvm.MethodName) prog_6_method_12_code (4 : Nat) (Option.some Jvm.ClassFile.FieldType.boolean)) ∈ LW := LW_mem (mt_2 (List.mem_of_getElem? (i := 29) rfl)) rfl
theorem t2_30 : (Jvm.Cond.methodLink "TrigramReaders$Parser" (151 : Nat) ({ cls := "java/lang/String", name := "length", desc := "()I" } : Jvm.MethodName)) ∈ LW := LW_mem (mt_2 (List.mem_of_getElem? (i := 30) rfl)) rfl
theorem t2_31 : (Jvm.Cond.methodLink "TrigramReaders$Parser" (155 : Nat) ({ cls := "java/lang/String", name := "charAt", desc := "(I)C" } : Jvm.MethodName)) ∈ LW := LW_mem (mt_2 (List.mem_of_getElem? (i := 31) rfl)) rfl
theorem t2_32 : (Jvm.Cond.methodLink "TrigramReaders$Parser" (44 : Nat) ({ cls := "TrigramReaders$Parser", name := "parseReader", desc := "()Z" } : Jvm.MethodName)) ∈ LW := LW_mem (mt_2 (List.mem_of_getElem? (i := 32) rfl)) rfl
theorem t2_34 : (Jvm.Cond.instanceMethod ({ cls := "TrigramReaders$Parser", name := "parseReader", desc := "()Z" } : Jvm.MethodName)) ∈ LW := LW_mem (mt_2 (List.mem_of_getElem? (i := 34) rfl)) rfl
theorem t2_35 : (Jvm.Cond.code ({ cls := "TrigramReaders$Parser", name := "parseReader", desc := "()Z" } : Jvm.MethodName) prog_6_method_3_code (4 : Nat) (Option.some Jvm.ClassFile.FieldType.boolean)) ∈ LW := LW_mem (mt_2 (List.mem_of_getElem? (i := 35) rfl)) rfl
theorem t2_36 : (Jvm.Cond.methodLink "TrigramReaders$Parser" (63 : Nat) ({ cls := "TrigramReaders$Parser", name := "fail", desc := "(I)Z" } : Jvm.MethodName)) ∈ LW := LW_mem (mt_2 (List.mem_of_getElem? (i := 36) rfl)) rfl
theorem t2_38 : (Jvm.Cond.instanceMethod ({ cls := "TrigramReaders$Parser", name := "fail", desc := "(I)Z" } : Jvm.MethodName)) ∈ LW := LW_mem (mt_2 (List.mem_of_getElem? (i := 38) rfl)) rfl
theorem t2_39 : (Jvm.Cond.code ({ cls := "TrigramReaders$Parser", name := "fail", desc := "(I)Z" } : Jvm.MethodName) prog_6_method_8_code (2 : Nat) (Option.some Jvm.ClassFile.FieldType.boolean)) ∈ LW := LW_mem (mt_2 (List.mem_of_getElem? (i := 39) rfl)) rfl
theorem t2_40 : (Jvm.Cond.methodLink "TrigramReaders$Parser" (72 : Nat) ({ cls := "TrigramReaders$Bytes", name := "isName", desc := "(II)Z" } : Jvm.MethodName)) ∈ LW := LW_mem (mt_2 (List.mem_of_getElem? (i := 40) rfl)) rfl
theorem t2_41 : (Jvm.Cond.instanceMethod ({ cls := "TrigramReaders$Bytes", name := "isName", desc := "(II)Z" } : Jvm.MethodName)) ∈ LW := LW_mem (mt_2 (List.mem_of_getElem? (i := 41) rfl)) rfl
theorem t2_42 : (Jvm.Cond.selects "TrigramReaders$Bytes" ({ cls := "TrigramReaders$Bytes", name := "isName", desc := "(II)Z" } : Jvm.MethodName) ({ cls := "TrigramReaders$Bytes", name := "isName", desc := "(II)Z" } : Jvm.MethodName)) ∈ LW := LW_mem (mt_2 (List.mem_of_getElem? (i := 42) rfl)) rfl
theorem t2_43 : (Jvm.Cond.code ({ cls := "TrigramReaders$Bytes", name := "isName", desc := "(II)Z" } : Jvm.MethodName) prog_2_method_7_code (5 : Nat) (Option.some Jvm.ClassFile.FieldType.boolean)) ∈ LW := LW_mem (mt_2 (List.mem_of_getElem? (i := 43) rfl)) rfl
theorem t2_44 : (Jvm.Cond.methodLink "TrigramReaders$Bytes" (23 : Nat) ({ cls := "TrigramReaders$Bytes", name := "at", desc := "(I)I" } : Jvm.MethodName)) ∈ LW := LW_mem (mt_2 (List.mem_of_getElem? (i := 44) rfl)) rfl
theorem t2_46 : (Jvm.Cond.methodLink "TrigramReaders$Parser" (78 : Nat) ({ cls := "TrigramReaders$State", name := "readerNamed", desc := "(LTrigramReaders$Bytes;II)LTrigramReaders$Reader;" } : Jvm.MethodName)) ∈ LW := LW_mem (mt_2 (List.mem_of_getElem? (i := 46) rfl)) rfl
theorem t2_47 : (Jvm.Cond.instanceMethod ({ cls := "TrigramReaders$State", name := "readerNamed", desc := "(LTrigramReaders$Bytes;II)LTrigramReaders$Reader;" } : Jvm.MethodName)) ∈ LW := LW_mem (mt_2 (List.mem_of_getElem? (i := 47) rfl)) rfl
theorem t2_48 : (Jvm.Cond.selects "TrigramReaders$State" ({ cls := "TrigramReaders$State", name := "readerNamed", desc := "(LTrigramReaders$Bytes;II)LTrigramReaders$Reader;" } : Jvm.MethodName) ({ cls := "TrigramReaders$State", name := "readerNamed", desc := "(LTrigramReaders$Bytes;II)LTrigramReaders$Reader;" } : Jvm.MethodName)) ∈ LW := LW_mem (mt_2 (List.mem_of_getElem? (i := 48) rfl)) rfl
theorem t2_49 : (Jvm.Cond.code ({ cls := "TrigramReaders$State", name := "readerNamed", desc := "(LTrigramReaders$Bytes;II)LTrigramReaders$Reader;" } : Jvm.MethodName) prog_9_method_4_code (5 : Nat) (Option.some (Jvm.ClassFile.FieldType.object "TrigramReaders$Reader"))) ∈ LW := LW_mem (mt_2 (List.mem_of_getElem? (i := 49) rfl)) rfl
theorem t2_50 : (Jvm.Cond.methodLink "TrigramReaders$State" (42 : Nat) ({ cls := "TrigramReaders$Reader", name := "isNamed", desc := "(LTrigramReaders$Bytes;II)Z" } : Jvm.MethodName)) ∈ LW := LW_mem (mt_2 (List.mem_of_getElem? (i := 50) rfl)) rfl
theorem t2_51 : (Jvm.Cond.instanceMethod ({ cls := "TrigramReaders$Reader", name := "isNamed", desc := "(LTrigramReaders$Bytes;II)Z" } : Jvm.MethodName)) ∈ LW := LW_mem (mt_2 (List.mem_of_getElem? (i := 51) rfl)) rfl
theorem t2_52 : (Jvm.Cond.selects "TrigramReaders$Reader" ({ cls := "TrigramReaders$Reader", name := "isNamed", desc := "(LTrigramReaders$Bytes;II)Z" } : Jvm.MethodName) ({ cls := "TrigramReaders$Reader", name := "isNamed", desc := "(LTrigramReaders$Bytes;II)Z" } : Jvm.MethodName)) ∈ LW := LW_mem (mt_2 (List.mem_of_getElem? (i := 52) rfl)) rfl
theorem t2_53 : (Jvm.Cond.code ({ cls := "TrigramReaders$Reader", name := "isNamed", desc := "(LTrigramReaders$Bytes;II)Z" } : Jvm.MethodName) prog_8_method_6_code (6 : Nat) (Option.some Jvm.ClassFile.FieldType.boolean)) ∈ LW := LW_mem (mt_2 (List.mem_of_getElem? (i := 53) rfl)) rfl
theorem t2_54 : (Jvm.Cond.methodLink "TrigramReaders$Reader" (57 : Nat) ({ cls := "TrigramReaders$Reader", name := "nameAt", desc := "(I)I" } : Jvm.MethodName)) ∈ LW := LW_mem (mt_2 (List.mem_of_getElem? (i := 54) rfl)) rfl
theorem t2_55 : (Jvm.Cond.instanceMethod ({ cls := "TrigramReaders$Reader", name := "nameAt", desc := "(I)I" } : Jvm.MethodName)) ∈ LW := LW_mem (mt_2 (List.mem_of_getElem? (i := 55) rfl)) rfl
theorem t2_56 : (Jvm.Cond.selects "TrigramReaders$Reader" ({ cls := "TrigramReaders$Reader", name := "nameAt", desc := "(I)I" } : Jvm.MethodName) ({ cls := "TrigramReaders$Reader", name := "nameAt", desc := "(I)I" } : Jvm.MethodName)) ∈ LW := LW_mem (mt_2 (List.mem_of_getElem? (i := 56) rfl)) rfl
theorem t2_57 : (Jvm.Cond.code ({ cls := "TrigramReaders$Reader", name := "nameAt", desc := "(I)I" } : Jvm.MethodName) prog_8_method_5_code (2 : Nat) (Option.some Jvm.ClassFile.FieldType.int)) ∈ LW := LW_mem (mt_2 (List.mem_of_getElem? (i := 57) rfl)) rfl
theorem t2_58 : (Jvm.Cond.methodLink "TrigramReaders$Reader" (45 : Nat) ({ cls := "TrigramReaders$Bytes", name := "at", desc := "(I)I" } : Jvm.MethodName)) ∈ LW := LW_mem (mt_2 (List.mem_of_getElem? (i := 58) rfl)) rfl
theorem t2_59 : (Jvm.Cond.methodLink "TrigramReaders$Parser" (82 : Nat) ({ cls := "TrigramReaders$Parser", name := "methodWord", desc := "()I" } : Jvm.MethodName)) ∈ LW := LW_mem (mt_2 (List.mem_of_getElem? (i := 59) rfl)) rfl
theorem t2_61 : (Jvm.Cond.instanceMethod ({ cls := "TrigramReaders$Parser", name := "methodWord", desc := "()I" } : Jvm.MethodName)) ∈ LW := LW_mem (mt_2 (List.mem_of_getElem? (i := 61) rfl)) rfl
theorem t2_62 : (Jvm.Cond.code ({ cls := "TrigramReaders$Parser", name := "methodWord", desc := "()I" } : Jvm.MethodName) prog_6_method_13_code (1 : Nat) (Option.some Jvm.ClassFile.FieldType.int)) ∈ LW := LW_mem (mt_2 (List.mem_of_getElem? (i := 62) rfl)) rfl
theorem t2_66 : (Jvm.Cond.methodLink "TrigramReaders$Parser" (86 : Nat) ({ cls := "TrigramReaders$Parser", name := "parseSemicolon", desc := "()Z" } : Jvm.MethodName)) ∈ LW := LW_mem (mt_2 (List.mem_of_getElem? (i := 66) rfl)) rfl
theorem t2_68 : (Jvm.Cond.instanceMethod ({ cls := "TrigramReaders$Parser", name := "parseSemicolon", desc := "()Z" } : Jvm.MethodName)) ∈ LW := LW_mem (mt_2 (List.mem_of_getElem? (i := 68) rfl)) rfl
theorem t2_69 : (Jvm.Cond.code ({ cls := "TrigramReaders$Parser", name := "parseSemicolon", desc := "()Z" } : Jvm.MethodName) prog_6_method_7_code (1 : Nat) (Option.some Jvm.ClassFile.FieldType.boolean)) ∈ LW := LW_mem (mt_2 (List.mem_of_getElem? (i := 69) rfl)) rfl
theorem t2_70 : (Jvm.Cond.methodLink "TrigramReaders$Parser" (89 : Nat) ({ cls := "TrigramReaders$State", name := "putReader", desc := "(LTrigramReaders$Bytes;III)V" } : Jvm.MethodName)) ∈ LW := LW_mem (mt_2 (List.mem_of_getElem? (i := 70) rfl)) rfl
theorem t2_71 : (Jvm.Cond.instanceMethod ({ cls := "TrigramReaders$State", name := "putReader", desc := "(LTrigramReaders$Bytes;III)V" } : Jvm.MethodName)) ∈ LW := LW_mem (mt_2 (List.mem_of_getElem? (i := 71) rfl)) rfl
theorem t2_72 : (Jvm.Cond.selects "TrigramReaders$State" ({ cls := "TrigramReaders$State", name := "putReader", desc := "(LTrigramReaders$Bytes;III)V" } : Jvm.MethodName) ({ cls := "TrigramReaders$State", name := "putReader", desc := "(LTrigramReaders$Bytes;III)V" } : Jvm.MethodName)) ∈ LW := LW_mem (mt_2 (List.mem_of_getElem? (i := 72) rfl)) rfl
theorem t2_73 : (Jvm.Cond.code ({ cls := "TrigramReaders$State", name := "putReader", desc := "(LTrigramReaders$Bytes;III)V" } : Jvm.MethodName) prog_9_method_7_code (5 : Nat) (Option.none : Option Jvm.ClassFile.FieldType)) ∈ LW := LW_mem (mt_2 (List.mem_of_getElem? (i := 73) rfl)) rfl
theorem t2_74 : (Jvm.Cond.methodLink "TrigramReaders$State" (46 : Nat) ({ cls := "TrigramReaders$Reader", name := "begin", desc := "(LTrigramReaders$Bytes;III)V" } : Jvm.MethodName)) ∈ LW := LW_mem (mt_2 (List.mem_of_getElem? (i := 74) rfl)) rfl
theorem t2_75 : (Jvm.Cond.instanceMethod ({ cls := "TrigramReaders$Reader", name := "begin", desc := "(LTrigramReaders$Bytes;III)V" } : Jvm.MethodName)) ∈ LW := LW_mem (mt_2 (List.mem_of_getElem? (i := 75) rfl)) rfl
theorem t2_76 : (Jvm.Cond.selects "TrigramReaders$Reader" ({ cls := "TrigramReaders$Reader", name := "begin", desc := "(LTrigramReaders$Bytes;III)V" } : Jvm.MethodName) ({ cls := "TrigramReaders$Reader", name := "begin", desc := "(LTrigramReaders$Bytes;III)V" } : Jvm.MethodName)) ∈ LW := LW_mem (mt_2 (List.mem_of_getElem? (i := 76) rfl)) rfl
theorem t2_77 : (Jvm.Cond.code ({ cls := "TrigramReaders$Reader", name := "begin", desc := "(LTrigramReaders$Bytes;III)V" } : Jvm.MethodName) prog_8_method_3_code (6 : Nat) (Option.none : Option Jvm.ClassFile.FieldType)) ∈ LW := LW_mem (mt_2 (List.mem_of_getElem? (i := 77) rfl)) rfl
theorem t2_78 : (Jvm.Cond.methodLink "TrigramReaders$Reader" (51 : Nat) ({ cls := "TrigramReaders$Reader", name := "clearTrainings", desc := "()V" } : Jvm.MethodName)) ∈ LW := LW_mem (mt_2 (List.mem_of_getElem? (i := 78) rfl)) rfl
theorem t2_79 : (Jvm.Cond.instanceMethod ({ cls := "TrigramReaders$Reader", name := "clearTrainings", desc := "()V" } : Jvm.MethodName)) ∈ LW := LW_mem (mt_2 (List.mem_of_getElem? (i := 79) rfl)) rfl
theorem t2_80 : (Jvm.Cond.selects "TrigramReaders$Reader" ({ cls := "TrigramReaders$Reader", name := "clearTrainings", desc := "()V" } : Jvm.MethodName) ({ cls := "TrigramReaders$Reader", name := "clearTrainings", desc := "()V" } : Jvm.MethodName)) ∈ LW := LW_mem (mt_2 (List.mem_of_getElem? (i := 80) rfl)) rfl
theorem t2_81 : (Jvm.Cond.code ({ cls := "TrigramReaders$Reader", name := "clearTrainings", desc := "()V" } : Jvm.MethodName) prog_8_method_4_code (2 : Nat) (Option.none : Option Jvm.ClassFile.FieldType)) ∈ LW := LW_mem (mt_2 (List.mem_of_getElem? (i := 81) rfl)) rfl
theorem t2_83 : (Jvm.Cond.methodLink "TrigramReaders$Parser" (50 : Nat) ({ cls := "TrigramReaders$Parser", name := "parseDocument", desc := "()Z" } : Jvm.MethodName)) ∈ LW := LW_mem (mt_2 (List.mem_of_getElem? (i := 83) rfl)) rfl
theorem t2_85 : (Jvm.Cond.instanceMethod ({ cls := "TrigramReaders$Parser", name := "parseDocument", desc := "()Z" } : Jvm.MethodName)) ∈ LW := LW_mem (mt_2 (List.mem_of_getElem? (i := 85) rfl)) rfl
theorem t2_86 : (Jvm.Cond.code ({ cls := "TrigramReaders$Parser", name := "parseDocument", desc := "()Z" } : Jvm.MethodName) prog_6_method_4_code (3 : Nat) (Option.some Jvm.ClassFile.FieldType.boolean)) ∈ LW := LW_mem (mt_2 (List.mem_of_getElem? (i := 86) rfl)) rfl
theorem t2_87 : (Jvm.Cond.methodLink "TrigramReaders$Parser" (96 : Nat) ({ cls := "TrigramReaders$Bytes", name := "isDocument", desc := "(II)Z" } : Jvm.MethodName)) ∈ LW := LW_mem (mt_2 (List.mem_of_getElem? (i := 87) rfl)) rfl
theorem t2_88 : (Jvm.Cond.instanceMethod ({ cls := "TrigramReaders$Bytes", name := "isDocument", desc := "(II)Z" } : Jvm.MethodName)) ∈ LW := LW_mem (mt_2 (List.mem_of_getElem? (i := 88) rfl)) rfl
theorem t2_89 : (Jvm.Cond.selects "TrigramReaders$Bytes" ({ cls := "TrigramReaders$Bytes", name := "isDocument", desc := "(II)Z" } : Jvm.MethodName) ({ cls := "TrigramReaders$Bytes", name := "isDocument", desc := "(II)Z" } : Jvm.MethodName)) ∈ LW := LW_mem (mt_2 (List.mem_of_getElem? (i := 89) rfl)) rfl
theorem t2_90 : (Jvm.Cond.code ({ cls := "TrigramReaders$Bytes", name := "isDocument", desc := "(II)Z" } : Jvm.MethodName) prog_2_method_8_code (5 : Nat) (Option.some Jvm.ClassFile.FieldType.boolean)) ∈ LW := LW_mem (mt_2 (List.mem_of_getElem? (i := 90) rfl)) rfl
theorem t2_91 : (Jvm.Cond.methodLink "TrigramReaders$Parser" (99 : Nat) ({ cls := "TrigramReaders$State", name := "putDocument", desc := "(LTrigramReaders$Bytes;II)V" } : Jvm.MethodName)) ∈ LW := LW_mem (mt_2 (List.mem_of_getElem? (i := 91) rfl)) rfl
theorem t2_92 : (Jvm.Cond.instanceMethod ({ cls := "TrigramReaders$State", name := "putDocument", desc := "(LTrigramReaders$Bytes;II)V" } : Jvm.MethodName)) ∈ LW := LW_mem (mt_2 (List.mem_of_getElem? (i := 92) rfl)) rfl
theorem t2_93 : (Jvm.Cond.selects "TrigramReaders$State" ({ cls := "TrigramReaders$State", name := "putDocument", desc := "(LTrigramReaders$Bytes;II)V" } : Jvm.MethodName) ({ cls := "TrigramReaders$State", name := "putDocument", desc := "(LTrigramReaders$Bytes;II)V" } : Jvm.MethodName)) ∈ LW := LW_mem (mt_2 (List.mem_of_getElem? (i := 93) rfl)) rfl
theorem t2_94 : (Jvm.Cond.code ({ cls := "TrigramReaders$State", name := "putDocument", desc := "(LTrigramReaders$Bytes;II)V" } : Jvm.MethodName) prog_9_method_8_code (4 : Nat) (Option.none : Option Jvm.ClassFile.FieldType)) ∈ LW := LW_mem (mt_2 (List.mem_of_getElem? (i := 94) rfl)) rfl
theorem t2_95 : (Jvm.Cond.methodLink "TrigramReaders$State" (50 : Nat) ({ cls := "TrigramReaders$Document", name := "take", desc := "(LTrigramReaders$Bytes;III)V" } : Jvm.MethodName)) ∈ LW := LW_mem (mt_2 (List.mem_of_getElem? (i := 95) rfl)) rfl
theorem t2_96 : (Jvm.Cond.instanceMethod ({ cls := "TrigramReaders$Document", name := "take", desc := "(LTrigramReaders$Bytes;III)V" } : Jvm.MethodName)) ∈ LW := LW_mem (mt_2 (List.mem_of_getElem? (i := 96) rfl)) rfl
theorem t2_97 : (Jvm.Cond.selects "TrigramReaders$Document" ({ cls := "TrigramReaders$Document", name := "take", desc := "(LTrigramReaders$Bytes;III)V" } : Jvm.MethodName) ({ cls := "TrigramReaders$Document", name := "take", desc := "(LTrigramReaders$Bytes;III)V" } : Jvm.MethodName)) ∈ LW := LW_mem (mt_2 (List.mem_of_getElem? (i := 97) rfl)) rfl
theorem t2_98 : (Jvm.Cond.code ({ cls := "TrigramReaders$Document", name := "take", desc := "(LTrigramReaders$Bytes;III)V" } : Jvm.MethodName) prog_5_method_3_code (7 : Nat) (Option.none : Option Jvm.ClassFile.FieldType)) ∈ LW := LW_mem (mt_2 (List.mem_of_getElem? (i := 98) rfl)) rfl
theorem t2_99 : (Jvm.Cond.methodLink "TrigramReaders$Document" (28 : Nat) ({ cls := "TrigramReaders$Bytes", name := "at", desc := "(I)I" } : Jvm.MethodName)) ∈ LW := LW_mem (mt_2 (List.mem_of_getElem? (i := 99) rfl)) rfl
theorem t2_102 : (Jvm.Cond.methodLink "TrigramReaders$Parser" (55 : Nat) ({ cls := "TrigramReaders$Parser", name := "parseTrain", desc := "()Z" } : Jvm.MethodName)) ∈ LW := LW_mem (mt_2 (List.mem_of_getElem? (i := 102) rfl)) rfl
theorem t2_104 : (Jvm.Cond.instanceMethod ({ cls := "TrigramReaders$Parser", name := "parseTrain", desc := "()Z" } : Jvm.MethodName)) ∈ LW := LW_mem (mt_2 (List.mem_of_getElem? (i := 104) rfl)) rfl
theorem t2_105 : (Jvm.Cond.code ({ cls := "TrigramReaders$Parser", name := "parseTrain", desc := "()Z" } : Jvm.MethodName) prog_6_method_5_code (4 : Nat) (Option.some Jvm.ClassFile.FieldType.boolean)) ∈ LW := LW_mem (mt_2 (List.mem_of_getElem? (i := 105) rfl)) rfl
theorem t2_106 : (Jvm.Cond.methodLink "TrigramReaders$Parser" (103 : Nat) ({ cls := "TrigramReaders$Parser", name := "numberValue", desc := "()I" } : Jvm.MethodName)) ∈ LW := LW_mem (mt_2 (List.mem_of_getElem? (i := 106) rfl)) rfl
theorem t2_108 : (Jvm.Cond.instanceMethod ({ cls := "TrigramReaders$Parser", name := "numberValue", desc := "()I" } : Jvm.MethodName)) ∈ LW := LW_mem (mt_2 (List.mem_of_getElem? (i := 108) rfl)) rfl
theorem t2_109 : (Jvm.Cond.code ({ cls := "TrigramReaders$Parser", name := "numberValue", desc := "()I" } : Jvm.MethodName) prog_6_method_14_code (3 : Nat) (Option.some Jvm.ClassFile.FieldType.int)) ∈ LW := LW_mem (mt_2 (List.mem_of_getElem? (i := 109) rfl)) rfl
theorem t2_111 : (Jvm.Cond.static ({ cls := "TrigramReaders", name := "withDigit", desc := "(II)I" } : Jvm.MethodName)) ∈ LW := LW_mem (mt_2 (List.mem_of_getElem? (i := 111) rfl)) rfl
theorem t2_112 : (Jvm.Cond.code ({ cls := "TrigramReaders", name := "withDigit", desc := "(II)I" } : Jvm.MethodName) prog_1_method_88_code (2 : Nat) (Option.some Jvm.ClassFile.FieldType.int)) ∈ LW := LW_mem (mt_2 (List.mem_of_getElem? (i := 112) rfl)) rfl
theorem t2_113 : (Jvm.Cond.methodLink "TrigramReaders" (356 : Nat) ({ cls := "java/lang/Math", name := "min", desc := "(II)I" } : Jvm.MethodName)) ∈ LW := LW_mem (mt_2 (List.mem_of_getElem? (i := 113) rfl)) rfl
theorem t2_114 : (Jvm.Cond.static ({ cls := "java/lang/Math", name := "min", desc := "(II)I" } : Jvm.MethodName)) ∈ LW := LW_mem (mt_2 (List.mem_of_getElem? (i := 114) rfl)) rfl
theorem t2_115 : (Jvm.Cond.code ({ cls := "java/lang/Math", name := "min", desc := "(II)I" } : Jvm.MethodName) prog_20_method_69_code (2 : Nat) (Option.some Jvm.ClassFile.FieldType.int)) ∈ LW := LW_mem (mt_2 (List.mem_of_getElem? (i := 115) rfl)) rfl
theorem t2_116 : (Jvm.Cond.methodLink "TrigramReaders$Parser" (106 : Nat) ({ cls := "TrigramReaders$State", name := "documentAt", desc := "(I)LTrigramReaders$Document;" } : Jvm.MethodName)) ∈ LW := LW_mem (mt_2 (List.mem_of_getElem? (i := 116) rfl)) rfl
theorem t2_117 : (Jvm.Cond.instanceMethod ({ cls := "TrigramReaders$State", name := "documentAt", desc := "(I)LTrigramReaders$Document;" } : Jvm.MethodName)) ∈ LW := LW_mem (mt_2 (List.mem_of_getElem? (i := 117) rfl)) rfl
theorem t2_118 : (Jvm.Cond.selects "TrigramReaders$State" ({ cls := "TrigramReaders$State", name := "documentAt", desc := "(I)LTrigramReaders$Document;" } : Jvm.MethodName) ({ cls := "TrigramReaders$State", name := "documentAt", desc := "(I)LTrigramReaders$Document;" } : Jvm.MethodName)) ∈ LW := LW_mem (mt_2 (List.mem_of_getElem? (i := 118) rfl)) rfl
theorem t2_119 : (Jvm.Cond.code ({ cls := "TrigramReaders$State", name := "documentAt", desc := "(I)LTrigramReaders$Document;" } : Jvm.MethodName) prog_9_method_6_code (2 : Nat) (Option.some (Jvm.ClassFile.FieldType.object "TrigramReaders$Document"))) ∈ LW := LW_mem (mt_2 (List.mem_of_getElem? (i := 119) rfl)) rfl
theorem t2_120 : (Jvm.Cond.methodLink "TrigramReaders$Parser" (116 : Nat) ({ cls := "TrigramReaders$Counts", name := "countDocument", desc := "(LTrigramReaders$Document;)V" } : Jvm.MethodName)) ∈ LW := LW_mem (mt_2 (List.mem_of_getElem? (i := 120) rfl)) rfl
theorem t2_121 : (Jvm.Cond.instanceMethod ({ cls := "TrigramReaders$Counts", name := "countDocument", desc := "(LTrigramReaders$Document;)V" } : Jvm.MethodName)) ∈ LW := LW_mem (mt_2 (List.mem_of_getElem? (i := 121) rfl)) rfl
theorem t2_122 : (Jvm.Cond.selects "TrigramReaders$Counts" ({ cls := "TrigramReaders$Counts", name := "countDocument", desc := "(LTrigramReaders$Document;)V" } : Jvm.MethodName) ({ cls := "TrigramReaders$Counts", name := "countDocument", desc := "(LTrigramReaders$Document;)V" } : Jvm.MethodName)) ∈ LW := LW_mem (mt_2 (List.mem_of_getElem? (i := 122) rfl)) rfl
theorem t2_123 : (Jvm.Cond.code ({ cls := "TrigramReaders$Counts", name := "countDocument", desc := "(LTrigramReaders$Document;)V" } : Jvm.MethodName) prog_4_method_8_code (3 : Nat) (Option.none : Option Jvm.ClassFile.FieldType)) ∈ LW := LW_mem (mt_2 (List.mem_of_getElem? (i := 123) rfl)) rfl
theorem t2_124 : (Jvm.Cond.methodLink "TrigramReaders$Counts" (57 : Nat) ({ cls := "TrigramReaders$Counts", name := "countPosition", desc := "(LTrigramReaders$Document;I)V" } : Jvm.MethodName)) ∈ LW := LW_mem (mt_2 (List.mem_of_getElem? (i := 124) rfl)) rfl
theorem t2_125 : (Jvm.Cond.instanceMethod ({ cls := "TrigramReaders$Counts", name := "countPosition", desc := "(LTrigramReaders$Document;I)V" } : Jvm.MethodName)) ∈ LW := LW_mem (mt_2 (List.mem_of_getElem? (i := 125) rfl)) rfl
theorem t2_126 : (Jvm.Cond.selects "TrigramReaders$Counts" ({ cls := "TrigramReaders$Counts", name := "countPosition", desc := "(LTrigramReaders$Document;I)V" } : Jvm.MethodName) ({ cls := "TrigramReaders$Counts", name := "countPosition", desc := "(LTrigramReaders$Document;I)V" } : Jvm.MethodName)) ∈ LW := LW_mem (mt_2 (List.mem_of_getElem? (i := 126) rfl)) rfl
theorem t2_127 : (Jvm.Cond.code ({ cls := "TrigramReaders$Counts", name := "countPosition", desc := "(LTrigramReaders$Document;I)V" } : Jvm.MethodName) prog_4_method_7_code (6 : Nat) (Option.none : Option Jvm.ClassFile.FieldType)) ∈ LW := LW_mem (mt_2 (List.mem_of_getElem? (i := 127) rfl)) rfl
theorem t2_128 : (Jvm.Cond.methodLink "TrigramReaders$Counts" (42 : Nat) ({ cls := "TrigramReaders$Document", name := "symbolAt", desc := "(I)I" } : Jvm.MethodName)) ∈ LW := LW_mem (mt_2 (List.mem_of_getElem? (i := 128) rfl)) rfl
theorem t2_129 : (Jvm.Cond.instanceMethod ({ cls := "TrigramReaders$Document", name := "symbolAt", desc := "(I)I" } : Jvm.MethodName)) ∈ LW := LW_mem (mt_2 (List.mem_of_getElem? (i := 129) rfl)) rfl
theorem t2_130 : (Jvm.Cond.selects "TrigramReaders$Document" ({ cls := "TrigramReaders$Document", name := "symbolAt", desc := "(I)I" } : Jvm.MethodName) ({ cls := "TrigramReaders$Document", name := "symbolAt", desc := "(I)I" } : Jvm.MethodName)) ∈ LW := LW_mem (mt_2 (List.mem_of_getElem? (i := 130) rfl)) rfl
theorem t2_131 : (Jvm.Cond.code ({ cls := "TrigramReaders$Document", name := "symbolAt", desc := "(I)I" } : Jvm.MethodName) prog_5_method_4_code (2 : Nat) (Option.some Jvm.ClassFile.FieldType.int)) ∈ LW := LW_mem (mt_2 (List.mem_of_getElem? (i := 131) rfl)) rfl
theorem t2_133 : (Jvm.Cond.static ({ cls := "TrigramReaders", name := "firstOrder", desc := "(II)I" } : Jvm.MethodName)) ∈ LW := LW_mem (mt_2 (List.mem_of_getElem? (i := 133) rfl)) rfl
theorem t2_134 : (Jvm.Cond.code ({ cls := "TrigramReaders", name := "firstOrder", desc := "(II)I" } : Jvm.MethodName) prog_1_method_73_code (2 : Nat) (Option.some Jvm.ClassFile.FieldType.int)) ∈ LW := LW_mem (mt_2 (List.mem_of_getElem? (i := 134) rfl)) rfl
theorem t2_136 : (Jvm.Cond.static ({ cls := "TrigramReaders", name := "contextStart", desc := "(III)I" } : Jvm.MethodName)) ∈ LW := LW_mem (mt_2 (List.mem_of_getElem? (i := 136) rfl)) rfl
theorem t2_137 : (Jvm.Cond.code ({ cls := "TrigramReaders", name := "contextStart", desc := "(III)I" } : Jvm.MethodName) prog_1_method_74_code (3 : Nat) (Option.some Jvm.ClassFile.FieldType.int)) ∈ LW := LW_mem (mt_2 (List.mem_of_getElem? (i := 137) rfl)) rfl
theorem t2_138 : (Jvm.Cond.methodLink "TrigramReaders$Counts" (38 : Nat) ({ cls := "TrigramReaders$Counts", name := "add", desc := "(II)V" } : Jvm.MethodName)) ∈ LW := LW_mem (mt_2 (List.mem_of_getElem? (i := 138) rfl)) rfl
theorem t2_139 : (Jvm.Cond.instanceMethod ({ cls := "TrigramReaders$Counts", name := "add", desc := "(II)V" } : Jvm.MethodName)) ∈ LW := LW_mem (mt_2 (List.mem_of_getElem? (i := 139) rfl)) rfl
theorem t2_140 : (Jvm.Cond.selects "TrigramReaders$Counts" ({ cls := "TrigramReaders$Counts", name := "add", desc := "(II)V" } : Jvm.MethodName) ({ cls := "TrigramReaders$Counts", name := "add", desc := "(II)V" } : Jvm.MethodName)) ∈ LW := LW_mem (mt_2 (List.mem_of_getElem? (i := 140) rfl)) rfl
theorem t2_141 : (Jvm.Cond.code ({ cls := "TrigramReaders$Counts", name := "add", desc := "(II)V" } : Jvm.MethodName) prog_4_method_5_code (4 : Nat) (Option.none : Option Jvm.ClassFile.FieldType)) ∈ LW := LW_mem (mt_2 (List.mem_of_getElem? (i := 141) rfl)) rfl
theorem t2_142 : (Jvm.Cond.methodLink "TrigramReaders$Counts" (28 : Nat) ({ cls := "TrigramReaders$Counts", name := "placeOf", desc := "(I)I" } : Jvm.MethodName)) ∈ LW := LW_mem (mt_2 (List.mem_of_getElem? (i := 142) rfl)) rfl
theorem t2_143 : (Jvm.Cond.instanceMethod ({ cls := "TrigramReaders$Counts", name := "placeOf", desc := "(I)I" } : Jvm.MethodName)) ∈ LW := LW_mem (mt_2 (List.mem_of_getElem? (i := 143) rfl)) rfl
theorem t2_144 : (Jvm.Cond.selects "TrigramReaders$Counts" ({ cls := "TrigramReaders$Counts", name := "placeOf", desc := "(I)I" } : Jvm.MethodName) ({ cls := "TrigramReaders$Counts", name := "placeOf", desc := "(I)I" } : Jvm.MethodName)) ∈ LW := LW_mem (mt_2 (List.mem_of_getElem? (i := 144) rfl)) rfl
theorem t2_145 : (Jvm.Cond.code ({ cls := "TrigramReaders$Counts", name := "placeOf", desc := "(I)I" } : Jvm.MethodName) prog_4_method_3_code (5 : Nat) (Option.some Jvm.ClassFile.FieldType.int)) ∈ LW := LW_mem (mt_2 (List.mem_of_getElem? (i := 145) rfl)) rfl
theorem t2_146 : (Jvm.Cond.methodLink "TrigramReaders$Counts" (32 : Nat) ({ cls := "java/lang/Math", name := "min", desc := "(II)I" } : Jvm.MethodName)) ∈ LW := LW_mem (mt_2 (List.mem_of_getElem? (i := 146) rfl)) rfl
theorem t2_147 : (Jvm.Cond.methodLink "TrigramReaders$Counts" (22 : Nat) ({ cls := "java/lang/System", name := "arraycopy", desc := "(Ljava/lang/Object;ILjava/lang/Object;II)V" } : Jvm.MethodName)) ∈ LW := LW_mem (mt_2 (List.mem_of_getElem? (i := 147) rfl)) rfl
theorem t2_148 : (Jvm.Cond.static ({ cls := "java/lang/System", name := "arraycopy", desc := "(Ljava/lang/Object;ILjava/lang/Object;II)V" } : Jvm.MethodName)) ∈ LW := LW_mem (mt_2 (List.mem_of_getElem? (i := 148) rfl)) rfl
theorem t2_149 : (Jvm.Cond.native ({ cls := "java/lang/System", name := "arraycopy", desc := "(Ljava/lang/Object;ILjava/lang/Object;II)V" } : Jvm.MethodName)) ∈ LW := LW_mem (mt_2 (List.mem_of_getElem? (i := 149) rfl)) rfl
theorem t2_150 : (Jvm.Cond.methodLink "TrigramReaders$Parser" (127 : Nat) ({ cls := "TrigramReaders$Reader", name := "recordTraining", desc := "(II)V" } : Jvm.MethodName)) ∈ LW := LW_mem (mt_2 (List.mem_of_getElem? (i := 150) rfl)) rfl
theorem t2_151 : (Jvm.Cond.instanceMethod ({ cls := "TrigramReaders$Reader", name := "recordTraining", desc := "(II)V" } : Jvm.MethodName)) ∈ LW := LW_mem (mt_2 (List.mem_of_getElem? (i := 151) rfl)) rfl
theorem t2_152 : (Jvm.Cond.selects "TrigramReaders$Reader" ({ cls := "TrigramReaders$Reader", name := "recordTraining", desc := "(II)V" } : Jvm.MethodName) ({ cls := "TrigramReaders$Reader", name := "recordTraining", desc := "(II)V" } : Jvm.MethodName)) ∈ LW := LW_mem (mt_2 (List.mem_of_getElem? (i := 152) rfl)) rfl
theorem t2_153 : (Jvm.Cond.code ({ cls := "TrigramReaders$Reader", name := "recordTraining", desc := "(II)V" } : Jvm.MethodName) prog_8_method_8_code (3 : Nat) (Option.none : Option Jvm.ClassFile.FieldType)) ∈ LW := LW_mem (mt_2 (List.mem_of_getElem? (i := 153) rfl)) rfl
theorem t2_155 : (Jvm.Cond.methodLink "TrigramReaders$Parser" (60 : Nat) ({ cls := "TrigramReaders$Parser", name := "parseYear", desc := "()Z" } : Jvm.MethodName)) ∈ LW := LW_mem (mt_2 (List.mem_of_getElem? (i := 155) rfl)) rfl
theorem t2_157 : (Jvm.Cond.instanceMethod ({ cls := "TrigramReaders$Parser", name := "parseYear", desc := "()Z" } : Jvm.MethodName)) ∈ LW := LW_mem (mt_2 (List.mem_of_getElem? (i := 157) rfl)) rfl
theorem t2_158 : (Jvm.Cond.code ({ cls := "TrigramReaders$Parser", name := "parseYear", desc := "()Z" } : Jvm.MethodName) prog_6_method_6_code (1 : Nat) (Option.some Jvm.ClassFile.FieldType.boolean)) ∈ LW := LW_mem (mt_2 (List.mem_of_getElem? (i := 158) rfl)) rfl
theorem t2_159 : (Jvm.Cond.methodLink "TrigramReaders$Parser" (131 : Nat) ({ cls := "TrigramReaders$State", name := "passYear", desc := "()V" } : Jvm.MethodName)) ∈ LW := LW_mem (mt_2 (List.mem_of_getElem? (i := 159) rfl)) rfl
theorem t2_160 : (Jvm.Cond.instanceMethod ({ cls := "TrigramReaders$State", name := "passYear", desc := "()V" } : Jvm.MethodName)) ∈ LW := LW_mem (mt_2 (List.mem_of_getElem? (i := 160) rfl)) rfl
theorem t2_161 : (Jvm.Cond.selects "TrigramReaders$State" ({ cls := "TrigramReaders$State", name := "passYear", desc := "()V" } : Jvm.MethodName) ({ cls := "TrigramReaders$State", name := "passYear", desc := "()V" } : Jvm.MethodName)) ∈ LW := LW_mem (mt_2 (List.mem_of_getElem? (i := 161) rfl)) rfl
theorem t2_162 : (Jvm.Cond.code ({ cls := "TrigramReaders$State", name := "passYear", desc := "()V" } : Jvm.MethodName) prog_9_method_9_code (2 : Nat) (Option.none : Option Jvm.ClassFile.FieldType)) ∈ LW := LW_mem (mt_2 (List.mem_of_getElem? (i := 162) rfl)) rfl
theorem t2_163 : (Jvm.Cond.methodLink "TrigramReaders$State" (57 : Nat) ({ cls := "TrigramReaders$Counts", name := "halve", desc := "()V" } : Jvm.MethodName)) ∈ LW := LW_mem (mt_2 (List.mem_of_getElem? (i := 163) rfl)) rfl
theorem t2_164 : (Jvm.Cond.instanceMethod ({ cls := "TrigramReaders$Counts", name := "halve", desc := "()V" } : Jvm.MethodName)) ∈ LW := LW_mem (mt_2 (List.mem_of_getElem? (i := 164) rfl)) rfl
theorem t2_165 : (Jvm.Cond.selects "TrigramReaders$Counts" ({ cls := "TrigramReaders$Counts", name := "halve", desc := "()V" } : Jvm.MethodName) ({ cls := "TrigramReaders$Counts", name := "halve", desc := "()V" } : Jvm.MethodName)) ∈ LW := LW_mem (mt_2 (List.mem_of_getElem? (i := 165) rfl)) rfl
theorem t2_166 : (Jvm.Cond.code ({ cls := "TrigramReaders$Counts", name := "halve", desc := "()V" } : Jvm.MethodName) prog_4_method_9_code (4 : Nat) (Option.none : Option Jvm.ClassFile.FieldType)) ∈ LW := LW_mem (mt_2 (List.mem_of_getElem? (i := 166) rfl)) rfl
theorem t2_168 : (Jvm.Cond.classLink "TrigramReaders" (57 : Nat) "TrigramReaders$Counts") ∈ LW := LW_mem (mt_2 (List.mem_of_getElem? (i := 168) rfl)) rfl
theorem t2_170 : (Jvm.Cond.classLink "TrigramReaders" (64 : Nat) "TrigramReaders$Ranking") ∈ LW := LW_mem (mt_2 (List.mem_of_getElem? (i := 170) rfl)) rfl
theorem t2_171 : (Jvm.Cond.instantiable "TrigramReaders$Ranking" (4 : Nat)) ∈ LW := LW_mem (mt_2 (List.mem_of_getElem? (i := 171) rfl)) rfl
theorem t2_173 : (Jvm.Cond.instanceMethod ({ cls := "TrigramReaders$Ranking", name := "<init>", desc := "()V" } : Jvm.MethodName)) ∈ LW := LW_mem (mt_2 (List.mem_of_getElem? (i := 173) rfl)) rfl
theorem t2_174 : (Jvm.Cond.code ({ cls := "TrigramReaders$Ranking", name := "<init>", desc := "()V" } : Jvm.MethodName) prog_7_method_1_code (1 : Nat) (Option.none : Option Jvm.ClassFile.FieldType)) ∈ LW := LW_mem (mt_2 (List.mem_of_getElem? (i := 174) rfl)) rfl
theorem t2_175 : (Jvm.Cond.methodLink "TrigramReaders$Ranking" (3 : Nat) ({ cls := "java/lang/Object", name := "<init>", desc := "()V" } : Jvm.MethodName)) ∈ LW := LW_mem (mt_2 (List.mem_of_getElem? (i := 175) rfl)) rfl
theorem t2_176 : (Jvm.Cond.fieldLink "TrigramReaders$Ranking" (9 : Nat) "TrigramReaders$Ranking" "symbols" "[I") ∈ LW := LW_mem (mt_2 (List.mem_of_getElem? (i := 176) rfl)) rfl
theorem t2_177 : (Jvm.Cond.fieldLink "TrigramReaders$Ranking" (15 : Nat) "TrigramReaders$Ranking" "weights" "[I") ∈ LW := LW_mem (mt_2 (List.mem_of_getElem? (i := 177) rfl)) rfl
theorem t2_178 : (Jvm.Cond.fieldLink "TrigramReaders$Ranking" (18 : Nat) "TrigramReaders$Ranking" "size" "I") ∈ LW := LW_mem (mt_2 (List.mem_of_getElem? (i := 178) rfl)) rfl
theorem t2_179 : (Jvm.Cond.fieldLink "TrigramReaders$Ranking" (22 : Nat) "TrigramReaders$Ranking" "placed" "I") ∈ LW := LW_mem (mt_2 (List.mem_of_getElem? (i := 179) rfl)) rfl
theorem t2_180 : (Jvm.Cond.laysFinal "TrigramReaders$Ranking" "TrigramReaders$Ranking" "symbols" "[I") ∈ LW := LW_mem (mt_2 (List.mem_of_getElem? (i := 180) rfl)) rfl
theorem t2_182 : (Jvm.Cond.laysFinal "TrigramReaders$Ranking" "TrigramReaders$Ranking" "weights" "[I") ∈ LW := LW_mem (mt_2 (List.mem_of_getElem? (i := 182) rfl)) rfl
theorem t2_184 : (Jvm.Cond.lays "TrigramReaders$Ranking" "TrigramReaders$Ranking" "size" "I") ∈ LW := LW_mem (mt_2 (List.mem_of_getElem? (i := 184) rfl)) rfl
theorem t2_186 : (Jvm.Cond.lays "TrigramReaders$Ranking" "TrigramReaders$Ranking" "placed" "I") ∈ LW := LW_mem (mt_2 (List.mem_of_getElem? (i := 186) rfl)) rfl
theorem t2_189 : (Jvm.Cond.arrayClass Jvm.ClassFile.FieldType.boolean) ∈ LW := LW_mem (mt_2 (List.mem_of_getElem? (i := 189) rfl)) rfl
theorem t2_190 : (Jvm.Cond.classLink "TrigramReaders" (71 : Nat) "TrigramReaders$Chance") ∈ LW := LW_mem (mt_2 (List.mem_of_getElem? (i := 190) rfl)) rfl
theorem t2_191 : (Jvm.Cond.instantiable "TrigramReaders$Chance" (4 : Nat)) ∈ LW := LW_mem (mt_2 (List.mem_of_getElem? (i := 191) rfl)) rfl
theorem t2_193 : (Jvm.Cond.instanceMethod ({ cls := "TrigramReaders$Chance", name := "<init>", desc := "()V" } : Jvm.MethodName)) ∈ LW := LW_mem (mt_2 (List.mem_of_getElem? (i := 193) rfl)) rfl
theorem t2_194 : (Jvm.Cond.code ({ cls := "TrigramReaders$Chance", name := "<init>", desc := "()V" } : Jvm.MethodName) prog_3_method_1_code (1 : Nat) (Option.none : Option Jvm.ClassFile.FieldType)) ∈ LW := LW_mem (mt_2 (List.mem_of_getElem? (i := 194) rfl)) rfl
theorem t2_195 : (Jvm.Cond.methodLink "TrigramReaders$Chance" (3 : Nat) ({ cls := "java/lang/Object", name := "<init>", desc := "()V" } : Jvm.MethodName)) ∈ LW := LW_mem (mt_2 (List.mem_of_getElem? (i := 195) rfl)) rfl
theorem t2_196 : (Jvm.Cond.fieldLink "TrigramReaders$Chance" (9 : Nat) "TrigramReaders$Chance" "top" "J") ∈ LW := LW_mem (mt_2 (List.mem_of_getElem? (i := 196) rfl)) rfl
theorem t2_197 : (Jvm.Cond.fieldLink "TrigramReaders" (243 : Nat) "TrigramReaders$Chance" "top" "J") ∈ LW := LW_mem (mt_2 (List.mem_of_getElem? (i := 197) rfl)) rfl
theorem t2_198 : (Jvm.Cond.fieldLink "TrigramReaders$Chance" (15 : Nat) "TrigramReaders$Chance" "bottom" "J") ∈ LW := LW_mem (mt_2 (List.mem_of_getElem? (i := 198) rfl)) rfl
theorem t2_199 : (Jvm.Cond.fieldLink "TrigramReaders" (247 : Nat) "TrigramReaders$Chance" "bottom" "J") ∈ LW := LW_mem (mt_2 (List.mem_of_getElem? (i := 199) rfl)) rfl
theorem t2_200 : (Jvm.Cond.fieldLink "TrigramReaders$Chance" (18 : Nat) "TrigramReaders$Chance" "escapeFactors" "I") ∈ LW := LW_mem (mt_2 (List.mem_of_getElem? (i := 200) rfl)) rfl
theorem t2_201 : (Jvm.Cond.fieldLink "TrigramReaders" (240 : Nat) "TrigramReaders$Chance" "escapeFactors" "I") ∈ LW := LW_mem (mt_2 (List.mem_of_getElem? (i := 201) rfl)) rfl
theorem t2_202 : (Jvm.Cond.fieldLink "TrigramReaders$Chance" (22 : Nat) "TrigramReaders$Chance" "excluded" "I") ∈ LW := LW_mem (mt_2 (List.mem_of_getElem? (i := 202) rfl)) rfl
theorem t2_203 : (Jvm.Cond.lays "TrigramReaders$Chance" "TrigramReaders$Chance" "top" "J") ∈ LW := LW_mem (mt_2 (List.mem_of_getElem? (i := 203) rfl)) rfl
theorem t2_205 : (Jvm.Cond.lays "TrigramReaders$Chance" "TrigramReaders$Chance" "bottom" "J") ∈ LW := LW_mem (mt_2 (List.mem_of_getElem? (i := 205) rfl)) rfl
theorem t2_207 : (Jvm.Cond.lays "TrigramReaders$Chance" "TrigramReaders$Chance" "escapeFactors" "I") ∈ LW := LW_mem (mt_2 (List.mem_of_getElem? (i := 207) rfl)) rfl
theorem t2_209 : (Jvm.Cond.lays "TrigramReaders$Chance" "TrigramReaders$Chance" "excluded" "I") ∈ LW := LW_mem (mt_2 (List.mem_of_getElem? (i := 209) rfl)) rfl
theorem t2_212 : (Jvm.Cond.fieldLink "TrigramReaders" (13 : Nat) "TrigramReaders" "state" "LTrigramReaders$State;") ∈ LW := LW_mem (mt_2 (List.mem_of_getElem? (i := 212) rfl)) rfl
theorem t2_213 : (Jvm.Cond.fieldLink "TrigramReaders" (20 : Nat) "TrigramReaders" "loaded" "LTrigramReaders$State;") ∈ LW := LW_mem (mt_2 (List.mem_of_getElem? (i := 213) rfl)) rfl
theorem t2_214 : (Jvm.Cond.fieldLink "TrigramReaders" (23 : Nat) "TrigramReaders" "past" "[LTrigramReaders$State;") ∈ LW := LW_mem (mt_2 (List.mem_of_getElem? (i := 214) rfl)) rfl
theorem t2_215 : (Jvm.Cond.fieldLink "TrigramReaders" (27 : Nat) "TrigramReaders" "pastNext" "I") ∈ LW := LW_mem (mt_2 (List.mem_of_getElem? (i := 215) rfl)) rfl
theorem t2_216 : (Jvm.Cond.fieldLink "TrigramReaders" (31 : Nat) "TrigramReaders" "pastCount" "I") ∈ LW := LW_mem (mt_2 (List.mem_of_getElem? (i := 216) rfl)) rfl
theorem t2_217 : (Jvm.Cond.fieldLink "TrigramReaders" (34 : Nat) "TrigramReaders" "slots" "[LTrigramReaders$State;") ∈ LW := LW_mem (mt_2 (List.mem_of_getElem? (i := 217) rfl)) rfl
theorem t2_218 : (Jvm.Cond.fieldLink "TrigramReaders" (37 : Nat) "TrigramReaders" "slotUsed" "[Z") ∈ LW := LW_mem (mt_2 (List.mem_of_getElem? (i := 218) rfl)) rfl
theorem t2_219 : (Jvm.Cond.fieldLink "TrigramReaders" (44 : Nat) "TrigramReaders" "input" "LTrigramReaders$Bytes;") ∈ LW := LW_mem (mt_2 (List.mem_of_getElem? (i := 219) rfl)) rfl
theorem t2_220 : (Jvm.Cond.fieldLink "TrigramReaders" (48 : Nat) "TrigramReaders" "output" "LTrigramReaders$Bytes;") ∈ LW := LW_mem (mt_2 (List.mem_of_getElem? (i := 220) rfl)) rfl
theorem t2_221 : (Jvm.Cond.fieldLink "TrigramReaders" (51 : Nat) "TrigramReaders" "loadErrorCode" "I") ∈ LW := LW_mem (mt_2 (List.mem_of_getElem? (i := 221) rfl)) rfl
theorem t2_222 : (Jvm.Cond.fieldLink "TrigramReaders" (54 : Nat) "TrigramReaders" "loadErrorPosition" "I") ∈ LW := LW_mem (mt_2 (List.mem_of_getElem? (i := 222) rfl)) rfl
theorem t2_223 : (Jvm.Cond.fieldLink "TrigramReaders" (60 : Nat) "TrigramReaders" "trial" "LTrigramReaders$Counts;") ∈ LW := LW_mem (mt_2 (List.mem_of_getElem? (i := 223) rfl)) rfl
theorem t2_224 : (Jvm.Cond.fieldLink "TrigramReaders" (67 : Nat) "TrigramReaders" "ranking" "LTrigramReaders$Ranking;") ∈ LW := LW_mem (mt_2 (List.mem_of_getElem? (i := 224) rfl)) rfl
theorem t2_225 : (Jvm.Cond.fieldLink "TrigramReaders" (74 : Nat) "TrigramReaders" "chance" "LTrigramReaders$Chance;") ∈ LW := LW_mem (mt_2 (List.mem_of_getElem? (i := 225) rfl)) rfl
theorem t2_226 : (Jvm.Cond.fieldLink "TrigramReaders" (78 : Nat) "TrigramReaders" "decodedRanks" "[I") ∈ LW := LW_mem (mt_2 (List.mem_of_getElem? (i := 226) rfl)) rfl
theorem t2_227 : (Jvm.Cond.laysFinal "TrigramReaders" "TrigramReaders" "state" "LTrigramReaders$State;") ∈ LW := LW_mem (mt_2 (List.mem_of_getElem? (i := 227) rfl)) rfl
theorem t2_229 : (Jvm.Cond.laysFinal "TrigramReaders" "TrigramReaders" "loaded" "LTrigramReaders$State;") ∈ LW := LW_mem (mt_2 (List.mem_of_getElem? (i := 229) rfl)) rfl
theorem t2_231 : (Jvm.Cond.laysFinal "TrigramReaders" "TrigramReaders" "past" "[LTrigramReaders$State;") ∈ LW := LW_mem (mt_2 (List.mem_of_getElem? (i := 231) rfl)) rfl
theorem t2_233 : (Jvm.Cond.lays "TrigramReaders" "TrigramReaders" "pastNext" "I") ∈ LW := LW_mem (mt_2 (List.mem_of_getElem? (i := 233) rfl)) rfl
theorem t2_235 : (Jvm.Cond.lays "TrigramReaders" "TrigramReaders" "pastCount" "I") ∈ LW := LW_mem (mt_2 (List.mem_of_getElem? (i := 235) rfl)) rfl
theorem t2_237 : (Jvm.Cond.laysFinal "TrigramReaders" "TrigramReaders" "slots" "[LTrigramReaders$State;") ∈ LW := LW_mem (mt_2 (List.mem_of_getElem? (i := 237) rfl)) rfl
theorem t2_239 : (Jvm.Cond.laysFinal "TrigramReaders" "TrigramReaders" "slotUsed" "[Z") ∈ LW := LW_mem (mt_2 (List.mem_of_getElem? (i := 239) rfl)) rfl
theorem t3_1 : (Jvm.Cond.laysFinal "TrigramReaders" "TrigramReaders" "input" "LTrigramReaders$Bytes;") ∈ LW := LW_mem (mt_3 (List.mem_of_getElem? (i := 1) rfl)) rfl
theorem t3_3 : (Jvm.Cond.laysFinal "TrigramReaders" "TrigramReaders" "output" "LTrigramReaders$Bytes;") ∈ LW := LW_mem (mt_3 (List.mem_of_getElem? (i := 3) rfl)) rfl
theorem t3_5 : (Jvm.Cond.lays "TrigramReaders" "TrigramReaders" "loadErrorCode" "I") ∈ LW := LW_mem (mt_3 (List.mem_of_getElem? (i := 5) rfl)) rfl
theorem t3_7 : (Jvm.Cond.lays "TrigramReaders" "TrigramReaders" "loadErrorPosition" "I") ∈ LW := LW_mem (mt_3 (List.mem_of_getElem? (i := 7) rfl)) rfl
theorem t3_9 : (Jvm.Cond.laysFinal "TrigramReaders" "TrigramReaders" "trial" "LTrigramReaders$Counts;") ∈ LW := LW_mem (mt_3 (List.mem_of_getElem? (i := 9) rfl)) rfl
theorem t3_11 : (Jvm.Cond.laysFinal "TrigramReaders" "TrigramReaders" "ranking" "LTrigramReaders$Ranking;") ∈ LW := LW_mem (mt_3 (List.mem_of_getElem? (i := 11) rfl)) rfl
theorem t3_13 : (Jvm.Cond.laysFinal "TrigramReaders" "TrigramReaders" "chance" "LTrigramReaders$Chance;") ∈ LW := LW_mem (mt_3 (List.mem_of_getElem? (i := 13) rfl)) rfl
theorem t3_15 : (Jvm.Cond.laysFinal "TrigramReaders" "TrigramReaders" "decodedRanks" "[I") ∈ LW := LW_mem (mt_3 (List.mem_of_getElem? (i := 15) rfl)) rfl
theorem t3_18 : (Jvm.Cond.methodLink "TrigramReadersLaw" (213 : Nat) ({ cls := "TrigramReaders", name := "errorCode", desc := "()I" } : Jvm.MethodName)) ∈ LW := LW_mem (mt_3 (List.mem_of_getElem? (i := 18) rfl)) rfl
theorem t3_19 : (Jvm.Cond.instanceMethod ({ cls := "TrigramReaders", name := "errorCode", desc := "()I" } : Jvm.MethodName)) ∈ LW := LW_mem (mt_3 (List.mem_of_getElem? (i := 19) rfl)) rfl
theorem t3_20 : (Jvm.Cond.selects "TrigramReaders" ({ cls := "TrigramReaders", name := "errorCode", desc := "()I" } : Jvm.MethodName) ({ cls := "TrigramReaders", name := "errorCode", desc := "()I" } : Jvm.MethodName)) ∈ LW := LW_mem (mt_3 (List.mem_of_getElem? (i := 20) rfl)) rfl
theorem t3_21 : (Jvm.Cond.code ({ cls := "TrigramReaders", name := "errorCode", desc := "()I" } : Jvm.MethodName) prog_1_method_6_code (1 : Nat) (Option.some Jvm.ClassFile.FieldType.int)) ∈ LW := LW_mem (mt_3 (List.mem_of_getElem? (i := 21) rfl)) rfl
theorem t3_22 : (Jvm.Cond.methodLink "TrigramReadersLaw" (217 : Nat) ({ cls := "TrigramReaders", name := "errorPosition", desc := "()I" } : Jvm.MethodName)) ∈ LW := LW_mem (mt_3 (List.mem_of_getElem? (i := 22) rfl)) rfl
theorem t3_23 : (Jvm.Cond.instanceMethod ({ cls := "TrigramReaders", name := "errorPosition", desc := "()I" } : Jvm.MethodName)) ∈ LW := LW_mem (mt_3 (List.mem_of_getElem? (i := 23) rfl)) rfl
theorem t3_24 : (Jvm.Cond.selects "TrigramReaders" ({ cls := "TrigramReaders", name := "errorPosition", desc := "()I" } : Jvm.MethodName) ({ cls := "TrigramReaders", name := "errorPosition", desc := "()I" } : Jvm.MethodName)) ∈ LW := LW_mem (mt_3 (List.mem_of_getElem? (i := 24) rfl)) rfl
theorem t3_25 : (Jvm.Cond.code ({ cls := "TrigramReaders", name := "errorPosition", desc := "()I" } : Jvm.MethodName) prog_1_method_7_code (1 : Nat) (Option.some Jvm.ClassFile.FieldType.int)) ∈ LW := LW_mem (mt_3 (List.mem_of_getElem? (i := 25) rfl)) rfl
theorem t3_26 : (Jvm.Cond.methodLink "TrigramReadersLaw" (221 : Nat) ({ cls := "TrigramReaders", name := "year", desc := "()I" } : Jvm.MethodName)) ∈ LW := LW_mem (mt_3 (List.mem_of_getElem? (i := 26) rfl)) rfl
theorem t3_27 : (Jvm.Cond.instanceMethod ({ cls := "TrigramReaders", name := "year", desc := "()I" } : Jvm.MethodName)) ∈ LW := LW_mem (mt_3 (List.mem_of_getElem? (i := 27) rfl)) rfl
theorem t3_28 : (Jvm.Cond.selects "TrigramReaders" ({ cls := "TrigramReaders", name := "year", desc := "()I" } : Jvm.MethodName) ({ cls := "TrigramReaders", name := "year", desc := "()I" } : Jvm.MethodName)) ∈ LW := LW_mem (mt_3 (List.mem_of_getElem? (i := 28) rfl)) rfl
theorem t3_29 : (Jvm.Cond.code ({ cls := "TrigramReaders", name := "year", desc := "()I" } : Jvm.MethodName) prog_1_method_8_code (1 : Nat) (Option.some Jvm.ClassFile.FieldType.int)) ∈ LW := LW_mem (mt_3 (List.mem_of_getElem? (i := 29) rfl)) rfl
theorem t3_30 : (Jvm.Cond.methodLink "TrigramReadersLaw" (225 : Nat) ({ cls := "TrigramReaders", name := "readerCount", desc := "()I" } : Jvm.MethodName)) ∈ LW := LW_mem (mt_3 (List.mem_of_getElem? (i := 30) rfl)) rfl
theorem t3_31 : (Jvm.Cond.instanceMethod ({ cls := "TrigramReaders", name := "readerCount", desc := "()I" } : Jvm.MethodName)) ∈ LW := LW_mem (mt_3 (List.mem_of_getElem? (i := 31) rfl)) rfl
theorem t3_32 : (Jvm.Cond.selects "TrigramReaders" ({ cls := "TrigramReaders", name := "readerCount", desc := "()I" } : Jvm.MethodName) ({ cls := "TrigramReaders", name := "readerCount", desc := "()I" } : Jvm.MethodName)) ∈ LW := LW_mem (mt_3 (List.mem_of_getElem? (i := 32) rfl)) rfl
theorem t3_33 : (Jvm.Cond.code ({ cls := "TrigramReaders", name := "readerCount", desc := "()I" } : Jvm.MethodName) prog_1_method_9_code (1 : Nat) (Option.some Jvm.ClassFile.FieldType.int)) ∈ LW := LW_mem (mt_3 (List.mem_of_getElem? (i := 33) rfl)) rfl
theorem t3_34 : (Jvm.Cond.methodLink "TrigramReadersLaw" (236 : Nat) ({ cls := "TrigramReaders", name := "documentCount", desc := "()I" } : Jvm.MethodName)) ∈ LW := LW_mem (mt_3 (List.mem_of_getElem? (i := 34) rfl)) rfl
theorem t3_35 : (Jvm.Cond.instanceMethod ({ cls := "TrigramReaders", name := "documentCount", desc := "()I" } : Jvm.MethodName)) ∈ LW := LW_mem (mt_3 (List.mem_of_getElem? (i := 35) rfl)) rfl
theorem t3_36 : (Jvm.Cond.selects "TrigramReaders" ({ cls := "TrigramReaders", name := "documentCount", desc := "()I" } : Jvm.MethodName) ({ cls := "TrigramReaders", name := "documentCount", desc := "()I" } : Jvm.MethodName)) ∈ LW := LW_mem (mt_3 (List.mem_of_getElem? (i := 36) rfl)) rfl
theorem t3_37 : (Jvm.Cond.code ({ cls := "TrigramReaders", name := "documentCount", desc := "()I" } : Jvm.MethodName) prog_1_method_12_code (1 : Nat) (Option.some Jvm.ClassFile.FieldType.int)) ∈ LW := LW_mem (mt_3 (List.mem_of_getElem? (i := 37) rfl)) rfl
theorem t3_38 : (Jvm.Cond.methodLink "TrigramReadersLaw" (370 : Nat) ({ cls := "TrigramReaders", name := "endYear", desc := "()I" } : Jvm.MethodName)) ∈ LW := LW_mem (mt_3 (List.mem_of_getElem? (i := 38) rfl)) rfl
theorem t3_39 : (Jvm.Cond.instanceMethod ({ cls := "TrigramReaders", name := "endYear", desc := "()I" } : Jvm.MethodName)) ∈ LW := LW_mem (mt_3 (List.mem_of_getElem? (i := 39) rfl)) rfl
theorem t3_40 : (Jvm.Cond.selects "TrigramReaders" ({ cls := "TrigramReaders", name := "endYear", desc := "()I" } : Jvm.MethodName) ({ cls := "TrigramReaders", name := "endYear", desc := "()I" } : Jvm.MethodName)) ∈ LW := LW_mem (mt_3 (List.mem_of_getElem? (i := 40) rfl)) rfl
theorem t3_41 : (Jvm.Cond.code ({ cls := "TrigramReaders", name := "endYear", desc := "()I" } : Jvm.MethodName) prog_1_method_55_code (1 : Nat) (Option.some Jvm.ClassFile.FieldType.int)) ∈ LW := LW_mem (mt_3 (List.mem_of_getElem? (i := 41) rfl)) rfl
theorem t3_42 : (Jvm.Cond.methodLink "TrigramReaders" (136 : Nat) ({ cls := "TrigramReaders", name := "remember", desc := "()V" } : Jvm.MethodName)) ∈ LW := LW_mem (mt_3 (List.mem_of_getElem? (i := 42) rfl)) rfl
theorem t3_44 : (Jvm.Cond.instanceMethod ({ cls := "TrigramReaders", name := "remember", desc := "()V" } : Jvm.MethodName)) ∈ LW := LW_mem (mt_3 (List.mem_of_getElem? (i := 44) rfl)) rfl
theorem t3_45 : (Jvm.Cond.code ({ cls := "TrigramReaders", name := "remember", desc := "()V" } : Jvm.MethodName) prog_1_method_65_code (1 : Nat) (Option.none : Option Jvm.ClassFile.FieldType)) ∈ LW := LW_mem (mt_3 (List.mem_of_getElem? (i := 45) rfl)) rfl
theorem t3_46 : (Jvm.Cond.methodLink "TrigramReaders" (139 : Nat) ({ cls := "TrigramReaders$State", name := "copyFrom", desc := "(LTrigramReaders$State;)V" } : Jvm.MethodName)) ∈ LW := LW_mem (mt_3 (List.mem_of_getElem? (i := 46) rfl)) rfl
theorem t3_47 : (Jvm.Cond.instanceMethod ({ cls := "TrigramReaders$State", name := "copyFrom", desc := "(LTrigramReaders$State;)V" } : Jvm.MethodName)) ∈ LW := LW_mem (mt_3 (List.mem_of_getElem? (i := 47) rfl)) rfl
theorem t3_48 : (Jvm.Cond.selects "TrigramReaders$State" ({ cls := "TrigramReaders$State", name := "copyFrom", desc := "(LTrigramReaders$State;)V" } : Jvm.MethodName) ({ cls := "TrigramReaders$State", name := "copyFrom", desc := "(LTrigramReaders$State;)V" } : Jvm.MethodName)) ∈ LW := LW_mem (mt_3 (List.mem_of_getElem? (i := 48) rfl)) rfl
theorem t3_49 : (Jvm.Cond.code ({ cls := "TrigramReaders$State", name := "copyFrom", desc := "(LTrigramReaders$State;)V" } : Jvm.MethodName) prog_9_method_2_code (3 : Nat) (Option.none : Option Jvm.ClassFile.FieldType)) ∈ LW := LW_mem (mt_3 (List.mem_of_getElem? (i := 49) rfl)) rfl
theorem t3_50 : (Jvm.Cond.methodLink "TrigramReaders$State" (35 : Nat) ({ cls := "TrigramReaders$Reader", name := "copyFrom", desc := "(LTrigramReaders$Reader;)V" } : Jvm.MethodName)) ∈ LW := LW_mem (mt_3 (List.mem_of_getElem? (i := 50) rfl)) rfl
theorem t3_51 : (Jvm.Cond.instanceMethod ({ cls := "TrigramReaders$Reader", name := "copyFrom", desc := "(LTrigramReaders$Reader;)V" } : Jvm.MethodName)) ∈ LW := LW_mem (mt_3 (List.mem_of_getElem? (i := 51) rfl)) rfl
theorem t3_52 : (Jvm.Cond.selects "TrigramReaders$Reader" ({ cls := "TrigramReaders$Reader", name := "copyFrom", desc := "(LTrigramReaders$Reader;)V" } : Jvm.MethodName) ({ cls := "TrigramReaders$Reader", name := "copyFrom", desc := "(LTrigramReaders$Reader;)V" } : Jvm.MethodName)) ∈ LW := LW_mem (mt_3 (List.mem_of_getElem? (i := 52) rfl)) rfl
theorem t3_53 : (Jvm.Cond.code ({ cls := "TrigramReaders$Reader", name := "copyFrom", desc := "(LTrigramReaders$Reader;)V" } : Jvm.MethodName) prog_8_method_2_code (2 : Nat) (Option.none : Option Jvm.ClassFile.FieldType)) ∈ LW := LW_mem (mt_3 (List.mem_of_getElem? (i := 53) rfl)) rfl
theorem t3_54 : (Jvm.Cond.methodLink "TrigramReaders$Reader" (35 : Nat) ({ cls := "java/lang/System", name := "arraycopy", desc := "(Ljava/lang/Object;ILjava/lang/Object;II)V" } : Jvm.MethodName)) ∈ LW := LW_mem (mt_3 (List.mem_of_getElem? (i := 54) rfl)) rfl
theorem t3_55 : (Jvm.Cond.methodLink "TrigramReaders$Reader" (41 : Nat) ({ cls := "TrigramReaders$Counts", name := "copyFrom", desc := "(LTrigramReaders$Counts;)V" } : Jvm.MethodName)) ∈ LW := LW_mem (mt_3 (List.mem_of_getElem? (i := 55) rfl)) rfl
theorem t3_56 : (Jvm.Cond.instanceMethod ({ cls := "TrigramReaders$Counts", name := "copyFrom", desc := "(LTrigramReaders$Counts;)V" } : Jvm.MethodName)) ∈ LW := LW_mem (mt_3 (List.mem_of_getElem? (i := 56) rfl)) rfl
theorem t3_57 : (Jvm.Cond.selects "TrigramReaders$Counts" ({ cls := "TrigramReaders$Counts", name := "copyFrom", desc := "(LTrigramReaders$Counts;)V" } : Jvm.MethodName) ({ cls := "TrigramReaders$Counts", name := "copyFrom", desc := "(LTrigramReaders$Counts;)V" } : Jvm.MethodName)) ∈ LW := LW_mem (mt_3 (List.mem_of_getElem? (i := 57) rfl)) rfl
theorem t3_58 : (Jvm.Cond.code ({ cls := "TrigramReaders$Counts", name := "copyFrom", desc := "(LTrigramReaders$Counts;)V" } : Jvm.MethodName) prog_4_method_2_code (2 : Nat) (Option.none : Option Jvm.ClassFile.FieldType)) ∈ LW := LW_mem (mt_3 (List.mem_of_getElem? (i := 58) rfl)) rfl
theorem t3_59 : (Jvm.Cond.methodLink "TrigramReaders$State" (39 : Nat) ({ cls := "TrigramReaders$Document", name := "copyFrom", desc := "(LTrigramReaders$Document;)V" } : Jvm.MethodName)) ∈ LW := LW_mem (mt_3 (List.mem_of_getElem? (i := 59) rfl)) rfl
theorem t3_60 : (Jvm.Cond.instanceMethod ({ cls := "TrigramReaders$Document", name := "copyFrom", desc := "(LTrigramReaders$Document;)V" } : Jvm.MethodName)) ∈ LW := LW_mem (mt_3 (List.mem_of_getElem? (i := 60) rfl)) rfl
theorem t3_61 : (Jvm.Cond.selects "TrigramReaders$Document" ({ cls := "TrigramReaders$Document", name := "copyFrom", desc := "(LTrigramReaders$Document;)V" } : Jvm.MethodName) ({ cls := "TrigramReaders$Document", name := "copyFrom", desc := "(LTrigramReaders$Document;)V" } : Jvm.MethodName)) ∈ LW := LW_mem (mt_3 (List.mem_of_getElem? (i := 61) rfl)) rfl
theorem t3_62 : (Jvm.Cond.code ({ cls := "TrigramReaders$Document", name := "copyFrom", desc := "(LTrigramReaders$Document;)V" } : Jvm.MethodName) prog_5_method_2_code (2 : Nat) (Option.none : Option Jvm.ClassFile.FieldType)) ∈ LW := LW_mem (mt_3 (List.mem_of_getElem? (i := 62) rfl)) rfl
theorem t3_63 : (Jvm.Cond.methodLink "TrigramReaders$Document" (22 : Nat) ({ cls := "java/lang/System", name := "arraycopy", desc := "(Ljava/lang/Object;ILjava/lang/Object;II)V" } : Jvm.MethodName)) ∈ LW := LW_mem (mt_3 (List.mem_of_getElem? (i := 63) rfl)) rfl
theorem t3_64 : (Jvm.Cond.methodLink "TrigramReaders" (325 : Nat) ({ cls := "TrigramReaders$State", name := "passYear", desc := "()V" } : Jvm.MethodName)) ∈ LW := LW_mem (mt_3 (List.mem_of_getElem? (i := 64) rfl)) rfl
theorem t3_65 : (Jvm.Cond.methodLink "TrigramReadersLaw" (398 : Nat) ({ cls := "TrigramReaders", name := "undoDepth", desc := "()I" } : Jvm.MethodName)) ∈ LW := LW_mem (mt_3 (List.mem_of_getElem? (i := 65) rfl)) rfl
theorem t3_66 : (Jvm.Cond.instanceMethod ({ cls := "TrigramReaders", name := "undoDepth", desc := "()I" } : Jvm.MethodName)) ∈ LW := LW_mem (mt_3 (List.mem_of_getElem? (i := 66) rfl)) rfl
theorem t3_67 : (Jvm.Cond.selects "TrigramReaders" ({ cls := "TrigramReaders", name := "undoDepth", desc := "()I" } : Jvm.MethodName) ({ cls := "TrigramReaders", name := "undoDepth", desc := "()I" } : Jvm.MethodName)) ∈ LW := LW_mem (mt_3 (List.mem_of_getElem? (i := 67) rfl)) rfl
theorem t3_68 : (Jvm.Cond.code ({ cls := "TrigramReaders", name := "undoDepth", desc := "()I" } : Jvm.MethodName) prog_1_method_64_code (1 : Nat) (Option.some Jvm.ClassFile.FieldType.int)) ∈ LW := LW_mem (mt_3 (List.mem_of_getElem? (i := 68) rfl)) rfl
theorem t3_69 : (Jvm.Cond.methodLink "TrigramReadersLaw" (196 : Nat) ({ cls := "TrigramReadersLaw", name := "appendInput", desc := "(LTrigramReaders;IIIII[J)I" } : Jvm.MethodName)) ∈ LW := LW_mem (mt_3 (List.mem_of_getElem? (i := 69) rfl)) rfl
theorem t3_70 : (Jvm.Cond.static ({ cls := "TrigramReadersLaw", name := "appendInput", desc := "(LTrigramReaders;IIIII[J)I" } : Jvm.MethodName)) ∈ LW := LW_mem (mt_3 (List.mem_of_getElem? (i := 70) rfl)) rfl
theorem t3_71 : (Jvm.Cond.codeWith ({ cls := "TrigramReadersLaw", name := "appendInput", desc := "(LTrigramReaders;IIIII[J)I" } : Jvm.MethodName) method_3_code (8 : Nat) (Option.some Jvm.ClassFile.FieldType.int) [((0 : Nat), (16 : Nat), (19 : Nat), (13 : Nat))]) ∈ LW := LW_mem (mt_3 (List.mem_of_getElem? (i := 71) rfl)) rfl
theorem t3_72 : (Jvm.Cond.classLink "TrigramReadersLaw" (13 : Nat) "java/lang/IllegalStateException") ∈ LW := LW_mem (mt_3 (List.mem_of_getElem? (i := 72) rfl)) rfl
theorem t3_73 : (Jvm.Cond.methodLink "TrigramReadersLaw" (7 : Nat) ({ cls := "TrigramReaders", name := "appendInput", desc := "(IIIII)I" } : Jvm.MethodName)) ∈ LW := LW_mem (mt_3 (List.mem_of_getElem? (i := 73) rfl)) rfl
theorem t3_74 : (Jvm.Cond.instanceMethod ({ cls := "TrigramReaders", name := "appendInput", desc := "(IIIII)I" } : Jvm.MethodName)) ∈ LW := LW_mem (mt_3 (List.mem_of_getElem? (i := 74) rfl)) rfl
theorem t3_75 : (Jvm.Cond.selects "TrigramReaders" ({ cls := "TrigramReaders", name := "appendInput", desc := "(IIIII)I" } : Jvm.MethodName) ({ cls := "TrigramReaders", name := "appendInput", desc := "(IIIII)I" } : Jvm.MethodName)) ∈ LW := LW_mem (mt_3 (List.mem_of_getElem? (i := 75) rfl)) rfl
theorem t3_76 : (Jvm.Cond.code ({ cls := "TrigramReaders", name := "appendInput", desc := "(IIIII)I" } : Jvm.MethodName) prog_1_method_3_code (6 : Nat) (Option.some Jvm.ClassFile.FieldType.int)) ∈ LW := LW_mem (mt_3 (List.mem_of_getElem? (i := 76) rfl)) rfl
theorem t3_77 : (Jvm.Cond.classLink "TrigramReaders" (109 : Nat) "java/lang/IllegalStateException") ∈ LW := LW_mem (mt_3 (List.mem_of_getElem? (i := 77) rfl)) rfl
theorem t3_78 : (Jvm.Cond.instantiable "java/lang/IllegalStateException" (6 : Nat)) ∈ LW := LW_mem (mt_3 (List.mem_of_getElem? (i := 78) rfl)) rfl
theorem t3_86 : (Jvm.Cond.selects "java/lang/IllegalStateException" ({ cls := "java/lang/Throwable", name := "fillInStackTrace", desc := "(I)Ljava/lang/Throwable;" } : Jvm.MethodName) ({ cls := "java/lang/Throwable", name := "fillInStackTrace", desc := "(I)Ljava/lang/Throwable;" } : Jvm.MethodName)) ∈ LW := LW_mem (mt_3 (List.mem_of_getElem? (i := 86) rfl)) rfl
theorem t3_87 : (Jvm.Cond.selects "java/lang/IllegalStateException" ({ cls := "java/lang/Throwable", name := "fillInStackTrace", desc := "()Ljava/lang/Throwable;" } : Jvm.MethodName) ({ cls := "java/lang/Throwable", name := "fillInStackTrace", desc := "()Ljava/lang/Throwable;" } : Jvm.MethodName)) ∈ LW := LW_mem (mt_3 (List.mem_of_getElem? (i := 87) rfl)) rfl
theorem t3_88 : (Jvm.Cond.lays "java/lang/IllegalStateException" "java/lang/Throwable" "cause" "Ljava/lang/Throwable;") ∈ LW := LW_mem (mt_3 (List.mem_of_getElem? (i := 88) rfl)) rfl
theorem t3_89 : (Jvm.Cond.lays "java/lang/Throwable" "java/lang/Throwable" "cause" "Ljava/lang/Throwable;") ∈ LW := LW_mem (mt_3 (List.mem_of_getElem? (i := 89) rfl)) rfl
theorem t3_90 : (Jvm.Cond.lays "java/lang/IllegalStateException" "java/lang/Throwable" "stackTrace" "[Ljava/lang/StackTraceElement;") ∈ LW := LW_mem (mt_3 (List.mem_of_getElem? (i := 90) rfl)) rfl
theorem t3_91 : (Jvm.Cond.lays "java/lang/Throwable" "java/lang/Throwable" "stackTrace" "[Ljava/lang/StackTraceElement;") ∈ LW := LW_mem (mt_3 (List.mem_of_getElem? (i := 91) rfl)) rfl
theorem t3_92 : (Jvm.Cond.lays "java/lang/IllegalStateException" "java/lang/Throwable" "suppressedExceptions" "Ljava/util/List;") ∈ LW := LW_mem (mt_3 (List.mem_of_getElem? (i := 92) rfl)) rfl
theorem t3_93 : (Jvm.Cond.lays "java/lang/Throwable" "java/lang/Throwable" "suppressedExceptions" "Ljava/util/List;") ∈ LW := LW_mem (mt_3 (List.mem_of_getElem? (i := 93) rfl)) rfl
theorem t3_94 : (Jvm.Cond.lays "java/lang/IllegalStateException" "java/lang/Throwable" "detailMessage" "Ljava/lang/String;") ∈ LW := LW_mem (mt_3 (List.mem_of_getElem? (i := 94) rfl)) rfl
theorem t3_95 : (Jvm.Cond.lays "java/lang/Throwable" "java/lang/Throwable" "detailMessage" "Ljava/lang/String;") ∈ LW := LW_mem (mt_3 (List.mem_of_getElem? (i := 95) rfl)) rfl
theorem t3_96 : (Jvm.Cond.lays "java/lang/IllegalStateException" "java/lang/Throwable" "backtrace" "Ljava/lang/Object;") ∈ LW := LW_mem (mt_3 (List.mem_of_getElem? (i := 96) rfl)) rfl
theorem t3_97 : (Jvm.Cond.lays "java/lang/Throwable" "java/lang/Throwable" "backtrace" "Ljava/lang/Object;") ∈ LW := LW_mem (mt_3 (List.mem_of_getElem? (i := 97) rfl)) rfl
theorem t3_98 : (Jvm.Cond.fieldLink "java/lang/Throwable" (198 : Nat) "java/lang/Throwable" "backtrace" "Ljava/lang/Object;") ∈ LW := LW_mem (mt_3 (List.mem_of_getElem? (i := 98) rfl)) rfl
theorem t3_100 : (Jvm.Cond.instanceMethod ({ cls := "java/lang/Throwable", name := "<init>", desc := "()V" } : Jvm.MethodName)) ∈ LW := LW_mem (mt_3 (List.mem_of_getElem? (i := 100) rfl)) rfl
theorem t3_101 : (Jvm.Cond.code ({ cls := "java/lang/Throwable", name := "<init>", desc := "()V" } : Jvm.MethodName) prog_26_method_1_code (1 : Nat) (Option.none : Option Jvm.ClassFile.FieldType)) ∈ LW := LW_mem (mt_3 (List.mem_of_getElem? (i := 101) rfl)) rfl
theorem t3_102 : (Jvm.Cond.methodLink "java/lang/Throwable" (1 : Nat) ({ cls := "java/lang/Object", name := "<init>", desc := "()V" } : Jvm.MethodName)) ∈ LW := LW_mem (mt_3 (List.mem_of_getElem? (i := 102) rfl)) rfl
theorem t3_103 : (Jvm.Cond.fieldLink "java/lang/Throwable" (13 : Nat) "java/lang/Throwable" "UNASSIGNED_STACK" "[Ljava/lang/StackTraceElement;") ∈ LW := LW_mem (mt_3 (List.mem_of_getElem? (i := 103) rfl)) rfl
theorem t3_105 : (Jvm.Cond.fieldLink "java/lang/Throwable" (20 : Nat) "java/lang/Throwable" "SUPPRESSED_SENTINEL" "Ljava/util/List;") ∈ LW := LW_mem (mt_3 (List.mem_of_getElem? (i := 105) rfl)) rfl
theorem t3_107 : (Jvm.Cond.methodLink "java/lang/Throwable" (27 : Nat) ({ cls := "java/lang/Throwable", name := "fillInStackTrace", desc := "()Ljava/lang/Throwable;" } : Jvm.MethodName)) ∈ LW := LW_mem (mt_3 (List.mem_of_getElem? (i := 107) rfl)) rfl
theorem t3_108 : (Jvm.Cond.instanceMethod ({ cls := "java/lang/Throwable", name := "fillInStackTrace", desc := "()Ljava/lang/Throwable;" } : Jvm.MethodName)) ∈ LW := LW_mem (mt_3 (List.mem_of_getElem? (i := 108) rfl)) rfl
theorem t3_110 : (Jvm.Cond.selects "java/lang/IllegalArgumentException" ({ cls := "java/lang/Throwable", name := "fillInStackTrace", desc := "()Ljava/lang/Throwable;" } : Jvm.MethodName) ({ cls := "java/lang/Throwable", name := "fillInStackTrace", desc := "()Ljava/lang/Throwable;" } : Jvm.MethodName)) ∈ LW := LW_mem (mt_3 (List.mem_of_getElem? (i := 110) rfl)) rfl
theorem t3_111 : (Jvm.Cond.selects "java/lang/IndexOutOfBoundsException" ({ cls := "java/lang/Throwable", name := "fillInStackTrace", desc := "()Ljava/lang/Throwable;" } : Jvm.MethodName) ({ cls := "java/lang/Throwable", name := "fillInStackTrace", desc := "()Ljava/lang/Throwable;" } : Jvm.MethodName)) ∈ LW := LW_mem (mt_3 (List.mem_of_getElem? (i := 111) rfl)) rfl
theorem t3_112 : (Jvm.Cond.selects "java/util/NoSuchElementException" ({ cls := "java/lang/Throwable", name := "fillInStackTrace", desc := "()Ljava/lang/Throwable;" } : Jvm.MethodName) ({ cls := "java/lang/Throwable", name := "fillInStackTrace", desc := "()Ljava/lang/Throwable;" } : Jvm.MethodName)) ∈ LW := LW_mem (mt_3 (List.mem_of_getElem? (i := 112) rfl)) rfl
theorem t3_114 : (Jvm.Cond.methodLink "java/lang/Throwable" (202 : Nat) ({ cls := "java/lang/Throwable", name := "fillInStackTrace", desc := "(I)Ljava/lang/Throwable;" } : Jvm.MethodName)) ∈ LW := LW_mem (mt_3 (List.mem_of_getElem? (i := 114) rfl)) rfl
theorem t3_116 : (Jvm.Cond.instanceMethod ({ cls := "java/lang/Throwable", name := "fillInStackTrace", desc := "(I)Ljava/lang/Throwable;" } : Jvm.MethodName)) ∈ LW := LW_mem (mt_3 (List.mem_of_getElem? (i := 116) rfl)) rfl
theorem t3_117 : (Jvm.Cond.instantiable "java/lang/Throwable" (6 : Nat)) ∈ LW := LW_mem (mt_3 (List.mem_of_getElem? (i := 117) rfl)) rfl
theorem t3_118 : (Jvm.Cond.native ({ cls := "java/lang/Throwable", name := "fillInStackTrace", desc := "(I)Ljava/lang/Throwable;" } : Jvm.MethodName)) ∈ LW := LW_mem (mt_3 (List.mem_of_getElem? (i := 118) rfl)) rfl
theorem t3_120 : (Jvm.Cond.methodLink "TrigramReaders" (113 : Nat) ({ cls := "java/lang/IllegalStateException", name := "<init>", desc := "(Ljava/lang/String;)V" } : Jvm.MethodName)) ∈ LW := LW_mem (mt_3 (List.mem_of_getElem? (i := 120) rfl)) rfl
theorem t3_121 : (Jvm.Cond.instanceMethod ({ cls := "java/lang/IllegalStateException", name := "<init>", desc := "(Ljava/lang/String;)V" } : Jvm.MethodName)) ∈ LW := LW_mem (mt_3 (List.mem_of_getElem? (i := 121) rfl)) rfl
theorem t3_122 : (Jvm.Cond.code ({ cls := "java/lang/IllegalStateException", name := "<init>", desc := "(Ljava/lang/String;)V" } : Jvm.MethodName) prog_17_method_2_code (2 : Nat) (Option.none : Option Jvm.ClassFile.FieldType)) ∈ LW := LW_mem (mt_3 (List.mem_of_getElem? (i := 122) rfl)) rfl
theorem t3_123 : (Jvm.Cond.methodLink "java/lang/IllegalStateException" (7 : Nat) ({ cls := "java/lang/RuntimeException", name := "<init>", desc := "(Ljava/lang/String;)V" } : Jvm.MethodName)) ∈ LW := LW_mem (mt_3 (List.mem_of_getElem? (i := 123) rfl)) rfl
theorem t3_124 : (Jvm.Cond.instanceMethod ({ cls := "java/lang/RuntimeException", name := "<init>", desc := "(Ljava/lang/String;)V" } : Jvm.MethodName)) ∈ LW := LW_mem (mt_3 (List.mem_of_getElem? (i := 124) rfl)) rfl
theorem t3_125 : (Jvm.Cond.code ({ cls := "java/lang/RuntimeException", name := "<init>", desc := "(Ljava/lang/String;)V" } : Jvm.MethodName) prog_21_method_2_code (2 : Nat) (Option.none : Option Jvm.ClassFile.FieldType)) ∈ LW := LW_mem (mt_3 (List.mem_of_getElem? (i := 125) rfl)) rfl
theorem t3_126 : (Jvm.Cond.methodLink "java/lang/RuntimeException" (7 : Nat) ({ cls := "java/lang/Exception", name := "<init>", desc := "(Ljava/lang/String;)V" } : Jvm.MethodName)) ∈ LW := LW_mem (mt_3 (List.mem_of_getElem? (i := 126) rfl)) rfl
theorem t3_127 : (Jvm.Cond.instanceMethod ({ cls := "java/lang/Exception", name := "<init>", desc := "(Ljava/lang/String;)V" } : Jvm.MethodName)) ∈ LW := LW_mem (mt_3 (List.mem_of_getElem? (i := 127) rfl)) rfl
theorem t3_128 : (Jvm.Cond.code ({ cls := "java/lang/Exception", name := "<init>", desc := "(Ljava/lang/String;)V" } : Jvm.MethodName) prog_15_method_2_code (2 : Nat) (Option.none : Option Jvm.ClassFile.FieldType)) ∈ LW := LW_mem (mt_3 (List.mem_of_getElem? (i := 128) rfl)) rfl
theorem t3_129 : (Jvm.Cond.methodLink "java/lang/Exception" (7 : Nat) ({ cls := "java/lang/Throwable", name := "<init>", desc := "(Ljava/lang/String;)V" } : Jvm.MethodName)) ∈ LW := LW_mem (mt_3 (List.mem_of_getElem? (i := 129) rfl)) rfl
theorem t3_130 : (Jvm.Cond.instanceMethod ({ cls := "java/lang/Throwable", name := "<init>", desc := "(Ljava/lang/String;)V" } : Jvm.MethodName)) ∈ LW := LW_mem (mt_3 (List.mem_of_getElem? (i := 130) rfl)) rfl
theorem t3_131 : (Jvm.Cond.code ({ cls := "java/lang/Throwable", name := "<init>", desc := "(Ljava/lang/String;)V" } : Jvm.MethodName) prog_26_method_2_code (2 : Nat) (Option.none : Option Jvm.ClassFile.FieldType)) ∈ LW := LW_mem (mt_3 (List.mem_of_getElem? (i := 131) rfl)) rfl
theorem t3_133 : (Jvm.Cond.fieldLink "java/lang/Throwable" (31 : Nat) "java/lang/Throwable" "detailMessage" "Ljava/lang/String;") ∈ LW := LW_mem (mt_3 (List.mem_of_getElem? (i := 133) rfl)) rfl
theorem t3_134 : (Jvm.Cond.fieldLink "java/lang/Throwable" (7 : Nat) "java/lang/Throwable" "cause" "Ljava/lang/Throwable;") ∈ LW := LW_mem (mt_3 (List.mem_of_getElem? (i := 134) rfl)) rfl
theorem t3_135 : (Jvm.Cond.fieldLink "java/lang/Throwable" (17 : Nat) "java/lang/Throwable" "stackTrace" "[Ljava/lang/StackTraceElement;") ∈ LW := LW_mem (mt_3 (List.mem_of_getElem? (i := 135) rfl)) rfl
theorem t3_136 : (Jvm.Cond.fieldLink "java/lang/Throwable" (24 : Nat) "java/lang/Throwable" "suppressedExceptions" "Ljava/util/List;") ∈ LW := LW_mem (mt_3 (List.mem_of_getElem? (i := 136) rfl)) rfl
theorem t3_141 : (Jvm.Cond.lays "java/lang/IllegalStateException" "java/lang/Throwable" "depth" "I") ∈ LW := LW_mem (mt_3 (List.mem_of_getElem? (i := 141) rfl)) rfl
theorem t3_145 : (Jvm.Cond.methodLink "TrigramReaders" (116 : Nat) ({ cls := "TrigramReaders$Bytes", name := "appendFour", desc := "(I)V" } : Jvm.MethodName)) ∈ LW := LW_mem (mt_3 (List.mem_of_getElem? (i := 145) rfl)) rfl
theorem t3_146 : (Jvm.Cond.instanceMethod ({ cls := "TrigramReaders$Bytes", name := "appendFour", desc := "(I)V" } : Jvm.MethodName)) ∈ LW := LW_mem (mt_3 (List.mem_of_getElem? (i := 146) rfl)) rfl
theorem t3_147 : (Jvm.Cond.selects "TrigramReaders$Bytes" ({ cls := "TrigramReaders$Bytes", name := "appendFour", desc := "(I)V" } : Jvm.MethodName) ({ cls := "TrigramReaders$Bytes", name := "appendFour", desc := "(I)V" } : Jvm.MethodName)) ∈ LW := LW_mem (mt_3 (List.mem_of_getElem? (i := 147) rfl)) rfl
theorem t3_148 : (Jvm.Cond.code ({ cls := "TrigramReaders$Bytes", name := "appendFour", desc := "(I)V" } : Jvm.MethodName) prog_2_method_4_code (2 : Nat) (Option.none : Option Jvm.ClassFile.FieldType)) ∈ LW := LW_mem (mt_3 (List.mem_of_getElem? (i := 148) rfl)) rfl
theorem t3_149 : (Jvm.Cond.methodLink "TrigramReaders$Bytes" (19 : Nat) ({ cls := "TrigramReaders$Bytes", name := "append", desc := "(I)V" } : Jvm.MethodName)) ∈ LW := LW_mem (mt_3 (List.mem_of_getElem? (i := 149) rfl)) rfl
theorem t3_150 : (Jvm.Cond.methodLink "TrigramReadersLaw" (205 : Nat) ({ cls := "TrigramReadersLaw", name := "truncateInput", desc := "(LTrigramReaders;I[J)I" } : Jvm.MethodName)) ∈ LW := LW_mem (mt_3 (List.mem_of_getElem? (i := 150) rfl)) rfl
theorem t3_151 : (Jvm.Cond.static ({ cls := "TrigramReadersLaw", name := "truncateInput", desc := "(LTrigramReaders;I[J)I" } : Jvm.MethodName)) ∈ LW := LW_mem (mt_3 (List.mem_of_getElem? (i := 151) rfl)) rfl
theorem t3_152 : (Jvm.Cond.codeWith ({ cls := "TrigramReadersLaw", name := "truncateInput", desc := "(LTrigramReaders;I[J)I" } : Jvm.MethodName) method_4_code (4 : Nat) (Option.some Jvm.ClassFile.FieldType.int) [((0 : Nat), (9 : Nat), (12 : Nat), (19 : Nat))]) ∈ LW := LW_mem (mt_3 (List.mem_of_getElem? (i := 152) rfl)) rfl
theorem t3_153 : (Jvm.Cond.classLink "TrigramReadersLaw" (19 : Nat) "java/lang/IllegalArgumentException") ∈ LW := LW_mem (mt_3 (List.mem_of_getElem? (i := 153) rfl)) rfl
theorem t3_154 : (Jvm.Cond.methodLink "TrigramReadersLaw" (15 : Nat) ({ cls := "TrigramReaders", name := "truncateInput", desc := "(I)I" } : Jvm.MethodName)) ∈ LW := LW_mem (mt_3 (List.mem_of_getElem? (i := 154) rfl)) rfl
theorem t3_155 : (Jvm.Cond.instanceMethod ({ cls := "TrigramReaders", name := "truncateInput", desc := "(I)I" } : Jvm.MethodName)) ∈ LW := LW_mem (mt_3 (List.mem_of_getElem? (i := 155) rfl)) rfl
theorem t3_156 : (Jvm.Cond.selects "TrigramReaders" ({ cls := "TrigramReaders", name := "truncateInput", desc := "(I)I" } : Jvm.MethodName) ({ cls := "TrigramReaders", name := "truncateInput", desc := "(I)I" } : Jvm.MethodName)) ∈ LW := LW_mem (mt_3 (List.mem_of_getElem? (i := 156) rfl)) rfl
theorem t3_157 : (Jvm.Cond.code ({ cls := "TrigramReaders", name := "truncateInput", desc := "(I)I" } : Jvm.MethodName) prog_1_method_4_code (2 : Nat) (Option.some Jvm.ClassFile.FieldType.int)) ∈ LW := LW_mem (mt_3 (List.mem_of_getElem? (i := 157) rfl)) rfl
theorem t3_158 : (Jvm.Cond.classLink "TrigramReaders" (119 : Nat) "java/lang/IllegalArgumentException") ∈ LW := LW_mem (mt_3 (List.mem_of_getElem? (i := 158) rfl)) rfl
theorem t3_159 : (Jvm.Cond.instantiable "java/lang/IllegalArgumentException" (6 : Nat)) ∈ LW := LW_mem (mt_3 (List.mem_of_getElem? (i := 159) rfl)) rfl
theorem t3_161 : (Jvm.Cond.selects "java/lang/IllegalArgumentException" ({ cls := "java/lang/Throwable", name := "fillInStackTrace", desc := "(I)Ljava/lang/Throwable;" } : Jvm.MethodName) ({ cls := "java/lang/Throwable", name := "fillInStackTrace", desc := "(I)Ljava/lang/Throwable;" } : Jvm.MethodName)) ∈ LW := LW_mem (mt_3 (List.mem_of_getElem? (i := 161) rfl)) rfl
theorem t3_162 : (Jvm.Cond.lays "java/lang/IllegalArgumentException" "java/lang/Throwable" "cause" "Ljava/lang/Throwable;") ∈ LW := LW_mem (mt_3 (List.mem_of_getElem? (i := 162) rfl)) rfl
theorem t3_163 : (Jvm.Cond.lays "java/lang/IllegalArgumentException" "java/lang/Throwable" "stackTrace" "[Ljava/lang/StackTraceElement;") ∈ LW := LW_mem (mt_3 (List.mem_of_getElem? (i := 163) rfl)) rfl
theorem t3_164 : (Jvm.Cond.lays "java/lang/IllegalArgumentException" "java/lang/Throwable" "suppressedExceptions" "Ljava/util/List;") ∈ LW := LW_mem (mt_3 (List.mem_of_getElem? (i := 164) rfl)) rfl
theorem t3_165 : (Jvm.Cond.lays "java/lang/IllegalArgumentException" "java/lang/Throwable" "detailMessage" "Ljava/lang/String;") ∈ LW := LW_mem (mt_3 (List.mem_of_getElem? (i := 165) rfl)) rfl
theorem t3_166 : (Jvm.Cond.lays "java/lang/IllegalArgumentException" "java/lang/Throwable" "backtrace" "Ljava/lang/Object;") ∈ LW := LW_mem (mt_3 (List.mem_of_getElem? (i := 166) rfl)) rfl
theorem t3_168 : (Jvm.Cond.methodLink "TrigramReaders" (123 : Nat) ({ cls := "java/lang/IllegalArgumentException", name := "<init>", desc := "(Ljava/lang/String;)V" } : Jvm.MethodName)) ∈ LW := LW_mem (mt_3 (List.mem_of_getElem? (i := 168) rfl)) rfl
theorem t3_169 : (Jvm.Cond.instanceMethod ({ cls := "java/lang/IllegalArgumentException", name := "<init>", desc := "(Ljava/lang/String;)V" } : Jvm.MethodName)) ∈ LW := LW_mem (mt_3 (List.mem_of_getElem? (i := 169) rfl)) rfl
theorem t3_170 : (Jvm.Cond.code ({ cls := "java/lang/IllegalArgumentException", name := "<init>", desc := "(Ljava/lang/String;)V" } : Jvm.MethodName) prog_16_method_2_code (2 : Nat) (Option.none : Option Jvm.ClassFile.FieldType)) ∈ LW := LW_mem (mt_3 (List.mem_of_getElem? (i := 170) rfl)) rfl
theorem t3_171 : (Jvm.Cond.methodLink "java/lang/IllegalArgumentException" (7 : Nat) ({ cls := "java/lang/RuntimeException", name := "<init>", desc := "(Ljava/lang/String;)V" } : Jvm.MethodName)) ∈ LW := LW_mem (mt_3 (List.mem_of_getElem? (i := 171) rfl)) rfl
theorem t3_172 : (Jvm.Cond.lays "java/lang/IllegalArgumentException" "java/lang/Throwable" "depth" "I") ∈ LW := LW_mem (mt_3 (List.mem_of_getElem? (i := 172) rfl)) rfl
theorem t3_174 : (Jvm.Cond.methodLink "TrigramReadersLaw" (209 : Nat) ({ cls := "TrigramReadersLaw", name := "load", desc := "(LTrigramReaders;[J)I" } : Jvm.MethodName)) ∈ LW := LW_mem (mt_3 (List.mem_of_getElem? (i := 174) rfl)) rfl
theorem t3_175 : (Jvm.Cond.static ({ cls := "TrigramReadersLaw", name := "load", desc := "(LTrigramReaders;[J)I" } : Jvm.MethodName)) ∈ LW := LW_mem (mt_3 (List.mem_of_getElem? (i := 175) rfl)) rfl
theorem t3_176 : (Jvm.Cond.codeWith ({ cls := "TrigramReadersLaw", name := "load", desc := "(LTrigramReaders;[J)I" } : Jvm.MethodName) method_5_code (3 : Nat) (Option.some Jvm.ClassFile.FieldType.int) [((0 : Nat), (8 : Nat), (11 : Nat), (19 : Nat))]) ∈ LW := LW_mem (mt_3 (List.mem_of_getElem? (i := 176) rfl)) rfl
theorem t3_177 : (Jvm.Cond.methodLink "TrigramReadersLaw" (21 : Nat) ({ cls := "TrigramReaders", name := "load", desc := "()I" } : Jvm.MethodName)) ∈ LW := LW_mem (mt_3 (List.mem_of_getElem? (i := 177) rfl)) rfl
theorem t3_178 : (Jvm.Cond.instanceMethod ({ cls := "TrigramReaders", name := "load", desc := "()I" } : Jvm.MethodName)) ∈ LW := LW_mem (mt_3 (List.mem_of_getElem? (i := 178) rfl)) rfl
theorem t3_179 : (Jvm.Cond.selects "TrigramReaders" ({ cls := "TrigramReaders", name := "load", desc := "()I" } : Jvm.MethodName) ({ cls := "TrigramReaders", name := "load", desc := "()I" } : Jvm.MethodName)) ∈ LW := LW_mem (mt_3 (List.mem_of_getElem? (i := 179) rfl)) rfl
theorem t3_180 : (Jvm.Cond.code ({ cls := "TrigramReaders", name := "load", desc := "()I" } : Jvm.MethodName) prog_1_method_5_code (3 : Nat) (Option.some Jvm.ClassFile.FieldType.int)) ∈ LW := LW_mem (mt_3 (List.mem_of_getElem? (i := 180) rfl)) rfl
theorem t3_181 : (Jvm.Cond.methodLink "TrigramReaders" (124 : Nat) ({ cls := "TrigramReaders$State", name := "clear", desc := "()V" } : Jvm.MethodName)) ∈ LW := LW_mem (mt_3 (List.mem_of_getElem? (i := 181) rfl)) rfl
theorem t3_182 : (Jvm.Cond.instanceMethod ({ cls := "TrigramReaders$State", name := "clear", desc := "()V" } : Jvm.MethodName)) ∈ LW := LW_mem (mt_3 (List.mem_of_getElem? (i := 182) rfl)) rfl
theorem t3_183 : (Jvm.Cond.selects "TrigramReaders$State" ({ cls := "TrigramReaders$State", name := "clear", desc := "()V" } : Jvm.MethodName) ({ cls := "TrigramReaders$State", name := "clear", desc := "()V" } : Jvm.MethodName)) ∈ LW := LW_mem (mt_3 (List.mem_of_getElem? (i := 183) rfl)) rfl
theorem t3_184 : (Jvm.Cond.code ({ cls := "TrigramReaders$State", name := "clear", desc := "()V" } : Jvm.MethodName) prog_9_method_3_code (1 : Nat) (Option.none : Option Jvm.ClassFile.FieldType)) ∈ LW := LW_mem (mt_3 (List.mem_of_getElem? (i := 184) rfl)) rfl
theorem t3_185 : (Jvm.Cond.methodLink "TrigramReaders" (127 : Nat) ({ cls := "TrigramReaders$Bytes", name := "clear", desc := "()V" } : Jvm.MethodName)) ∈ LW := LW_mem (mt_3 (List.mem_of_getElem? (i := 185) rfl)) rfl
theorem t3_186 : (Jvm.Cond.instanceMethod ({ cls := "TrigramReaders$Bytes", name := "clear", desc := "()V" } : Jvm.MethodName)) ∈ LW := LW_mem (mt_3 (List.mem_of_getElem? (i := 186) rfl)) rfl
theorem t3_187 : (Jvm.Cond.selects "TrigramReaders$Bytes" ({ cls := "TrigramReaders$Bytes", name := "clear", desc := "()V" } : Jvm.MethodName) ({ cls := "TrigramReaders$Bytes", name := "clear", desc := "()V" } : Jvm.MethodName)) ∈ LW := LW_mem (mt_3 (List.mem_of_getElem? (i := 187) rfl)) rfl
theorem t3_188 : (Jvm.Cond.code ({ cls := "TrigramReaders$Bytes", name := "clear", desc := "()V" } : Jvm.MethodName) prog_2_method_2_code (1 : Nat) (Option.none : Option Jvm.ClassFile.FieldType)) ∈ LW := LW_mem (mt_3 (List.mem_of_getElem? (i := 188) rfl)) rfl
theorem t3_190 : (Jvm.Cond.methodLink "TrigramReadersLaw" (229 : Nat) ({ cls := "TrigramReadersLaw", name := "readerNameByte", desc := "(LTrigramReaders;II[J)I" } : Jvm.MethodName)) ∈ LW := LW_mem (mt_3 (List.mem_of_getElem? (i := 190) rfl)) rfl
theorem t3_191 : (Jvm.Cond.static ({ cls := "TrigramReadersLaw", name := "readerNameByte", desc := "(LTrigramReaders;II[J)I" } : Jvm.MethodName)) ∈ LW := LW_mem (mt_3 (List.mem_of_getElem? (i := 191) rfl)) rfl
theorem t3_192 : (Jvm.Cond.codeWith ({ cls := "TrigramReadersLaw", name := "readerNameByte", desc := "(LTrigramReaders;II[J)I" } : Jvm.MethodName) method_6_code (5 : Nat) (Option.some Jvm.ClassFile.FieldType.int) [((0 : Nat), (10 : Nat), (13 : Nat), (29 : Nat)), ((0 : Nat), (10 : Nat), (17 : Nat), (31 : Nat))]) ∈ LW := LW_mem (mt_3 (List.mem_of_getElem? (i := 192) rfl)) rfl
theorem t3_193 : (Jvm.Cond.classLink "TrigramReadersLaw" (29 : Nat) "java/lang/IndexOutOfBoundsException") ∈ LW := LW_mem (mt_3 (List.mem_of_getElem? (i := 193) rfl)) rfl
theorem t3_194 : (Jvm.Cond.classLink "TrigramReadersLaw" (31 : Nat) "java/util/NoSuchElementException") ∈ LW := LW_mem (mt_3 (List.mem_of_getElem? (i := 194) rfl)) rfl
theorem t3_195 : (Jvm.Cond.methodLink "TrigramReadersLaw" (25 : Nat) ({ cls := "TrigramReaders", name := "readerNameByte", desc := "(II)I" } : Jvm.MethodName)) ∈ LW := LW_mem (mt_3 (List.mem_of_getElem? (i := 195) rfl)) rfl
theorem t3_196 : (Jvm.Cond.instanceMethod ({ cls := "TrigramReaders", name := "readerNameByte", desc := "(II)I" } : Jvm.MethodName)) ∈ LW := LW_mem (mt_3 (List.mem_of_getElem? (i := 196) rfl)) rfl
theorem t3_197 : (Jvm.Cond.selects "TrigramReaders" ({ cls := "TrigramReaders", name := "readerNameByte", desc := "(II)I" } : Jvm.MethodName) ({ cls := "TrigramReaders", name := "readerNameByte", desc := "(II)I" } : Jvm.MethodName)) ∈ LW := LW_mem (mt_3 (List.mem_of_getElem? (i := 197) rfl)) rfl
theorem t3_198 : (Jvm.Cond.code ({ cls := "TrigramReaders", name := "readerNameByte", desc := "(II)I" } : Jvm.MethodName) prog_1_method_10_code (4 : Nat) (Option.some Jvm.ClassFile.FieldType.int)) ∈ LW := LW_mem (mt_3 (List.mem_of_getElem? (i := 198) rfl)) rfl
theorem t3_199 : (Jvm.Cond.methodLink "TrigramReaders" (149 : Nat) ({ cls := "TrigramReaders", name := "existingReader", desc := "(I)LTrigramReaders$Reader;" } : Jvm.MethodName)) ∈ LW := LW_mem (mt_3 (List.mem_of_getElem? (i := 199) rfl)) rfl
theorem t3_201 : (Jvm.Cond.instanceMethod ({ cls := "TrigramReaders", name := "existingReader", desc := "(I)LTrigramReaders$Reader;" } : Jvm.MethodName)) ∈ LW := LW_mem (mt_3 (List.mem_of_getElem? (i := 201) rfl)) rfl
theorem t3_202 : (Jvm.Cond.code ({ cls := "TrigramReaders", name := "existingReader", desc := "(I)LTrigramReaders$Reader;" } : Jvm.MethodName) prog_1_method_66_code (3 : Nat) (Option.some (Jvm.ClassFile.FieldType.object "TrigramReaders$Reader"))) ∈ LW := LW_mem (mt_3 (List.mem_of_getElem? (i := 202) rfl)) rfl
theorem t3_203 : (Jvm.Cond.methodLink "TrigramReaders" (361 : Nat) ({ cls := "TrigramReaders$State", name := "readerAt", desc := "(I)LTrigramReaders$Reader;" } : Jvm.MethodName)) ∈ LW := LW_mem (mt_3 (List.mem_of_getElem? (i := 203) rfl)) rfl
theorem t3_204 : (Jvm.Cond.instanceMethod ({ cls := "TrigramReaders$State", name := "readerAt", desc := "(I)LTrigramReaders$Reader;" } : Jvm.MethodName)) ∈ LW := LW_mem (mt_3 (List.mem_of_getElem? (i := 204) rfl)) rfl
theorem t3_205 : (Jvm.Cond.selects "TrigramReaders$State" ({ cls := "TrigramReaders$State", name := "readerAt", desc := "(I)LTrigramReaders$Reader;" } : Jvm.MethodName) ({ cls := "TrigramReaders$State", name := "readerAt", desc := "(I)LTrigramReaders$Reader;" } : Jvm.MethodName)) ∈ LW := LW_mem (mt_3 (List.mem_of_getElem? (i := 205) rfl)) rfl
theorem t3_206 : (Jvm.Cond.code ({ cls := "TrigramReaders$State", name := "readerAt", desc := "(I)LTrigramReaders$Reader;" } : Jvm.MethodName) prog_9_method_5_code (2 : Nat) (Option.some (Jvm.ClassFile.FieldType.object "TrigramReaders$Reader"))) ∈ LW := LW_mem (mt_3 (List.mem_of_getElem? (i := 206) rfl)) rfl
theorem t3_207 : (Jvm.Cond.classLink "TrigramReaders" (364 : Nat) "java/lang/IndexOutOfBoundsException") ∈ LW := LW_mem (mt_3 (List.mem_of_getElem? (i := 207) rfl)) rfl
theorem t3_208 : (Jvm.Cond.instantiable "java/lang/IndexOutOfBoundsException" (6 : Nat)) ∈ LW := LW_mem (mt_3 (List.mem_of_getElem? (i := 208) rfl)) rfl
theorem t3_210 : (Jvm.Cond.selects "java/lang/IndexOutOfBoundsException" ({ cls := "java/lang/Throwable", name := "fillInStackTrace", desc := "(I)Ljava/lang/Throwable;" } : Jvm.MethodName) ({ cls := "java/lang/Throwable", name := "fillInStackTrace", desc := "(I)Ljava/lang/Throwable;" } : Jvm.MethodName)) ∈ LW := LW_mem (mt_3 (List.mem_of_getElem? (i := 210) rfl)) rfl
theorem t3_211 : (Jvm.Cond.lays "java/lang/IndexOutOfBoundsException" "java/lang/Throwable" "cause" "Ljava/lang/Throwable;") ∈ LW := LW_mem (mt_3 (List.mem_of_getElem? (i := 211) rfl)) rfl
theorem t3_212 : (Jvm.Cond.lays "java/lang/IndexOutOfBoundsException" "java/lang/Throwable" "stackTrace" "[Ljava/lang/StackTraceElement;") ∈ LW := LW_mem (mt_3 (List.mem_of_getElem? (i := 212) rfl)) rfl
theorem t3_213 : (Jvm.Cond.lays "java/lang/IndexOutOfBoundsException" "java/lang/Throwable" "suppressedExceptions" "Ljava/util/List;") ∈ LW := LW_mem (mt_3 (List.mem_of_getElem? (i := 213) rfl)) rfl
theorem t3_214 : (Jvm.Cond.lays "java/lang/IndexOutOfBoundsException" "java/lang/Throwable" "detailMessage" "Ljava/lang/String;") ∈ LW := LW_mem (mt_3 (List.mem_of_getElem? (i := 214) rfl)) rfl
theorem t3_215 : (Jvm.Cond.lays "java/lang/IndexOutOfBoundsException" "java/lang/Throwable" "backtrace" "Ljava/lang/Object;") ∈ LW := LW_mem (mt_3 (List.mem_of_getElem? (i := 215) rfl)) rfl
theorem t3_217 : (Jvm.Cond.methodLink "TrigramReaders" (368 : Nat) ({ cls := "java/lang/IndexOutOfBoundsException", name := "<init>", desc := "(Ljava/lang/String;)V" } : Jvm.MethodName)) ∈ LW := LW_mem (mt_3 (List.mem_of_getElem? (i := 217) rfl)) rfl
theorem t3_218 : (Jvm.Cond.instanceMethod ({ cls := "java/lang/IndexOutOfBoundsException", name := "<init>", desc := "(Ljava/lang/String;)V" } : Jvm.MethodName)) ∈ LW := LW_mem (mt_3 (List.mem_of_getElem? (i := 218) rfl)) rfl
theorem t3_219 : (Jvm.Cond.code ({ cls := "java/lang/IndexOutOfBoundsException", name := "<init>", desc := "(Ljava/lang/String;)V" } : Jvm.MethodName) prog_18_method_2_code (2 : Nat) (Option.none : Option Jvm.ClassFile.FieldType)) ∈ LW := LW_mem (mt_3 (List.mem_of_getElem? (i := 219) rfl)) rfl
theorem t3_220 : (Jvm.Cond.methodLink "java/lang/IndexOutOfBoundsException" (7 : Nat) ({ cls := "java/lang/RuntimeException", name := "<init>", desc := "(Ljava/lang/String;)V" } : Jvm.MethodName)) ∈ LW := LW_mem (mt_3 (List.mem_of_getElem? (i := 220) rfl)) rfl
theorem t3_221 : (Jvm.Cond.lays "java/lang/IndexOutOfBoundsException" "java/lang/Throwable" "depth" "I") ∈ LW := LW_mem (mt_3 (List.mem_of_getElem? (i := 221) rfl)) rfl
theorem t3_223 : (Jvm.Cond.methodLink "TrigramReaders" (153 : Nat) ({ cls := "TrigramReaders$Reader", name := "nameAt", desc := "(I)I" } : Jvm.MethodName)) ∈ LW := LW_mem (mt_3 (List.mem_of_getElem? (i := 223) rfl)) rfl
theorem t3_224 : (Jvm.Cond.classLink "TrigramReaders" (159 : Nat) "java/util/NoSuchElementException") ∈ LW := LW_mem (mt_3 (List.mem_of_getElem? (i := 224) rfl)) rfl
theorem t3_225 : (Jvm.Cond.instantiable "java/util/NoSuchElementException" (6 : Nat)) ∈ LW := LW_mem (mt_3 (List.mem_of_getElem? (i := 225) rfl)) rfl
theorem t3_227 : (Jvm.Cond.selects "java/util/NoSuchElementException" ({ cls := "java/lang/Throwable", name := "fillInStackTrace", desc := "(I)Ljava/lang/Throwable;" } : Jvm.MethodName) ({ cls := "java/lang/Throwable", name := "fillInStackTrace", desc := "(I)Ljava/lang/Throwable;" } : Jvm.MethodName)) ∈ LW := LW_mem (mt_3 (List.mem_of_getElem? (i := 227) rfl)) rfl
theorem t3_228 : (Jvm.Cond.lays "java/util/NoSuchElementException" "java/lang/Throwable" "cause" "Ljava/lang/Throwable;") ∈ LW := LW_mem (mt_3 (List.mem_of_getElem? (i := 228) rfl)) rfl
theorem t3_229 : (Jvm.Cond.lays "java/util/NoSuchElementException" "java/lang/Throwable" "stackTrace" "[Ljava/lang/StackTraceElement;") ∈ LW := LW_mem (mt_3 (List.mem_of_getElem? (i := 229) rfl)) rfl
theorem t3_230 : (Jvm.Cond.lays "java/util/NoSuchElementException" "java/lang/Throwable" "suppressedExceptions" "Ljava/util/List;") ∈ LW := LW_mem (mt_3 (List.mem_of_getElem? (i := 230) rfl)) rfl
theorem t3_231 : (Jvm.Cond.lays "java/util/NoSuchElementException" "java/lang/Throwable" "detailMessage" "Ljava/lang/String;") ∈ LW := LW_mem (mt_3 (List.mem_of_getElem? (i := 231) rfl)) rfl
theorem t3_232 : (Jvm.Cond.lays "java/util/NoSuchElementException" "java/lang/Throwable" "backtrace" "Ljava/lang/Object;") ∈ LW := LW_mem (mt_3 (List.mem_of_getElem? (i := 232) rfl)) rfl
theorem t3_234 : (Jvm.Cond.methodLink "TrigramReaders" (163 : Nat) ({ cls := "java/util/NoSuchElementException", name := "<init>", desc := "(Ljava/lang/String;)V" } : Jvm.MethodName)) ∈ LW := LW_mem (mt_3 (List.mem_of_getElem? (i := 234) rfl)) rfl
theorem t3_235 : (Jvm.Cond.instanceMethod ({ cls := "java/util/NoSuchElementException", name := "<init>", desc := "(Ljava/lang/String;)V" } : Jvm.MethodName)) ∈ LW := LW_mem (mt_3 (List.mem_of_getElem? (i := 235) rfl)) rfl
theorem t3_236 : (Jvm.Cond.code ({ cls := "java/util/NoSuchElementException", name := "<init>", desc := "(Ljava/lang/String;)V" } : Jvm.MethodName) prog_29_method_4_code (2 : Nat) (Option.none : Option Jvm.ClassFile.FieldType)) ∈ LW := LW_mem (mt_3 (List.mem_of_getElem? (i := 236) rfl)) rfl
theorem t3_237 : (Jvm.Cond.methodLink "java/util/NoSuchElementException" (13 : Nat) ({ cls := "java/lang/RuntimeException", name := "<init>", desc := "(Ljava/lang/String;)V" } : Jvm.MethodName)) ∈ LW := LW_mem (mt_3 (List.mem_of_getElem? (i := 237) rfl)) rfl
theorem t3_238 : (Jvm.Cond.lays "java/util/NoSuchElementException" "java/lang/Throwable" "depth" "I") ∈ LW := LW_mem (mt_3 (List.mem_of_getElem? (i := 238) rfl)) rfl
theorem t4_0 : (Jvm.Cond.methodLink "TrigramReadersLaw" (233 : Nat) ({ cls := "TrigramReadersLaw", name := "escapeMethod", desc := "(LTrigramReaders;I[J)I" } : Jvm.MethodName)) ∈ LW := LW_mem (mt_4 (List.mem_of_getElem? (i := 0) rfl)) rfl
theorem t4_1 : (Jvm.Cond.static ({ cls := "TrigramReadersLaw", name := "escapeMethod", desc := "(LTrigramReaders;I[J)I" } : Jvm.MethodName)) ∈ LW := LW_mem (mt_4 (List.mem_of_getElem? (i := 1) rfl)) rfl
theorem t4_2 : (Jvm.Cond.codeWith ({ cls := "TrigramReadersLaw", name := "escapeMethod", desc := "(LTrigramReaders;I[J)I" } : Jvm.MethodName) method_7_code (4 : Nat) (Option.some Jvm.ClassFile.FieldType.int) [((0 : Nat), (9 : Nat), (12 : Nat), (29 : Nat))]) ∈ LW := LW_mem (mt_4 (List.mem_of_getElem? (i := 2) rfl)) rfl
theorem t4_3 : (Jvm.Cond.methodLink "TrigramReadersLaw" (33 : Nat) ({ cls := "TrigramReaders", name := "escapeMethod", desc := "(I)I" } : Jvm.MethodName)) ∈ LW := LW_mem (mt_4 (List.mem_of_getElem? (i := 3) rfl)) rfl
theorem t4_4 : (Jvm.Cond.instanceMethod ({ cls := "TrigramReaders", name := "escapeMethod", desc := "(I)I" } : Jvm.MethodName)) ∈ LW := LW_mem (mt_4 (List.mem_of_getElem? (i := 4) rfl)) rfl
theorem t4_5 : (Jvm.Cond.selects "TrigramReaders" ({ cls := "TrigramReaders", name := "escapeMethod", desc := "(I)I" } : Jvm.MethodName) ({ cls := "TrigramReaders", name := "escapeMethod", desc := "(I)I" } : Jvm.MethodName)) ∈ LW := LW_mem (mt_4 (List.mem_of_getElem? (i := 5) rfl)) rfl
theorem t4_6 : (Jvm.Cond.code ({ cls := "TrigramReaders", name := "escapeMethod", desc := "(I)I" } : Jvm.MethodName) prog_1_method_11_code (2 : Nat) (Option.some Jvm.ClassFile.FieldType.int)) ∈ LW := LW_mem (mt_4 (List.mem_of_getElem? (i := 6) rfl)) rfl
theorem t4_7 : (Jvm.Cond.methodLink "TrigramReadersLaw" (240 : Nat) ({ cls := "TrigramReadersLaw", name := "documentLength", desc := "(LTrigramReaders;I[J)I" } : Jvm.MethodName)) ∈ LW := LW_mem (mt_4 (List.mem_of_getElem? (i := 7) rfl)) rfl
theorem t4_8 : (Jvm.Cond.static ({ cls := "TrigramReadersLaw", name := "documentLength", desc := "(LTrigramReaders;I[J)I" } : Jvm.MethodName)) ∈ LW := LW_mem (mt_4 (List.mem_of_getElem? (i := 8) rfl)) rfl
theorem t4_9 : (Jvm.Cond.codeWith ({ cls := "TrigramReadersLaw", name := "documentLength", desc := "(LTrigramReaders;I[J)I" } : Jvm.MethodName) method_8_code (4 : Nat) (Option.some Jvm.ClassFile.FieldType.int) [((0 : Nat), (9 : Nat), (12 : Nat), (29 : Nat))]) ∈ LW := LW_mem (mt_4 (List.mem_of_getElem? (i := 9) rfl)) rfl
theorem t4_10 : (Jvm.Cond.methodLink "TrigramReadersLaw" (36 : Nat) ({ cls := "TrigramReaders", name := "documentLength", desc := "(I)I" } : Jvm.MethodName)) ∈ LW := LW_mem (mt_4 (List.mem_of_getElem? (i := 10) rfl)) rfl
theorem t4_11 : (Jvm.Cond.instanceMethod ({ cls := "TrigramReaders", name := "documentLength", desc := "(I)I" } : Jvm.MethodName)) ∈ LW := LW_mem (mt_4 (List.mem_of_getElem? (i := 11) rfl)) rfl
theorem t4_12 : (Jvm.Cond.selects "TrigramReaders" ({ cls := "TrigramReaders", name := "documentLength", desc := "(I)I" } : Jvm.MethodName) ({ cls := "TrigramReaders", name := "documentLength", desc := "(I)I" } : Jvm.MethodName)) ∈ LW := LW_mem (mt_4 (List.mem_of_getElem? (i := 12) rfl)) rfl
theorem t4_13 : (Jvm.Cond.code ({ cls := "TrigramReaders", name := "documentLength", desc := "(I)I" } : Jvm.MethodName) prog_1_method_13_code (2 : Nat) (Option.some Jvm.ClassFile.FieldType.int)) ∈ LW := LW_mem (mt_4 (List.mem_of_getElem? (i := 13) rfl)) rfl
theorem t4_14 : (Jvm.Cond.methodLink "TrigramReaders" (170 : Nat) ({ cls := "TrigramReaders", name := "existingDocument", desc := "(I)LTrigramReaders$Document;" } : Jvm.MethodName)) ∈ LW := LW_mem (mt_4 (List.mem_of_getElem? (i := 14) rfl)) rfl
theorem t4_16 : (Jvm.Cond.instanceMethod ({ cls := "TrigramReaders", name := "existingDocument", desc := "(I)LTrigramReaders$Document;" } : Jvm.MethodName)) ∈ LW := LW_mem (mt_4 (List.mem_of_getElem? (i := 16) rfl)) rfl
theorem t4_17 : (Jvm.Cond.code ({ cls := "TrigramReaders", name := "existingDocument", desc := "(I)LTrigramReaders$Document;" } : Jvm.MethodName) prog_1_method_67_code (3 : Nat) (Option.some (Jvm.ClassFile.FieldType.object "TrigramReaders$Document"))) ∈ LW := LW_mem (mt_4 (List.mem_of_getElem? (i := 17) rfl)) rfl
theorem t4_18 : (Jvm.Cond.methodLink "TrigramReaders" (369 : Nat) ({ cls := "TrigramReaders$State", name := "documentAt", desc := "(I)LTrigramReaders$Document;" } : Jvm.MethodName)) ∈ LW := LW_mem (mt_4 (List.mem_of_getElem? (i := 18) rfl)) rfl
theorem t4_20 : (Jvm.Cond.methodLink "TrigramReadersLaw" (243 : Nat) ({ cls := "TrigramReadersLaw", name := "documentSymbol", desc := "(LTrigramReaders;II[J)I" } : Jvm.MethodName)) ∈ LW := LW_mem (mt_4 (List.mem_of_getElem? (i := 20) rfl)) rfl
theorem t4_21 : (Jvm.Cond.static ({ cls := "TrigramReadersLaw", name := "documentSymbol", desc := "(LTrigramReaders;II[J)I" } : Jvm.MethodName)) ∈ LW := LW_mem (mt_4 (List.mem_of_getElem? (i := 21) rfl)) rfl
theorem t4_22 : (Jvm.Cond.codeWith ({ cls := "TrigramReadersLaw", name := "documentSymbol", desc := "(LTrigramReaders;II[J)I" } : Jvm.MethodName) method_9_code (5 : Nat) (Option.some Jvm.ClassFile.FieldType.int) [((0 : Nat), (10 : Nat), (13 : Nat), (29 : Nat)), ((0 : Nat), (10 : Nat), (17 : Nat), (31 : Nat))]) ∈ LW := LW_mem (mt_4 (List.mem_of_getElem? (i := 22) rfl)) rfl
theorem t4_23 : (Jvm.Cond.methodLink "TrigramReadersLaw" (39 : Nat) ({ cls := "TrigramReaders", name := "documentSymbol", desc := "(II)I" } : Jvm.MethodName)) ∈ LW := LW_mem (mt_4 (List.mem_of_getElem? (i := 23) rfl)) rfl
theorem t4_24 : (Jvm.Cond.instanceMethod ({ cls := "TrigramReaders", name := "documentSymbol", desc := "(II)I" } : Jvm.MethodName)) ∈ LW := LW_mem (mt_4 (List.mem_of_getElem? (i := 24) rfl)) rfl
theorem t4_25 : (Jvm.Cond.selects "TrigramReaders" ({ cls := "TrigramReaders", name := "documentSymbol", desc := "(II)I" } : Jvm.MethodName) ({ cls := "TrigramReaders", name := "documentSymbol", desc := "(II)I" } : Jvm.MethodName)) ∈ LW := LW_mem (mt_4 (List.mem_of_getElem? (i := 25) rfl)) rfl
theorem t4_26 : (Jvm.Cond.code ({ cls := "TrigramReaders", name := "documentSymbol", desc := "(II)I" } : Jvm.MethodName) prog_1_method_14_code (4 : Nat) (Option.some Jvm.ClassFile.FieldType.int)) ∈ LW := LW_mem (mt_4 (List.mem_of_getElem? (i := 26) rfl)) rfl
theorem t4_27 : (Jvm.Cond.methodLink "TrigramReaders" (177 : Nat) ({ cls := "TrigramReaders$Document", name := "symbolAt", desc := "(I)I" } : Jvm.MethodName)) ∈ LW := LW_mem (mt_4 (List.mem_of_getElem? (i := 27) rfl)) rfl
theorem t4_29 : (Jvm.Cond.methodLink "TrigramReadersLaw" (246 : Nat) ({ cls := "TrigramReadersLaw", name := "documentYear", desc := "(LTrigramReaders;I[J)I" } : Jvm.MethodName)) ∈ LW := LW_mem (mt_4 (List.mem_of_getElem? (i := 29) rfl)) rfl
theorem t4_30 : (Jvm.Cond.static ({ cls := "TrigramReadersLaw", name := "documentYear", desc := "(LTrigramReaders;I[J)I" } : Jvm.MethodName)) ∈ LW := LW_mem (mt_4 (List.mem_of_getElem? (i := 30) rfl)) rfl
theorem t4_31 : (Jvm.Cond.codeWith ({ cls := "TrigramReadersLaw", name := "documentYear", desc := "(LTrigramReaders;I[J)I" } : Jvm.MethodName) method_10_code (4 : Nat) (Option.some Jvm.ClassFile.FieldType.int) [((0 : Nat), (9 : Nat), (12 : Nat), (29 : Nat))]) ∈ LW := LW_mem (mt_4 (List.mem_of_getElem? (i := 31) rfl)) rfl
theorem t4_32 : (Jvm.Cond.methodLink "TrigramReadersLaw" (42 : Nat) ({ cls := "TrigramReaders", name := "documentYear", desc := "(I)I" } : Jvm.MethodName)) ∈ LW := LW_mem (mt_4 (List.mem_of_getElem? (i := 32) rfl)) rfl
theorem t4_33 : (Jvm.Cond.instanceMethod ({ cls := "TrigramReaders", name := "documentYear", desc := "(I)I" } : Jvm.MethodName)) ∈ LW := LW_mem (mt_4 (List.mem_of_getElem? (i := 33) rfl)) rfl
theorem t4_34 : (Jvm.Cond.selects "TrigramReaders" ({ cls := "TrigramReaders", name := "documentYear", desc := "(I)I" } : Jvm.MethodName) ({ cls := "TrigramReaders", name := "documentYear", desc := "(I)I" } : Jvm.MethodName)) ∈ LW := LW_mem (mt_4 (List.mem_of_getElem? (i := 34) rfl)) rfl
theorem t4_35 : (Jvm.Cond.code ({ cls := "TrigramReaders", name := "documentYear", desc := "(I)I" } : Jvm.MethodName) prog_1_method_15_code (2 : Nat) (Option.some Jvm.ClassFile.FieldType.int)) ∈ LW := LW_mem (mt_4 (List.mem_of_getElem? (i := 35) rfl)) rfl
theorem t4_36 : (Jvm.Cond.methodLink "TrigramReadersLaw" (249 : Nat) ({ cls := "TrigramReadersLaw", name := "countOrder0", desc := "(LTrigramReaders;II[J)I" } : Jvm.MethodName)) ∈ LW := LW_mem (mt_4 (List.mem_of_getElem? (i := 36) rfl)) rfl
theorem t4_37 : (Jvm.Cond.static ({ cls := "TrigramReadersLaw", name := "countOrder0", desc := "(LTrigramReaders;II[J)I" } : Jvm.MethodName)) ∈ LW := LW_mem (mt_4 (List.mem_of_getElem? (i := 37) rfl)) rfl
theorem t4_38 : (Jvm.Cond.codeWith ({ cls := "TrigramReadersLaw", name := "countOrder0", desc := "(LTrigramReaders;II[J)I" } : Jvm.MethodName) method_11_code (5 : Nat) (Option.some Jvm.ClassFile.FieldType.int) [((0 : Nat), (10 : Nat), (13 : Nat), (29 : Nat)), ((0 : Nat), (10 : Nat), (17 : Nat), (19 : Nat))]) ∈ LW := LW_mem (mt_4 (List.mem_of_getElem? (i := 38) rfl)) rfl
theorem t4_39 : (Jvm.Cond.methodLink "TrigramReadersLaw" (45 : Nat) ({ cls := "TrigramReaders", name := "countOrder0", desc := "(II)I" } : Jvm.MethodName)) ∈ LW := LW_mem (mt_4 (List.mem_of_getElem? (i := 39) rfl)) rfl
theorem t4_40 : (Jvm.Cond.instanceMethod ({ cls := "TrigramReaders", name := "countOrder0", desc := "(II)I" } : Jvm.MethodName)) ∈ LW := LW_mem (mt_4 (List.mem_of_getElem? (i := 40) rfl)) rfl
theorem t4_41 : (Jvm.Cond.selects "TrigramReaders" ({ cls := "TrigramReaders", name := "countOrder0", desc := "(II)I" } : Jvm.MethodName) ({ cls := "TrigramReaders", name := "countOrder0", desc := "(II)I" } : Jvm.MethodName)) ∈ LW := LW_mem (mt_4 (List.mem_of_getElem? (i := 41) rfl)) rfl
theorem t4_42 : (Jvm.Cond.code ({ cls := "TrigramReaders", name := "countOrder0", desc := "(II)I" } : Jvm.MethodName) prog_1_method_16_code (4 : Nat) (Option.some Jvm.ClassFile.FieldType.int)) ∈ LW := LW_mem (mt_4 (List.mem_of_getElem? (i := 42) rfl)) rfl
theorem t4_43 : (Jvm.Cond.methodLink "TrigramReaders" (185 : Nat) ({ cls := "TrigramReaders", name := "requireSymbol", desc := "(I)V" } : Jvm.MethodName)) ∈ LW := LW_mem (mt_4 (List.mem_of_getElem? (i := 43) rfl)) rfl
theorem t4_44 : (Jvm.Cond.static ({ cls := "TrigramReaders", name := "requireSymbol", desc := "(I)V" } : Jvm.MethodName)) ∈ LW := LW_mem (mt_4 (List.mem_of_getElem? (i := 44) rfl)) rfl
theorem t4_45 : (Jvm.Cond.code ({ cls := "TrigramReaders", name := "requireSymbol", desc := "(I)V" } : Jvm.MethodName) prog_1_method_70_code (1 : Nat) (Option.none : Option Jvm.ClassFile.FieldType)) ∈ LW := LW_mem (mt_4 (List.mem_of_getElem? (i := 45) rfl)) rfl
theorem t4_46 : (Jvm.Cond.methodLink "TrigramReaders" (378 : Nat) ({ cls := "TrigramReaders", name := "isSymbol", desc := "(I)Z" } : Jvm.MethodName)) ∈ LW := LW_mem (mt_4 (List.mem_of_getElem? (i := 46) rfl)) rfl
theorem t4_47 : (Jvm.Cond.static ({ cls := "TrigramReaders", name := "isSymbol", desc := "(I)Z" } : Jvm.MethodName)) ∈ LW := LW_mem (mt_4 (List.mem_of_getElem? (i := 47) rfl)) rfl
theorem t4_48 : (Jvm.Cond.code ({ cls := "TrigramReaders", name := "isSymbol", desc := "(I)Z" } : Jvm.MethodName) prog_1_method_72_code (1 : Nat) (Option.some Jvm.ClassFile.FieldType.boolean)) ∈ LW := LW_mem (mt_4 (List.mem_of_getElem? (i := 48) rfl)) rfl
theorem t4_50 : (Jvm.Cond.methodLink "TrigramReaders" (191 : Nat) ({ cls := "TrigramReaders", name := "contextStart", desc := "(III)I" } : Jvm.MethodName)) ∈ LW := LW_mem (mt_4 (List.mem_of_getElem? (i := 50) rfl)) rfl
theorem t4_51 : (Jvm.Cond.methodLink "TrigramReaders" (195 : Nat) ({ cls := "TrigramReaders$Counts", name := "valueOf", desc := "(I)I" } : Jvm.MethodName)) ∈ LW := LW_mem (mt_4 (List.mem_of_getElem? (i := 51) rfl)) rfl
theorem t4_52 : (Jvm.Cond.instanceMethod ({ cls := "TrigramReaders$Counts", name := "valueOf", desc := "(I)I" } : Jvm.MethodName)) ∈ LW := LW_mem (mt_4 (List.mem_of_getElem? (i := 52) rfl)) rfl
theorem t4_53 : (Jvm.Cond.selects "TrigramReaders$Counts" ({ cls := "TrigramReaders$Counts", name := "valueOf", desc := "(I)I" } : Jvm.MethodName) ({ cls := "TrigramReaders$Counts", name := "valueOf", desc := "(I)I" } : Jvm.MethodName)) ∈ LW := LW_mem (mt_4 (List.mem_of_getElem? (i := 53) rfl)) rfl
theorem t4_54 : (Jvm.Cond.code ({ cls := "TrigramReaders$Counts", name := "valueOf", desc := "(I)I" } : Jvm.MethodName) prog_4_method_4_code (3 : Nat) (Option.some Jvm.ClassFile.FieldType.int)) ∈ LW := LW_mem (mt_4 (List.mem_of_getElem? (i := 54) rfl)) rfl
theorem t4_55 : (Jvm.Cond.methodLink "TrigramReadersLaw" (252 : Nat) ({ cls := "TrigramReadersLaw", name := "countOrder1", desc := "(LTrigramReaders;III[J)I" } : Jvm.MethodName)) ∈ LW := LW_mem (mt_4 (List.mem_of_getElem? (i := 55) rfl)) rfl
theorem t4_56 : (Jvm.Cond.static ({ cls := "TrigramReadersLaw", name := "countOrder1", desc := "(LTrigramReaders;III[J)I" } : Jvm.MethodName)) ∈ LW := LW_mem (mt_4 (List.mem_of_getElem? (i := 56) rfl)) rfl
theorem t4_57 : (Jvm.Cond.codeWith ({ cls := "TrigramReadersLaw", name := "countOrder1", desc := "(LTrigramReaders;III[J)I" } : Jvm.MethodName) method_12_code (6 : Nat) (Option.some Jvm.ClassFile.FieldType.int) [((0 : Nat), (12 : Nat), (15 : Nat), (29 : Nat)), ((0 : Nat), (12 : Nat), (19 : Nat), (19 : Nat))]) ∈ LW := LW_mem (mt_4 (List.mem_of_getElem? (i := 57) rfl)) rfl
theorem t4_58 : (Jvm.Cond.methodLink "TrigramReadersLaw" (48 : Nat) ({ cls := "TrigramReaders", name := "countOrder1", desc := "(III)I" } : Jvm.MethodName)) ∈ LW := LW_mem (mt_4 (List.mem_of_getElem? (i := 58) rfl)) rfl
theorem t4_59 : (Jvm.Cond.instanceMethod ({ cls := "TrigramReaders", name := "countOrder1", desc := "(III)I" } : Jvm.MethodName)) ∈ LW := LW_mem (mt_4 (List.mem_of_getElem? (i := 59) rfl)) rfl
theorem t4_60 : (Jvm.Cond.selects "TrigramReaders" ({ cls := "TrigramReaders", name := "countOrder1", desc := "(III)I" } : Jvm.MethodName) ({ cls := "TrigramReaders", name := "countOrder1", desc := "(III)I" } : Jvm.MethodName)) ∈ LW := LW_mem (mt_4 (List.mem_of_getElem? (i := 60) rfl)) rfl
theorem t4_61 : (Jvm.Cond.code ({ cls := "TrigramReaders", name := "countOrder1", desc := "(III)I" } : Jvm.MethodName) prog_1_method_17_code (5 : Nat) (Option.some Jvm.ClassFile.FieldType.int)) ∈ LW := LW_mem (mt_4 (List.mem_of_getElem? (i := 61) rfl)) rfl
theorem t4_62 : (Jvm.Cond.methodLink "TrigramReadersLaw" (256 : Nat) ({ cls := "TrigramReadersLaw", name := "countOrder2", desc := "(LTrigramReaders;IIII[J)I" } : Jvm.MethodName)) ∈ LW := LW_mem (mt_4 (List.mem_of_getElem? (i := 62) rfl)) rfl
theorem t4_63 : (Jvm.Cond.static ({ cls := "TrigramReadersLaw", name := "countOrder2", desc := "(LTrigramReaders;IIII[J)I" } : Jvm.MethodName)) ∈ LW := LW_mem (mt_4 (List.mem_of_getElem? (i := 63) rfl)) rfl
theorem t4_64 : (Jvm.Cond.codeWith ({ cls := "TrigramReadersLaw", name := "countOrder2", desc := "(LTrigramReaders;IIII[J)I" } : Jvm.MethodName) method_13_code (7 : Nat) (Option.some Jvm.ClassFile.FieldType.int) [((0 : Nat), (14 : Nat), (17 : Nat), (29 : Nat)), ((0 : Nat), (14 : Nat), (21 : Nat), (19 : Nat))]) ∈ LW := LW_mem (mt_4 (List.mem_of_getElem? (i := 64) rfl)) rfl
theorem t4_65 : (Jvm.Cond.methodLink "TrigramReadersLaw" (52 : Nat) ({ cls := "TrigramReaders", name := "countOrder2", desc := "(IIII)I" } : Jvm.MethodName)) ∈ LW := LW_mem (mt_4 (List.mem_of_getElem? (i := 65) rfl)) rfl
theorem t4_66 : (Jvm.Cond.instanceMethod ({ cls := "TrigramReaders", name := "countOrder2", desc := "(IIII)I" } : Jvm.MethodName)) ∈ LW := LW_mem (mt_4 (List.mem_of_getElem? (i := 66) rfl)) rfl
theorem t4_67 : (Jvm.Cond.selects "TrigramReaders" ({ cls := "TrigramReaders", name := "countOrder2", desc := "(IIII)I" } : Jvm.MethodName) ({ cls := "TrigramReaders", name := "countOrder2", desc := "(IIII)I" } : Jvm.MethodName)) ∈ LW := LW_mem (mt_4 (List.mem_of_getElem? (i := 67) rfl)) rfl
theorem t4_68 : (Jvm.Cond.code ({ cls := "TrigramReaders", name := "countOrder2", desc := "(IIII)I" } : Jvm.MethodName) prog_1_method_18_code (6 : Nat) (Option.some Jvm.ClassFile.FieldType.int)) ∈ LW := LW_mem (mt_4 (List.mem_of_getElem? (i := 68) rfl)) rfl
theorem t4_69 : (Jvm.Cond.methodLink "TrigramReadersLaw" (260 : Nat) ({ cls := "TrigramReadersLaw", name := "contextTotal", desc := "(LTrigramReaders;III[J)I" } : Jvm.MethodName)) ∈ LW := LW_mem (mt_4 (List.mem_of_getElem? (i := 69) rfl)) rfl
theorem t4_70 : (Jvm.Cond.static ({ cls := "TrigramReadersLaw", name := "contextTotal", desc := "(LTrigramReaders;III[J)I" } : Jvm.MethodName)) ∈ LW := LW_mem (mt_4 (List.mem_of_getElem? (i := 70) rfl)) rfl
theorem t4_71 : (Jvm.Cond.codeWith ({ cls := "TrigramReadersLaw", name := "contextTotal", desc := "(LTrigramReaders;III[J)I" } : Jvm.MethodName) method_14_code (6 : Nat) (Option.some Jvm.ClassFile.FieldType.int) [((0 : Nat), (12 : Nat), (15 : Nat), (29 : Nat)), ((0 : Nat), (12 : Nat), (19 : Nat), (19 : Nat))]) ∈ LW := LW_mem (mt_4 (List.mem_of_getElem? (i := 71) rfl)) rfl
theorem t4_72 : (Jvm.Cond.methodLink "TrigramReadersLaw" (56 : Nat) ({ cls := "TrigramReaders", name := "contextTotal", desc := "(III)I" } : Jvm.MethodName)) ∈ LW := LW_mem (mt_4 (List.mem_of_getElem? (i := 72) rfl)) rfl
theorem t4_73 : (Jvm.Cond.instanceMethod ({ cls := "TrigramReaders", name := "contextTotal", desc := "(III)I" } : Jvm.MethodName)) ∈ LW := LW_mem (mt_4 (List.mem_of_getElem? (i := 73) rfl)) rfl
theorem t4_74 : (Jvm.Cond.selects "TrigramReaders" ({ cls := "TrigramReaders", name := "contextTotal", desc := "(III)I" } : Jvm.MethodName) ({ cls := "TrigramReaders", name := "contextTotal", desc := "(III)I" } : Jvm.MethodName)) ∈ LW := LW_mem (mt_4 (List.mem_of_getElem? (i := 74) rfl)) rfl
theorem t4_75 : (Jvm.Cond.code ({ cls := "TrigramReaders", name := "contextTotal", desc := "(III)I" } : Jvm.MethodName) prog_1_method_19_code (6 : Nat) (Option.some Jvm.ClassFile.FieldType.int)) ∈ LW := LW_mem (mt_4 (List.mem_of_getElem? (i := 75) rfl)) rfl
theorem t4_76 : (Jvm.Cond.methodLink "TrigramReaders" (198 : Nat) ({ cls := "TrigramReaders", name := "requireContext", desc := "(II)V" } : Jvm.MethodName)) ∈ LW := LW_mem (mt_4 (List.mem_of_getElem? (i := 76) rfl)) rfl
theorem t4_77 : (Jvm.Cond.static ({ cls := "TrigramReaders", name := "requireContext", desc := "(II)V" } : Jvm.MethodName)) ∈ LW := LW_mem (mt_4 (List.mem_of_getElem? (i := 77) rfl)) rfl
theorem t4_78 : (Jvm.Cond.code ({ cls := "TrigramReaders", name := "requireContext", desc := "(II)V" } : Jvm.MethodName) prog_1_method_71_code (3 : Nat) (Option.none : Option Jvm.ClassFile.FieldType)) ∈ LW := LW_mem (mt_4 (List.mem_of_getElem? (i := 78) rfl)) rfl
theorem t4_80 : (Jvm.Cond.methodLink "TrigramReaders" (202 : Nat) ({ cls := "TrigramReaders", name := "firstOrder", desc := "(II)I" } : Jvm.MethodName)) ∈ LW := LW_mem (mt_4 (List.mem_of_getElem? (i := 80) rfl)) rfl
theorem t4_81 : (Jvm.Cond.methodLink "TrigramReaders" (206 : Nat) ({ cls := "TrigramReaders$Counts", name := "sumIn", desc := "(I)I" } : Jvm.MethodName)) ∈ LW := LW_mem (mt_4 (List.mem_of_getElem? (i := 81) rfl)) rfl
theorem t4_82 : (Jvm.Cond.instanceMethod ({ cls := "TrigramReaders$Counts", name := "sumIn", desc := "(I)I" } : Jvm.MethodName)) ∈ LW := LW_mem (mt_4 (List.mem_of_getElem? (i := 82) rfl)) rfl
theorem t4_83 : (Jvm.Cond.selects "TrigramReaders$Counts" ({ cls := "TrigramReaders$Counts", name := "sumIn", desc := "(I)I" } : Jvm.MethodName) ({ cls := "TrigramReaders$Counts", name := "sumIn", desc := "(I)I" } : Jvm.MethodName)) ∈ LW := LW_mem (mt_4 (List.mem_of_getElem? (i := 83) rfl)) rfl
theorem t4_84 : (Jvm.Cond.code ({ cls := "TrigramReaders$Counts", name := "sumIn", desc := "(I)I" } : Jvm.MethodName) prog_4_method_11_code (4 : Nat) (Option.some Jvm.ClassFile.FieldType.int)) ∈ LW := LW_mem (mt_4 (List.mem_of_getElem? (i := 84) rfl)) rfl
theorem t4_85 : (Jvm.Cond.methodLink "TrigramReadersLaw" (263 : Nat) ({ cls := "TrigramReadersLaw", name := "contextSymbols", desc := "(LTrigramReaders;III[J)I" } : Jvm.MethodName)) ∈ LW := LW_mem (mt_4 (List.mem_of_getElem? (i := 85) rfl)) rfl
theorem t4_86 : (Jvm.Cond.static ({ cls := "TrigramReadersLaw", name := "contextSymbols", desc := "(LTrigramReaders;III[J)I" } : Jvm.MethodName)) ∈ LW := LW_mem (mt_4 (List.mem_of_getElem? (i := 86) rfl)) rfl
theorem t4_87 : (Jvm.Cond.codeWith ({ cls := "TrigramReadersLaw", name := "contextSymbols", desc := "(LTrigramReaders;III[J)I" } : Jvm.MethodName) method_15_code (6 : Nat) (Option.some Jvm.ClassFile.FieldType.int) [((0 : Nat), (12 : Nat), (15 : Nat), (29 : Nat)), ((0 : Nat), (12 : Nat), (19 : Nat), (19 : Nat))]) ∈ LW := LW_mem (mt_4 (List.mem_of_getElem? (i := 87) rfl)) rfl
theorem t4_88 : (Jvm.Cond.methodLink "TrigramReadersLaw" (59 : Nat) ({ cls := "TrigramReaders", name := "contextSymbols", desc := "(III)I" } : Jvm.MethodName)) ∈ LW := LW_mem (mt_4 (List.mem_of_getElem? (i := 88) rfl)) rfl
theorem t4_89 : (Jvm.Cond.instanceMethod ({ cls := "TrigramReaders", name := "contextSymbols", desc := "(III)I" } : Jvm.MethodName)) ∈ LW := LW_mem (mt_4 (List.mem_of_getElem? (i := 89) rfl)) rfl
theorem t4_90 : (Jvm.Cond.selects "TrigramReaders" ({ cls := "TrigramReaders", name := "contextSymbols", desc := "(III)I" } : Jvm.MethodName) ({ cls := "TrigramReaders", name := "contextSymbols", desc := "(III)I" } : Jvm.MethodName)) ∈ LW := LW_mem (mt_4 (List.mem_of_getElem? (i := 90) rfl)) rfl
theorem t4_91 : (Jvm.Cond.code ({ cls := "TrigramReaders", name := "contextSymbols", desc := "(III)I" } : Jvm.MethodName) prog_1_method_20_code (6 : Nat) (Option.some Jvm.ClassFile.FieldType.int)) ∈ LW := LW_mem (mt_4 (List.mem_of_getElem? (i := 91) rfl)) rfl
theorem t4_92 : (Jvm.Cond.methodLink "TrigramReaders" (209 : Nat) ({ cls := "TrigramReaders$Counts", name := "symbolsIn", desc := "(I)I" } : Jvm.MethodName)) ∈ LW := LW_mem (mt_4 (List.mem_of_getElem? (i := 92) rfl)) rfl
theorem t4_93 : (Jvm.Cond.instanceMethod ({ cls := "TrigramReaders$Counts", name := "symbolsIn", desc := "(I)I" } : Jvm.MethodName)) ∈ LW := LW_mem (mt_4 (List.mem_of_getElem? (i := 93) rfl)) rfl
theorem t4_94 : (Jvm.Cond.selects "TrigramReaders$Counts" ({ cls := "TrigramReaders$Counts", name := "symbolsIn", desc := "(I)I" } : Jvm.MethodName) ({ cls := "TrigramReaders$Counts", name := "symbolsIn", desc := "(I)I" } : Jvm.MethodName)) ∈ LW := LW_mem (mt_4 (List.mem_of_getElem? (i := 94) rfl)) rfl
theorem t4_95 : (Jvm.Cond.code ({ cls := "TrigramReaders$Counts", name := "symbolsIn", desc := "(I)I" } : Jvm.MethodName) prog_4_method_10_code (2 : Nat) (Option.some Jvm.ClassFile.FieldType.int)) ∈ LW := LW_mem (mt_4 (List.mem_of_getElem? (i := 95) rfl)) rfl
theorem t4_96 : (Jvm.Cond.methodLink "TrigramReadersLaw" (266 : Nat) ({ cls := "TrigramReadersLaw", name := "order2Contexts", desc := "(LTrigramReaders;I[J)I" } : Jvm.MethodName)) ∈ LW := LW_mem (mt_4 (List.mem_of_getElem? (i := 96) rfl)) rfl
theorem t4_97 : (Jvm.Cond.static ({ cls := "TrigramReadersLaw", name := "order2Contexts", desc := "(LTrigramReaders;I[J)I" } : Jvm.MethodName)) ∈ LW := LW_mem (mt_4 (List.mem_of_getElem? (i := 97) rfl)) rfl
theorem t4_98 : (Jvm.Cond.codeWith ({ cls := "TrigramReadersLaw", name := "order2Contexts", desc := "(LTrigramReaders;I[J)I" } : Jvm.MethodName) method_16_code (4 : Nat) (Option.some Jvm.ClassFile.FieldType.int) [((0 : Nat), (9 : Nat), (12 : Nat), (29 : Nat))]) ∈ LW := LW_mem (mt_4 (List.mem_of_getElem? (i := 98) rfl)) rfl
theorem t4_99 : (Jvm.Cond.methodLink "TrigramReadersLaw" (62 : Nat) ({ cls := "TrigramReaders", name := "order2Contexts", desc := "(I)I" } : Jvm.MethodName)) ∈ LW := LW_mem (mt_4 (List.mem_of_getElem? (i := 99) rfl)) rfl
theorem t4_100 : (Jvm.Cond.instanceMethod ({ cls := "TrigramReaders", name := "order2Contexts", desc := "(I)I" } : Jvm.MethodName)) ∈ LW := LW_mem (mt_4 (List.mem_of_getElem? (i := 100) rfl)) rfl
theorem t4_101 : (Jvm.Cond.selects "TrigramReaders" ({ cls := "TrigramReaders", name := "order2Contexts", desc := "(I)I" } : Jvm.MethodName) ({ cls := "TrigramReaders", name := "order2Contexts", desc := "(I)I" } : Jvm.MethodName)) ∈ LW := LW_mem (mt_4 (List.mem_of_getElem? (i := 101) rfl)) rfl
theorem t4_102 : (Jvm.Cond.code ({ cls := "TrigramReaders", name := "order2Contexts", desc := "(I)I" } : Jvm.MethodName) prog_1_method_21_code (2 : Nat) (Option.some Jvm.ClassFile.FieldType.int)) ∈ LW := LW_mem (mt_4 (List.mem_of_getElem? (i := 102) rfl)) rfl
theorem t4_103 : (Jvm.Cond.methodLink "TrigramReaders" (212 : Nat) ({ cls := "TrigramReaders$Counts", name := "pairsUsed", desc := "()I" } : Jvm.MethodName)) ∈ LW := LW_mem (mt_4 (List.mem_of_getElem? (i := 103) rfl)) rfl
theorem t4_104 : (Jvm.Cond.instanceMethod ({ cls := "TrigramReaders$Counts", name := "pairsUsed", desc := "()I" } : Jvm.MethodName)) ∈ LW := LW_mem (mt_4 (List.mem_of_getElem? (i := 104) rfl)) rfl
theorem t4_105 : (Jvm.Cond.selects "TrigramReaders$Counts" ({ cls := "TrigramReaders$Counts", name := "pairsUsed", desc := "()I" } : Jvm.MethodName) ({ cls := "TrigramReaders$Counts", name := "pairsUsed", desc := "()I" } : Jvm.MethodName)) ∈ LW := LW_mem (mt_4 (List.mem_of_getElem? (i := 105) rfl)) rfl
theorem t4_106 : (Jvm.Cond.code ({ cls := "TrigramReaders$Counts", name := "pairsUsed", desc := "()I" } : Jvm.MethodName) prog_4_method_12_code (5 : Nat) (Option.some Jvm.ClassFile.FieldType.int)) ∈ LW := LW_mem (mt_4 (List.mem_of_getElem? (i := 106) rfl)) rfl
theorem t4_107 : (Jvm.Cond.methodLink "TrigramReadersLaw" (269 : Nat) ({ cls := "TrigramReadersLaw", name := "positiveCounts", desc := "(LTrigramReaders;I[J)I" } : Jvm.MethodName)) ∈ LW := LW_mem (mt_4 (List.mem_of_getElem? (i := 107) rfl)) rfl
theorem t4_108 : (Jvm.Cond.static ({ cls := "TrigramReadersLaw", name := "positiveCounts", desc := "(LTrigramReaders;I[J)I" } : Jvm.MethodName)) ∈ LW := LW_mem (mt_4 (List.mem_of_getElem? (i := 108) rfl)) rfl
theorem t4_109 : (Jvm.Cond.codeWith ({ cls := "TrigramReadersLaw", name := "positiveCounts", desc := "(LTrigramReaders;I[J)I" } : Jvm.MethodName) method_17_code (4 : Nat) (Option.some Jvm.ClassFile.FieldType.int) [((0 : Nat), (9 : Nat), (12 : Nat), (29 : Nat))]) ∈ LW := LW_mem (mt_4 (List.mem_of_getElem? (i := 109) rfl)) rfl
theorem t4_110 : (Jvm.Cond.methodLink "TrigramReadersLaw" (65 : Nat) ({ cls := "TrigramReaders", name := "positiveCounts", desc := "(I)I" } : Jvm.MethodName)) ∈ LW := LW_mem (mt_4 (List.mem_of_getElem? (i := 110) rfl)) rfl
theorem t4_111 : (Jvm.Cond.instanceMethod ({ cls := "TrigramReaders", name := "positiveCounts", desc := "(I)I" } : Jvm.MethodName)) ∈ LW := LW_mem (mt_4 (List.mem_of_getElem? (i := 111) rfl)) rfl
theorem t4_112 : (Jvm.Cond.selects "TrigramReaders" ({ cls := "TrigramReaders", name := "positiveCounts", desc := "(I)I" } : Jvm.MethodName) ({ cls := "TrigramReaders", name := "positiveCounts", desc := "(I)I" } : Jvm.MethodName)) ∈ LW := LW_mem (mt_4 (List.mem_of_getElem? (i := 112) rfl)) rfl
theorem t4_113 : (Jvm.Cond.code ({ cls := "TrigramReaders", name := "positiveCounts", desc := "(I)I" } : Jvm.MethodName) prog_1_method_22_code (2 : Nat) (Option.some Jvm.ClassFile.FieldType.int)) ∈ LW := LW_mem (mt_4 (List.mem_of_getElem? (i := 113) rfl)) rfl
theorem t4_114 : (Jvm.Cond.methodLink "TrigramReadersLaw" (272 : Nat) ({ cls := "TrigramReadersLaw", name := "timesTrained", desc := "(LTrigramReaders;II[J)I" } : Jvm.MethodName)) ∈ LW := LW_mem (mt_4 (List.mem_of_getElem? (i := 114) rfl)) rfl
theorem t4_115 : (Jvm.Cond.static ({ cls := "TrigramReadersLaw", name := "timesTrained", desc := "(LTrigramReaders;II[J)I" } : Jvm.MethodName)) ∈ LW := LW_mem (mt_4 (List.mem_of_getElem? (i := 115) rfl)) rfl
theorem t4_116 : (Jvm.Cond.codeWith ({ cls := "TrigramReadersLaw", name := "timesTrained", desc := "(LTrigramReaders;II[J)I" } : Jvm.MethodName) method_18_code (5 : Nat) (Option.some Jvm.ClassFile.FieldType.int) [((0 : Nat), (10 : Nat), (13 : Nat), (29 : Nat))]) ∈ LW := LW_mem (mt_4 (List.mem_of_getElem? (i := 116) rfl)) rfl
theorem t4_117 : (Jvm.Cond.methodLink "TrigramReadersLaw" (68 : Nat) ({ cls := "TrigramReaders", name := "timesTrained", desc := "(II)I" } : Jvm.MethodName)) ∈ LW := LW_mem (mt_4 (List.mem_of_getElem? (i := 117) rfl)) rfl
theorem t4_118 : (Jvm.Cond.instanceMethod ({ cls := "TrigramReaders", name := "timesTrained", desc := "(II)I" } : Jvm.MethodName)) ∈ LW := LW_mem (mt_4 (List.mem_of_getElem? (i := 118) rfl)) rfl
theorem t4_119 : (Jvm.Cond.selects "TrigramReaders" ({ cls := "TrigramReaders", name := "timesTrained", desc := "(II)I" } : Jvm.MethodName) ({ cls := "TrigramReaders", name := "timesTrained", desc := "(II)I" } : Jvm.MethodName)) ∈ LW := LW_mem (mt_4 (List.mem_of_getElem? (i := 119) rfl)) rfl
theorem t4_120 : (Jvm.Cond.code ({ cls := "TrigramReaders", name := "timesTrained", desc := "(II)I" } : Jvm.MethodName) prog_1_method_23_code (4 : Nat) (Option.some Jvm.ClassFile.FieldType.int)) ∈ LW := LW_mem (mt_4 (List.mem_of_getElem? (i := 120) rfl)) rfl
theorem t4_121 : (Jvm.Cond.methodLink "TrigramReaders" (218 : Nat) ({ cls := "TrigramReaders$Reader", name := "trainingsOn", desc := "(I)I" } : Jvm.MethodName)) ∈ LW := LW_mem (mt_4 (List.mem_of_getElem? (i := 121) rfl)) rfl
theorem t4_122 : (Jvm.Cond.instanceMethod ({ cls := "TrigramReaders$Reader", name := "trainingsOn", desc := "(I)I" } : Jvm.MethodName)) ∈ LW := LW_mem (mt_4 (List.mem_of_getElem? (i := 122) rfl)) rfl
theorem t4_123 : (Jvm.Cond.selects "TrigramReaders$Reader" ({ cls := "TrigramReaders$Reader", name := "trainingsOn", desc := "(I)I" } : Jvm.MethodName) ({ cls := "TrigramReaders$Reader", name := "trainingsOn", desc := "(I)I" } : Jvm.MethodName)) ∈ LW := LW_mem (mt_4 (List.mem_of_getElem? (i := 123) rfl)) rfl
theorem t4_124 : (Jvm.Cond.code ({ cls := "TrigramReaders$Reader", name := "trainingsOn", desc := "(I)I" } : Jvm.MethodName) prog_8_method_7_code (2 : Nat) (Option.some Jvm.ClassFile.FieldType.int)) ∈ LW := LW_mem (mt_4 (List.mem_of_getElem? (i := 124) rfl)) rfl
theorem t4_125 : (Jvm.Cond.methodLink "TrigramReadersLaw" (275 : Nat) ({ cls := "TrigramReadersLaw", name := "trainedSymbols", desc := "(LTrigramReaders;I[J)I" } : Jvm.MethodName)) ∈ LW := LW_mem (mt_4 (List.mem_of_getElem? (i := 125) rfl)) rfl
theorem t4_126 : (Jvm.Cond.static ({ cls := "TrigramReadersLaw", name := "trainedSymbols", desc := "(LTrigramReaders;I[J)I" } : Jvm.MethodName)) ∈ LW := LW_mem (mt_4 (List.mem_of_getElem? (i := 126) rfl)) rfl
theorem t4_127 : (Jvm.Cond.codeWith ({ cls := "TrigramReadersLaw", name := "trainedSymbols", desc := "(LTrigramReaders;I[J)I" } : Jvm.MethodName) method_19_code (4 : Nat) (Option.some Jvm.ClassFile.FieldType.int) [((0 : Nat), (9 : Nat), (12 : Nat), (29 : Nat))]) ∈ LW := LW_mem (mt_4 (List.mem_of_getElem? (i := 127) rfl)) rfl
theorem t4_128 : (Jvm.Cond.methodLink "TrigramReadersLaw" (71 : Nat) ({ cls := "TrigramReaders", name := "trainedSymbols", desc := "(I)I" } : Jvm.MethodName)) ∈ LW := LW_mem (mt_4 (List.mem_of_getElem? (i := 128) rfl)) rfl
theorem t4_129 : (Jvm.Cond.instanceMethod ({ cls := "TrigramReaders", name := "trainedSymbols", desc := "(I)I" } : Jvm.MethodName)) ∈ LW := LW_mem (mt_4 (List.mem_of_getElem? (i := 129) rfl)) rfl
theorem t4_130 : (Jvm.Cond.selects "TrigramReaders" ({ cls := "TrigramReaders", name := "trainedSymbols", desc := "(I)I" } : Jvm.MethodName) ({ cls := "TrigramReaders", name := "trainedSymbols", desc := "(I)I" } : Jvm.MethodName)) ∈ LW := LW_mem (mt_4 (List.mem_of_getElem? (i := 130) rfl)) rfl
theorem t4_131 : (Jvm.Cond.code ({ cls := "TrigramReaders", name := "trainedSymbols", desc := "(I)I" } : Jvm.MethodName) prog_1_method_24_code (2 : Nat) (Option.some Jvm.ClassFile.FieldType.int)) ∈ LW := LW_mem (mt_4 (List.mem_of_getElem? (i := 131) rfl)) rfl
theorem t4_132 : (Jvm.Cond.methodLink "TrigramReadersLaw" (278 : Nat) ({ cls := "TrigramReadersLaw", name := "trainingGap", desc := "(LTrigramReaders;I[J)I" } : Jvm.MethodName)) ∈ LW := LW_mem (mt_4 (List.mem_of_getElem? (i := 132) rfl)) rfl
theorem t4_133 : (Jvm.Cond.static ({ cls := "TrigramReadersLaw", name := "trainingGap", desc := "(LTrigramReaders;I[J)I" } : Jvm.MethodName)) ∈ LW := LW_mem (mt_4 (List.mem_of_getElem? (i := 133) rfl)) rfl
theorem t4_134 : (Jvm.Cond.codeWith ({ cls := "TrigramReadersLaw", name := "trainingGap", desc := "(LTrigramReaders;I[J)I" } : Jvm.MethodName) method_20_code (4 : Nat) (Option.some Jvm.ClassFile.FieldType.int) [((0 : Nat), (9 : Nat), (12 : Nat), (29 : Nat))]) ∈ LW := LW_mem (mt_4 (List.mem_of_getElem? (i := 134) rfl)) rfl
theorem t4_135 : (Jvm.Cond.methodLink "TrigramReadersLaw" (74 : Nat) ({ cls := "TrigramReaders", name := "trainingGap", desc := "(I)I" } : Jvm.MethodName)) ∈ LW := LW_mem (mt_4 (List.mem_of_getElem? (i := 135) rfl)) rfl
theorem t4_136 : (Jvm.Cond.instanceMethod ({ cls := "TrigramReaders", name := "trainingGap", desc := "(I)I" } : Jvm.MethodName)) ∈ LW := LW_mem (mt_4 (List.mem_of_getElem? (i := 136) rfl)) rfl
theorem t4_137 : (Jvm.Cond.selects "TrigramReaders" ({ cls := "TrigramReaders", name := "trainingGap", desc := "(I)I" } : Jvm.MethodName) ({ cls := "TrigramReaders", name := "trainingGap", desc := "(I)I" } : Jvm.MethodName)) ∈ LW := LW_mem (mt_4 (List.mem_of_getElem? (i := 137) rfl)) rfl
theorem t4_138 : (Jvm.Cond.code ({ cls := "TrigramReaders", name := "trainingGap", desc := "(I)I" } : Jvm.MethodName) prog_1_method_25_code (5 : Nat) (Option.some Jvm.ClassFile.FieldType.int)) ∈ LW := LW_mem (mt_4 (List.mem_of_getElem? (i := 138) rfl)) rfl
theorem t4_139 : (Jvm.Cond.methodLink "TrigramReadersLaw" (281 : Nat) ({ cls := "TrigramReadersLaw", name := "symbolAtRank", desc := "(LTrigramReaders;IIII[J)I" } : Jvm.MethodName)) ∈ LW := LW_mem (mt_4 (List.mem_of_getElem? (i := 139) rfl)) rfl
theorem t4_140 : (Jvm.Cond.static ({ cls := "TrigramReadersLaw", name := "symbolAtRank", desc := "(LTrigramReaders;IIII[J)I" } : Jvm.MethodName)) ∈ LW := LW_mem (mt_4 (List.mem_of_getElem? (i := 140) rfl)) rfl
theorem t4_141 : (Jvm.Cond.codeWith ({ cls := "TrigramReadersLaw", name := "symbolAtRank", desc := "(LTrigramReaders;IIII[J)I" } : Jvm.MethodName) method_21_code (7 : Nat) (Option.some Jvm.ClassFile.FieldType.int) [((0 : Nat), (14 : Nat), (17 : Nat), (29 : Nat)), ((0 : Nat), (14 : Nat), (21 : Nat), (19 : Nat))]) ∈ LW := LW_mem (mt_4 (List.mem_of_getElem? (i := 141) rfl)) rfl
theorem t4_142 : (Jvm.Cond.methodLink "TrigramReadersLaw" (77 : Nat) ({ cls := "TrigramReaders", name := "symbolAtRank", desc := "(IIII)I" } : Jvm.MethodName)) ∈ LW := LW_mem (mt_4 (List.mem_of_getElem? (i := 142) rfl)) rfl
theorem t4_143 : (Jvm.Cond.instanceMethod ({ cls := "TrigramReaders", name := "symbolAtRank", desc := "(IIII)I" } : Jvm.MethodName)) ∈ LW := LW_mem (mt_4 (List.mem_of_getElem? (i := 143) rfl)) rfl
theorem t4_144 : (Jvm.Cond.selects "TrigramReaders" ({ cls := "TrigramReaders", name := "symbolAtRank", desc := "(IIII)I" } : Jvm.MethodName) ({ cls := "TrigramReaders", name := "symbolAtRank", desc := "(IIII)I" } : Jvm.MethodName)) ∈ LW := LW_mem (mt_4 (List.mem_of_getElem? (i := 144) rfl)) rfl
theorem t4_145 : (Jvm.Cond.code ({ cls := "TrigramReaders", name := "symbolAtRank", desc := "(IIII)I" } : Jvm.MethodName) prog_1_method_26_code (6 : Nat) (Option.some Jvm.ClassFile.FieldType.int)) ∈ LW := LW_mem (mt_4 (List.mem_of_getElem? (i := 145) rfl)) rfl
theorem t4_147 : (Jvm.Cond.methodLink "TrigramReaders" (226 : Nat) ({ cls := "TrigramReaders", name := "guessIn", desc := "(LTrigramReaders$Counts;III)I" } : Jvm.MethodName)) ∈ LW := LW_mem (mt_4 (List.mem_of_getElem? (i := 147) rfl)) rfl
theorem t4_149 : (Jvm.Cond.instanceMethod ({ cls := "TrigramReaders", name := "guessIn", desc := "(LTrigramReaders$Counts;III)I" } : Jvm.MethodName)) ∈ LW := LW_mem (mt_4 (List.mem_of_getElem? (i := 149) rfl)) rfl
theorem t4_150 : (Jvm.Cond.code ({ cls := "TrigramReaders", name := "guessIn", desc := "(LTrigramReaders$Counts;III)I" } : Jvm.MethodName) prog_1_method_76_code (5 : Nat) (Option.some Jvm.ClassFile.FieldType.int)) ∈ LW := LW_mem (mt_4 (List.mem_of_getElem? (i := 150) rfl)) rfl
theorem t4_151 : (Jvm.Cond.methodLink "TrigramReaders" (386 : Nat) ({ cls := "TrigramReaders$Ranking", name := "fill", desc := "(LTrigramReaders$Counts;II)V" } : Jvm.MethodName)) ∈ LW := LW_mem (mt_4 (List.mem_of_getElem? (i := 151) rfl)) rfl
theorem t4_152 : (Jvm.Cond.instanceMethod ({ cls := "TrigramReaders$Ranking", name := "fill", desc := "(LTrigramReaders$Counts;II)V" } : Jvm.MethodName)) ∈ LW := LW_mem (mt_4 (List.mem_of_getElem? (i := 152) rfl)) rfl
theorem t4_153 : (Jvm.Cond.selects "TrigramReaders$Ranking" ({ cls := "TrigramReaders$Ranking", name := "fill", desc := "(LTrigramReaders$Counts;II)V" } : Jvm.MethodName) ({ cls := "TrigramReaders$Ranking", name := "fill", desc := "(LTrigramReaders$Counts;II)V" } : Jvm.MethodName)) ∈ LW := LW_mem (mt_4 (List.mem_of_getElem? (i := 153) rfl)) rfl
theorem t4_154 : (Jvm.Cond.code ({ cls := "TrigramReaders$Ranking", name := "fill", desc := "(LTrigramReaders$Counts;II)V" } : Jvm.MethodName) prog_7_method_2_code (6 : Nat) (Option.none : Option Jvm.ClassFile.FieldType)) ∈ LW := LW_mem (mt_4 (List.mem_of_getElem? (i := 154) rfl)) rfl
theorem t4_157 : (Jvm.Cond.methodLink "TrigramReaders$Ranking" (33 : Nat) ({ cls := "TrigramReaders$Ranking", name := "appendOrder", desc := "(LTrigramReaders$Counts;I)V" } : Jvm.MethodName)) ∈ LW := LW_mem (mt_4 (List.mem_of_getElem? (i := 157) rfl)) rfl
theorem t4_159 : (Jvm.Cond.instanceMethod ({ cls := "TrigramReaders$Ranking", name := "appendOrder", desc := "(LTrigramReaders$Counts;I)V" } : Jvm.MethodName)) ∈ LW := LW_mem (mt_4 (List.mem_of_getElem? (i := 159) rfl)) rfl
theorem t4_160 : (Jvm.Cond.code ({ cls := "TrigramReaders$Ranking", name := "appendOrder", desc := "(LTrigramReaders$Counts;I)V" } : Jvm.MethodName) prog_7_method_3_code (5 : Nat) (Option.none : Option Jvm.ClassFile.FieldType)) ∈ LW := LW_mem (mt_4 (List.mem_of_getElem? (i := 160) rfl)) rfl
theorem t4_161 : (Jvm.Cond.methodLink "TrigramReaders$Ranking" (41 : Nat) ({ cls := "TrigramReaders$Counts", name := "placeOf", desc := "(I)I" } : Jvm.MethodName)) ∈ LW := LW_mem (mt_4 (List.mem_of_getElem? (i := 161) rfl)) rfl
theorem t4_162 : (Jvm.Cond.methodLink "TrigramReaders$Ranking" (37 : Nat) ({ cls := "TrigramReaders$Ranking", name := "insert", desc := "(III)V" } : Jvm.MethodName)) ∈ LW := LW_mem (mt_4 (List.mem_of_getElem? (i := 162) rfl)) rfl
theorem t4_164 : (Jvm.Cond.instanceMethod ({ cls := "TrigramReaders$Ranking", name := "insert", desc := "(III)V" } : Jvm.MethodName)) ∈ LW := LW_mem (mt_4 (List.mem_of_getElem? (i := 164) rfl)) rfl
theorem t4_165 : (Jvm.Cond.code ({ cls := "TrigramReaders$Ranking", name := "insert", desc := "(III)V" } : Jvm.MethodName) prog_7_method_4_code (6 : Nat) (Option.none : Option Jvm.ClassFile.FieldType)) ∈ LW := LW_mem (mt_4 (List.mem_of_getElem? (i := 165) rfl)) rfl
theorem t4_166 : (Jvm.Cond.methodLink "TrigramReaders" (390 : Nat) ({ cls := "TrigramReaders$Ranking", name := "guess", desc := "(I)I" } : Jvm.MethodName)) ∈ LW := LW_mem (mt_4 (List.mem_of_getElem? (i := 166) rfl)) rfl
theorem t4_167 : (Jvm.Cond.instanceMethod ({ cls := "TrigramReaders$Ranking", name := "guess", desc := "(I)I" } : Jvm.MethodName)) ∈ LW := LW_mem (mt_4 (List.mem_of_getElem? (i := 167) rfl)) rfl
theorem t4_168 : (Jvm.Cond.selects "TrigramReaders$Ranking" ({ cls := "TrigramReaders$Ranking", name := "guess", desc := "(I)I" } : Jvm.MethodName) ({ cls := "TrigramReaders$Ranking", name := "guess", desc := "(I)I" } : Jvm.MethodName)) ∈ LW := LW_mem (mt_4 (List.mem_of_getElem? (i := 168) rfl)) rfl
theorem t4_169 : (Jvm.Cond.code ({ cls := "TrigramReaders$Ranking", name := "guess", desc := "(I)I" } : Jvm.MethodName) prog_7_method_5_code (2 : Nat) (Option.some Jvm.ClassFile.FieldType.int)) ∈ LW := LW_mem (mt_4 (List.mem_of_getElem? (i := 169) rfl)) rfl
theorem t4_170 : (Jvm.Cond.methodLink "TrigramReadersLaw" (284 : Nat) ({ cls := "TrigramReadersLaw", name := "rank", desc := "(LTrigramReaders;IIII[J)I" } : Jvm.MethodName)) ∈ LW := LW_mem (mt_4 (List.mem_of_getElem? (i := 170) rfl)) rfl
theorem t4_171 : (Jvm.Cond.static ({ cls := "TrigramReadersLaw", name := "rank", desc := "(LTrigramReaders;IIII[J)I" } : Jvm.MethodName)) ∈ LW := LW_mem (mt_4 (List.mem_of_getElem? (i := 171) rfl)) rfl
theorem t4_172 : (Jvm.Cond.codeWith ({ cls := "TrigramReadersLaw", name := "rank", desc := "(LTrigramReaders;IIII[J)I" } : Jvm.MethodName) method_22_code (7 : Nat) (Option.some Jvm.ClassFile.FieldType.int) [((0 : Nat), (14 : Nat), (17 : Nat), (29 : Nat)), ((0 : Nat), (14 : Nat), (21 : Nat), (19 : Nat))]) ∈ LW := LW_mem (mt_4 (List.mem_of_getElem? (i := 172) rfl)) rfl
theorem t4_173 : (Jvm.Cond.methodLink "TrigramReadersLaw" (80 : Nat) ({ cls := "TrigramReaders", name := "rank", desc := "(IIII)I" } : Jvm.MethodName)) ∈ LW := LW_mem (mt_4 (List.mem_of_getElem? (i := 173) rfl)) rfl
theorem t4_174 : (Jvm.Cond.instanceMethod ({ cls := "TrigramReaders", name := "rank", desc := "(IIII)I" } : Jvm.MethodName)) ∈ LW := LW_mem (mt_4 (List.mem_of_getElem? (i := 174) rfl)) rfl
theorem t4_175 : (Jvm.Cond.selects "TrigramReaders" ({ cls := "TrigramReaders", name := "rank", desc := "(IIII)I" } : Jvm.MethodName) ({ cls := "TrigramReaders", name := "rank", desc := "(IIII)I" } : Jvm.MethodName)) ∈ LW := LW_mem (mt_4 (List.mem_of_getElem? (i := 175) rfl)) rfl
theorem t4_176 : (Jvm.Cond.code ({ cls := "TrigramReaders", name := "rank", desc := "(IIII)I" } : Jvm.MethodName) prog_1_method_27_code (6 : Nat) (Option.some Jvm.ClassFile.FieldType.int)) ∈ LW := LW_mem (mt_4 (List.mem_of_getElem? (i := 176) rfl)) rfl
theorem t4_177 : (Jvm.Cond.methodLink "TrigramReaders" (230 : Nat) ({ cls := "TrigramReaders", name := "rankIn", desc := "(LTrigramReaders$Counts;III)I" } : Jvm.MethodName)) ∈ LW := LW_mem (mt_4 (List.mem_of_getElem? (i := 177) rfl)) rfl
theorem t4_179 : (Jvm.Cond.instanceMethod ({ cls := "TrigramReaders", name := "rankIn", desc := "(LTrigramReaders$Counts;III)I" } : Jvm.MethodName)) ∈ LW := LW_mem (mt_4 (List.mem_of_getElem? (i := 179) rfl)) rfl
theorem t4_180 : (Jvm.Cond.code ({ cls := "TrigramReaders", name := "rankIn", desc := "(LTrigramReaders$Counts;III)I" } : Jvm.MethodName) prog_1_method_77_code (5 : Nat) (Option.some Jvm.ClassFile.FieldType.int)) ∈ LW := LW_mem (mt_4 (List.mem_of_getElem? (i := 180) rfl)) rfl
theorem t4_181 : (Jvm.Cond.methodLink "TrigramReaders" (393 : Nat) ({ cls := "TrigramReaders$Ranking", name := "guessesUntil", desc := "(I)I" } : Jvm.MethodName)) ∈ LW := LW_mem (mt_4 (List.mem_of_getElem? (i := 181) rfl)) rfl
theorem t4_182 : (Jvm.Cond.instanceMethod ({ cls := "TrigramReaders$Ranking", name := "guessesUntil", desc := "(I)I" } : Jvm.MethodName)) ∈ LW := LW_mem (mt_4 (List.mem_of_getElem? (i := 182) rfl)) rfl
theorem t4_183 : (Jvm.Cond.selects "TrigramReaders$Ranking" ({ cls := "TrigramReaders$Ranking", name := "guessesUntil", desc := "(I)I" } : Jvm.MethodName) ({ cls := "TrigramReaders$Ranking", name := "guessesUntil", desc := "(I)I" } : Jvm.MethodName)) ∈ LW := LW_mem (mt_4 (List.mem_of_getElem? (i := 183) rfl)) rfl
theorem t4_184 : (Jvm.Cond.code ({ cls := "TrigramReaders$Ranking", name := "guessesUntil", desc := "(I)I" } : Jvm.MethodName) prog_7_method_6_code (3 : Nat) (Option.some Jvm.ClassFile.FieldType.int)) ∈ LW := LW_mem (mt_4 (List.mem_of_getElem? (i := 184) rfl)) rfl
theorem t4_185 : (Jvm.Cond.methodLink "TrigramReadersLaw" (287 : Nat) ({ cls := "TrigramReadersLaw", name := "foundOrder", desc := "(LTrigramReaders;IIII[J)I" } : Jvm.MethodName)) ∈ LW := LW_mem (mt_4 (List.mem_of_getElem? (i := 185) rfl)) rfl
theorem t4_186 : (Jvm.Cond.static ({ cls := "TrigramReadersLaw", name := "foundOrder", desc := "(LTrigramReaders;IIII[J)I" } : Jvm.MethodName)) ∈ LW := LW_mem (mt_4 (List.mem_of_getElem? (i := 186) rfl)) rfl
theorem t4_187 : (Jvm.Cond.codeWith ({ cls := "TrigramReadersLaw", name := "foundOrder", desc := "(LTrigramReaders;IIII[J)I" } : Jvm.MethodName) method_23_code (7 : Nat) (Option.some Jvm.ClassFile.FieldType.int) [((0 : Nat), (14 : Nat), (17 : Nat), (29 : Nat)), ((0 : Nat), (14 : Nat), (21 : Nat), (19 : Nat))]) ∈ LW := LW_mem (mt_4 (List.mem_of_getElem? (i := 187) rfl)) rfl
theorem t4_188 : (Jvm.Cond.methodLink "TrigramReadersLaw" (83 : Nat) ({ cls := "TrigramReaders", name := "foundOrder", desc := "(IIII)I" } : Jvm.MethodName)) ∈ LW := LW_mem (mt_4 (List.mem_of_getElem? (i := 188) rfl)) rfl
theorem t4_189 : (Jvm.Cond.instanceMethod ({ cls := "TrigramReaders", name := "foundOrder", desc := "(IIII)I" } : Jvm.MethodName)) ∈ LW := LW_mem (mt_4 (List.mem_of_getElem? (i := 189) rfl)) rfl
theorem t4_190 : (Jvm.Cond.selects "TrigramReaders" ({ cls := "TrigramReaders", name := "foundOrder", desc := "(IIII)I" } : Jvm.MethodName) ({ cls := "TrigramReaders", name := "foundOrder", desc := "(IIII)I" } : Jvm.MethodName)) ∈ LW := LW_mem (mt_4 (List.mem_of_getElem? (i := 190) rfl)) rfl
theorem t4_191 : (Jvm.Cond.code ({ cls := "TrigramReaders", name := "foundOrder", desc := "(IIII)I" } : Jvm.MethodName) prog_1_method_28_code (6 : Nat) (Option.some Jvm.ClassFile.FieldType.int)) ∈ LW := LW_mem (mt_4 (List.mem_of_getElem? (i := 191) rfl)) rfl
theorem t4_192 : (Jvm.Cond.methodLink "TrigramReaders" (233 : Nat) ({ cls := "TrigramReaders", name := "orderOf", desc := "(LTrigramReaders$Counts;III)I" } : Jvm.MethodName)) ∈ LW := LW_mem (mt_4 (List.mem_of_getElem? (i := 192) rfl)) rfl
theorem t4_193 : (Jvm.Cond.static ({ cls := "TrigramReaders", name := "orderOf", desc := "(LTrigramReaders$Counts;III)I" } : Jvm.MethodName)) ∈ LW := LW_mem (mt_4 (List.mem_of_getElem? (i := 193) rfl)) rfl
theorem t4_194 : (Jvm.Cond.code ({ cls := "TrigramReaders", name := "orderOf", desc := "(LTrigramReaders$Counts;III)I" } : Jvm.MethodName) prog_1_method_78_code (5 : Nat) (Option.some Jvm.ClassFile.FieldType.int)) ∈ LW := LW_mem (mt_4 (List.mem_of_getElem? (i := 194) rfl)) rfl
theorem t4_195 : (Jvm.Cond.methodLink "TrigramReadersLaw" (290 : Nat) ({ cls := "TrigramReadersLaw", name := "escapes", desc := "(LTrigramReaders;IIII[J)I" } : Jvm.MethodName)) ∈ LW := LW_mem (mt_4 (List.mem_of_getElem? (i := 195) rfl)) rfl
theorem t4_196 : (Jvm.Cond.static ({ cls := "TrigramReadersLaw", name := "escapes", desc := "(LTrigramReaders;IIII[J)I" } : Jvm.MethodName)) ∈ LW := LW_mem (mt_4 (List.mem_of_getElem? (i := 196) rfl)) rfl
theorem t4_197 : (Jvm.Cond.codeWith ({ cls := "TrigramReadersLaw", name := "escapes", desc := "(LTrigramReaders;IIII[J)I" } : Jvm.MethodName) method_24_code (7 : Nat) (Option.some Jvm.ClassFile.FieldType.int) [((0 : Nat), (14 : Nat), (17 : Nat), (29 : Nat)), ((0 : Nat), (14 : Nat), (21 : Nat), (19 : Nat))]) ∈ LW := LW_mem (mt_4 (List.mem_of_getElem? (i := 197) rfl)) rfl
theorem t4_198 : (Jvm.Cond.methodLink "TrigramReadersLaw" (86 : Nat) ({ cls := "TrigramReaders", name := "escapes", desc := "(IIII)I" } : Jvm.MethodName)) ∈ LW := LW_mem (mt_4 (List.mem_of_getElem? (i := 198) rfl)) rfl
theorem t4_199 : (Jvm.Cond.instanceMethod ({ cls := "TrigramReaders", name := "escapes", desc := "(IIII)I" } : Jvm.MethodName)) ∈ LW := LW_mem (mt_4 (List.mem_of_getElem? (i := 199) rfl)) rfl
theorem t4_200 : (Jvm.Cond.selects "TrigramReaders" ({ cls := "TrigramReaders", name := "escapes", desc := "(IIII)I" } : Jvm.MethodName) ({ cls := "TrigramReaders", name := "escapes", desc := "(IIII)I" } : Jvm.MethodName)) ∈ LW := LW_mem (mt_4 (List.mem_of_getElem? (i := 200) rfl)) rfl
theorem t4_201 : (Jvm.Cond.code ({ cls := "TrigramReaders", name := "escapes", desc := "(IIII)I" } : Jvm.MethodName) prog_1_method_29_code (5 : Nat) (Option.some Jvm.ClassFile.FieldType.int)) ∈ LW := LW_mem (mt_4 (List.mem_of_getElem? (i := 201) rfl)) rfl
theorem t4_202 : (Jvm.Cond.methodLink "TrigramReaders" (236 : Nat) ({ cls := "TrigramReaders", name := "chanceOf", desc := "(IIII)LTrigramReaders$Chance;" } : Jvm.MethodName)) ∈ LW := LW_mem (mt_4 (List.mem_of_getElem? (i := 202) rfl)) rfl
theorem t4_204 : (Jvm.Cond.instanceMethod ({ cls := "TrigramReaders", name := "chanceOf", desc := "(IIII)LTrigramReaders$Chance;" } : Jvm.MethodName)) ∈ LW := LW_mem (mt_4 (List.mem_of_getElem? (i := 204) rfl)) rfl
theorem t4_205 : (Jvm.Cond.code ({ cls := "TrigramReaders", name := "chanceOf", desc := "(IIII)LTrigramReaders$Chance;" } : Jvm.MethodName) prog_1_method_75_code (6 : Nat) (Option.some (Jvm.ClassFile.FieldType.object "TrigramReaders$Chance"))) ∈ LW := LW_mem (mt_4 (List.mem_of_getElem? (i := 205) rfl)) rfl
theorem t4_206 : (Jvm.Cond.methodLink "TrigramReaders" (270 : Nat) ({ cls := "TrigramReaders$Chance", name := "find", desc := "(LTrigramReaders$Reader;III)V" } : Jvm.MethodName)) ∈ LW := LW_mem (mt_4 (List.mem_of_getElem? (i := 206) rfl)) rfl
theorem t4_207 : (Jvm.Cond.instanceMethod ({ cls := "TrigramReaders$Chance", name := "find", desc := "(LTrigramReaders$Reader;III)V" } : Jvm.MethodName)) ∈ LW := LW_mem (mt_4 (List.mem_of_getElem? (i := 207) rfl)) rfl
theorem t4_208 : (Jvm.Cond.selects "TrigramReaders$Chance" ({ cls := "TrigramReaders$Chance", name := "find", desc := "(LTrigramReaders$Reader;III)V" } : Jvm.MethodName) ({ cls := "TrigramReaders$Chance", name := "find", desc := "(LTrigramReaders$Reader;III)V" } : Jvm.MethodName)) ∈ LW := LW_mem (mt_4 (List.mem_of_getElem? (i := 208) rfl)) rfl
theorem t4_209 : (Jvm.Cond.code ({ cls := "TrigramReaders$Chance", name := "find", desc := "(LTrigramReaders$Reader;III)V" } : Jvm.MethodName) prog_3_method_2_code (7 : Nat) (Option.none : Option Jvm.ClassFile.FieldType)) ∈ LW := LW_mem (mt_4 (List.mem_of_getElem? (i := 209) rfl)) rfl
theorem t4_212 : (Jvm.Cond.methodLink "TrigramReaders$Chance" (42 : Nat) ({ cls := "TrigramReaders$Chance", name := "visit", desc := "(LTrigramReaders$Counts;III)Z" } : Jvm.MethodName)) ∈ LW := LW_mem (mt_4 (List.mem_of_getElem? (i := 212) rfl)) rfl
theorem t4_214 : (Jvm.Cond.instanceMethod ({ cls := "TrigramReaders$Chance", name := "visit", desc := "(LTrigramReaders$Counts;III)Z" } : Jvm.MethodName)) ∈ LW := LW_mem (mt_4 (List.mem_of_getElem? (i := 214) rfl)) rfl
theorem t4_215 : (Jvm.Cond.code ({ cls := "TrigramReaders$Chance", name := "visit", desc := "(LTrigramReaders$Counts;III)Z" } : Jvm.MethodName) prog_3_method_3_code (11 : Nat) (Option.some Jvm.ClassFile.FieldType.boolean)) ∈ LW := LW_mem (mt_4 (List.mem_of_getElem? (i := 215) rfl)) rfl
theorem t4_216 : (Jvm.Cond.methodLink "TrigramReaders$Chance" (55 : Nat) ({ cls := "TrigramReaders$Counts", name := "placeOf", desc := "(I)I" } : Jvm.MethodName)) ∈ LW := LW_mem (mt_4 (List.mem_of_getElem? (i := 216) rfl)) rfl
theorem t4_217 : (Jvm.Cond.methodLink "TrigramReaders$Chance" (70 : Nat) ({ cls := "TrigramReaders$Chance", name := "divisorFor", desc := "(III)I" } : Jvm.MethodName)) ∈ LW := LW_mem (mt_4 (List.mem_of_getElem? (i := 217) rfl)) rfl
theorem t4_218 : (Jvm.Cond.static ({ cls := "TrigramReaders$Chance", name := "divisorFor", desc := "(III)I" } : Jvm.MethodName)) ∈ LW := LW_mem (mt_4 (List.mem_of_getElem? (i := 218) rfl)) rfl
theorem t4_219 : (Jvm.Cond.code ({ cls := "TrigramReaders$Chance", name := "divisorFor", desc := "(III)I" } : Jvm.MethodName) prog_3_method_4_code (3 : Nat) (Option.some Jvm.ClassFile.FieldType.int)) ∈ LW := LW_mem (mt_4 (List.mem_of_getElem? (i := 219) rfl)) rfl
theorem t4_220 : (Jvm.Cond.methodLink "TrigramReaders$Chance" (46 : Nat) ({ cls := "java/lang/Integer", name := "bitCount", desc := "(I)I" } : Jvm.MethodName)) ∈ LW := LW_mem (mt_4 (List.mem_of_getElem? (i := 220) rfl)) rfl
theorem t4_221 : (Jvm.Cond.static ({ cls := "java/lang/Integer", name := "bitCount", desc := "(I)I" } : Jvm.MethodName)) ∈ LW := LW_mem (mt_4 (List.mem_of_getElem? (i := 221) rfl)) rfl
theorem t4_222 : (Jvm.Cond.code ({ cls := "java/lang/Integer", name := "bitCount", desc := "(I)I" } : Jvm.MethodName) prog_19_method_49_code (1 : Nat) (Option.some Jvm.ClassFile.FieldType.int)) ∈ LW := LW_mem (mt_4 (List.mem_of_getElem? (i := 222) rfl)) rfl
theorem t4_223 : (Jvm.Cond.constant "java/lang/Integer" (265 : Nat) (1431655765 : Int32)) ∈ LW := LW_mem (mt_4 (List.mem_of_getElem? (i := 223) rfl)) rfl
theorem t4_224 : (Jvm.Cond.constant "java/lang/Integer" (266 : Nat) (858993459 : Int32)) ∈ LW := LW_mem (mt_4 (List.mem_of_getElem? (i := 224) rfl)) rfl
theorem t4_225 : (Jvm.Cond.constant "java/lang/Integer" (267 : Nat) (252645135 : Int32)) ∈ LW := LW_mem (mt_4 (List.mem_of_getElem? (i := 225) rfl)) rfl
theorem t4_226 : (Jvm.Cond.methodLink "TrigramReaders$Chance" (52 : Nat) ({ cls := "TrigramReaders$Chance", name := "reduce", desc := "()V" } : Jvm.MethodName)) ∈ LW := LW_mem (mt_4 (List.mem_of_getElem? (i := 226) rfl)) rfl
theorem t4_228 : (Jvm.Cond.instanceMethod ({ cls := "TrigramReaders$Chance", name := "reduce", desc := "()V" } : Jvm.MethodName)) ∈ LW := LW_mem (mt_4 (List.mem_of_getElem? (i := 228) rfl)) rfl
theorem t4_229 : (Jvm.Cond.code ({ cls := "TrigramReaders$Chance", name := "reduce", desc := "()V" } : Jvm.MethodName) prog_3_method_5_code (8 : Nat) (Option.none : Option Jvm.ClassFile.FieldType)) ∈ LW := LW_mem (mt_4 (List.mem_of_getElem? (i := 229) rfl)) rfl
theorem t4_230 : (Jvm.Cond.methodLink "TrigramReadersLaw" (293 : Nat) ({ cls := "TrigramReadersLaw", name := "numerator", desc := "(LTrigramReaders;IIII[J)I" } : Jvm.MethodName)) ∈ LW := LW_mem (mt_4 (List.mem_of_getElem? (i := 230) rfl)) rfl
theorem t4_231 : (Jvm.Cond.static ({ cls := "TrigramReadersLaw", name := "numerator", desc := "(LTrigramReaders;IIII[J)I" } : Jvm.MethodName)) ∈ LW := LW_mem (mt_4 (List.mem_of_getElem? (i := 231) rfl)) rfl
theorem t4_232 : (Jvm.Cond.codeWith ({ cls := "TrigramReadersLaw", name := "numerator", desc := "(LTrigramReaders;IIII[J)I" } : Jvm.MethodName) method_25_code (7 : Nat) (Option.some Jvm.ClassFile.FieldType.int) [((0 : Nat), (13 : Nat), (16 : Nat), (29 : Nat)), ((0 : Nat), (13 : Nat), (20 : Nat), (19 : Nat))]) ∈ LW := LW_mem (mt_4 (List.mem_of_getElem? (i := 232) rfl)) rfl
theorem t4_233 : (Jvm.Cond.methodLink "TrigramReadersLaw" (89 : Nat) ({ cls := "TrigramReaders", name := "numerator", desc := "(IIII)J" } : Jvm.MethodName)) ∈ LW := LW_mem (mt_4 (List.mem_of_getElem? (i := 233) rfl)) rfl
theorem t4_234 : (Jvm.Cond.instanceMethod ({ cls := "TrigramReaders", name := "numerator", desc := "(IIII)J" } : Jvm.MethodName)) ∈ LW := LW_mem (mt_4 (List.mem_of_getElem? (i := 234) rfl)) rfl
theorem t4_235 : (Jvm.Cond.selects "TrigramReaders" ({ cls := "TrigramReaders", name := "numerator", desc := "(IIII)J" } : Jvm.MethodName) ({ cls := "TrigramReaders", name := "numerator", desc := "(IIII)J" } : Jvm.MethodName)) ∈ LW := LW_mem (mt_4 (List.mem_of_getElem? (i := 235) rfl)) rfl
theorem t4_236 : (Jvm.Cond.code ({ cls := "TrigramReaders", name := "numerator", desc := "(IIII)J" } : Jvm.MethodName) prog_1_method_30_code (5 : Nat) (Option.some Jvm.ClassFile.FieldType.long)) ∈ LW := LW_mem (mt_4 (List.mem_of_getElem? (i := 236) rfl)) rfl
theorem t4_237 : (Jvm.Cond.methodLink "TrigramReadersLaw" (296 : Nat) ({ cls := "TrigramReadersLaw", name := "denominator", desc := "(LTrigramReaders;IIII[J)I" } : Jvm.MethodName)) ∈ LW := LW_mem (mt_4 (List.mem_of_getElem? (i := 237) rfl)) rfl
theorem t4_238 : (Jvm.Cond.static ({ cls := "TrigramReadersLaw", name := "denominator", desc := "(LTrigramReaders;IIII[J)I" } : Jvm.MethodName)) ∈ LW := LW_mem (mt_4 (List.mem_of_getElem? (i := 238) rfl)) rfl
theorem t4_239 : (Jvm.Cond.codeWith ({ cls := "TrigramReadersLaw", name := "denominator", desc := "(LTrigramReaders;IIII[J)I" } : Jvm.MethodName) method_26_code (7 : Nat) (Option.some Jvm.ClassFile.FieldType.int) [((0 : Nat), (13 : Nat), (16 : Nat), (29 : Nat)), ((0 : Nat), (13 : Nat), (20 : Nat), (19 : Nat))]) ∈ LW := LW_mem (mt_4 (List.mem_of_getElem? (i := 239) rfl)) rfl
theorem t5_0 : (Jvm.Cond.methodLink "TrigramReadersLaw" (93 : Nat) ({ cls := "TrigramReaders", name := "denominator", desc := "(IIII)J" } : Jvm.MethodName)) ∈ LW := LW_mem (mt_5 (List.mem_of_getElem? (i := 0) rfl)) rfl
theorem t5_1 : (Jvm.Cond.instanceMethod ({ cls := "TrigramReaders", name := "denominator", desc := "(IIII)J" } : Jvm.MethodName)) ∈ LW := LW_mem (mt_5 (List.mem_of_getElem? (i := 1) rfl)) rfl
theorem t5_2 : (Jvm.Cond.selects "TrigramReaders" ({ cls := "TrigramReaders", name := "denominator", desc := "(IIII)J" } : Jvm.MethodName) ({ cls := "TrigramReaders", name := "denominator", desc := "(IIII)J" } : Jvm.MethodName)) ∈ LW := LW_mem (mt_5 (List.mem_of_getElem? (i := 2) rfl)) rfl
theorem t5_3 : (Jvm.Cond.code ({ cls := "TrigramReaders", name := "denominator", desc := "(IIII)J" } : Jvm.MethodName) prog_1_method_31_code (5 : Nat) (Option.some Jvm.ClassFile.FieldType.long)) ∈ LW := LW_mem (mt_5 (List.mem_of_getElem? (i := 3) rfl)) rfl
theorem t5_4 : (Jvm.Cond.methodLink "TrigramReadersLaw" (299 : Nat) ({ cls := "TrigramReadersLaw", name := "probability", desc := "(LTrigramReaders;IIII[D)I" } : Jvm.MethodName)) ∈ LW := LW_mem (mt_5 (List.mem_of_getElem? (i := 4) rfl)) rfl
theorem t5_5 : (Jvm.Cond.static ({ cls := "TrigramReadersLaw", name := "probability", desc := "(LTrigramReaders;IIII[D)I" } : Jvm.MethodName)) ∈ LW := LW_mem (mt_5 (List.mem_of_getElem? (i := 5) rfl)) rfl
theorem t5_6 : (Jvm.Cond.codeWith ({ cls := "TrigramReadersLaw", name := "probability", desc := "(LTrigramReaders;IIII[D)I" } : Jvm.MethodName) method_27_code (7 : Nat) (Option.some Jvm.ClassFile.FieldType.int) [((0 : Nat), (13 : Nat), (16 : Nat), (29 : Nat)), ((0 : Nat), (13 : Nat), (20 : Nat), (19 : Nat))]) ∈ LW := LW_mem (mt_5 (List.mem_of_getElem? (i := 6) rfl)) rfl
theorem t5_7 : (Jvm.Cond.methodLink "TrigramReadersLaw" (96 : Nat) ({ cls := "TrigramReaders", name := "probability", desc := "(IIII)D" } : Jvm.MethodName)) ∈ LW := LW_mem (mt_5 (List.mem_of_getElem? (i := 7) rfl)) rfl
theorem t5_8 : (Jvm.Cond.instanceMethod ({ cls := "TrigramReaders", name := "probability", desc := "(IIII)D" } : Jvm.MethodName)) ∈ LW := LW_mem (mt_5 (List.mem_of_getElem? (i := 8) rfl)) rfl
theorem t5_9 : (Jvm.Cond.selects "TrigramReaders" ({ cls := "TrigramReaders", name := "probability", desc := "(IIII)D" } : Jvm.MethodName) ({ cls := "TrigramReaders", name := "probability", desc := "(IIII)D" } : Jvm.MethodName)) ∈ LW := LW_mem (mt_5 (List.mem_of_getElem? (i := 9) rfl)) rfl
theorem t5_10 : (Jvm.Cond.code ({ cls := "TrigramReaders", name := "probability", desc := "(IIII)D" } : Jvm.MethodName) prog_1_method_32_code (6 : Nat) (Option.some Jvm.ClassFile.FieldType.double)) ∈ LW := LW_mem (mt_5 (List.mem_of_getElem? (i := 10) rfl)) rfl
theorem t5_11 : (Jvm.Cond.methodLink "TrigramReadersLaw" (303 : Nat) ({ cls := "TrigramReadersLaw", name := "codeLength", desc := "(LTrigramReaders;IIII[J)I" } : Jvm.MethodName)) ∈ LW := LW_mem (mt_5 (List.mem_of_getElem? (i := 11) rfl)) rfl
theorem t5_12 : (Jvm.Cond.static ({ cls := "TrigramReadersLaw", name := "codeLength", desc := "(LTrigramReaders;IIII[J)I" } : Jvm.MethodName)) ∈ LW := LW_mem (mt_5 (List.mem_of_getElem? (i := 12) rfl)) rfl
theorem t5_13 : (Jvm.Cond.codeWith ({ cls := "TrigramReadersLaw", name := "codeLength", desc := "(LTrigramReaders;IIII[J)I" } : Jvm.MethodName) method_28_code (7 : Nat) (Option.some Jvm.ClassFile.FieldType.int) [((0 : Nat), (14 : Nat), (17 : Nat), (29 : Nat)), ((0 : Nat), (14 : Nat), (21 : Nat), (19 : Nat))]) ∈ LW := LW_mem (mt_5 (List.mem_of_getElem? (i := 13) rfl)) rfl
theorem t5_14 : (Jvm.Cond.methodLink "TrigramReadersLaw" (100 : Nat) ({ cls := "TrigramReaders", name := "codeLength", desc := "(IIII)I" } : Jvm.MethodName)) ∈ LW := LW_mem (mt_5 (List.mem_of_getElem? (i := 14) rfl)) rfl
theorem t5_15 : (Jvm.Cond.instanceMethod ({ cls := "TrigramReaders", name := "codeLength", desc := "(IIII)I" } : Jvm.MethodName)) ∈ LW := LW_mem (mt_5 (List.mem_of_getElem? (i := 15) rfl)) rfl
theorem t5_16 : (Jvm.Cond.selects "TrigramReaders" ({ cls := "TrigramReaders", name := "codeLength", desc := "(IIII)I" } : Jvm.MethodName) ({ cls := "TrigramReaders", name := "codeLength", desc := "(IIII)I" } : Jvm.MethodName)) ∈ LW := LW_mem (mt_5 (List.mem_of_getElem? (i := 16) rfl)) rfl
theorem t5_17 : (Jvm.Cond.code ({ cls := "TrigramReaders", name := "codeLength", desc := "(IIII)I" } : Jvm.MethodName) prog_1_method_33_code (5 : Nat) (Option.some Jvm.ClassFile.FieldType.int)) ∈ LW := LW_mem (mt_5 (List.mem_of_getElem? (i := 17) rfl)) rfl
theorem t5_18 : (Jvm.Cond.methodLink "TrigramReaders" (250 : Nat) ({ cls := "TrigramReaders$Chance", name := "bits", desc := "()I" } : Jvm.MethodName)) ∈ LW := LW_mem (mt_5 (List.mem_of_getElem? (i := 18) rfl)) rfl
theorem t5_19 : (Jvm.Cond.instanceMethod ({ cls := "TrigramReaders$Chance", name := "bits", desc := "()I" } : Jvm.MethodName)) ∈ LW := LW_mem (mt_5 (List.mem_of_getElem? (i := 19) rfl)) rfl
theorem t5_20 : (Jvm.Cond.selects "TrigramReaders$Chance" ({ cls := "TrigramReaders$Chance", name := "bits", desc := "()I" } : Jvm.MethodName) ({ cls := "TrigramReaders$Chance", name := "bits", desc := "()I" } : Jvm.MethodName)) ∈ LW := LW_mem (mt_5 (List.mem_of_getElem? (i := 20) rfl)) rfl
theorem t5_21 : (Jvm.Cond.code ({ cls := "TrigramReaders$Chance", name := "bits", desc := "()I" } : Jvm.MethodName) prog_3_method_6_code (4 : Nat) (Option.some Jvm.ClassFile.FieldType.int)) ∈ LW := LW_mem (mt_5 (List.mem_of_getElem? (i := 21) rfl)) rfl
theorem t5_22 : (Jvm.Cond.constantLong "TrigramReaders$Chance" (73 : Nat) (2 : Int64)) ∈ LW := LW_mem (mt_5 (List.mem_of_getElem? (i := 22) rfl)) rfl
theorem t5_23 : (Jvm.Cond.methodLink "TrigramReadersLaw" (306 : Nat) ({ cls := "TrigramReadersLaw", name := "rankAt", desc := "(LTrigramReaders;III[J)I" } : Jvm.MethodName)) ∈ LW := LW_mem (mt_5 (List.mem_of_getElem? (i := 23) rfl)) rfl
theorem t5_24 : (Jvm.Cond.static ({ cls := "TrigramReadersLaw", name := "rankAt", desc := "(LTrigramReaders;III[J)I" } : Jvm.MethodName)) ∈ LW := LW_mem (mt_5 (List.mem_of_getElem? (i := 24) rfl)) rfl
theorem t5_25 : (Jvm.Cond.codeWith ({ cls := "TrigramReadersLaw", name := "rankAt", desc := "(LTrigramReaders;III[J)I" } : Jvm.MethodName) method_29_code (6 : Nat) (Option.some Jvm.ClassFile.FieldType.int) [((0 : Nat), (12 : Nat), (15 : Nat), (29 : Nat)), ((0 : Nat), (12 : Nat), (19 : Nat), (31 : Nat))]) ∈ LW := LW_mem (mt_5 (List.mem_of_getElem? (i := 25) rfl)) rfl
theorem t5_26 : (Jvm.Cond.methodLink "TrigramReadersLaw" (103 : Nat) ({ cls := "TrigramReaders", name := "rankAt", desc := "(III)I" } : Jvm.MethodName)) ∈ LW := LW_mem (mt_5 (List.mem_of_getElem? (i := 26) rfl)) rfl
theorem t5_27 : (Jvm.Cond.instanceMethod ({ cls := "TrigramReaders", name := "rankAt", desc := "(III)I" } : Jvm.MethodName)) ∈ LW := LW_mem (mt_5 (List.mem_of_getElem? (i := 27) rfl)) rfl
theorem t5_28 : (Jvm.Cond.selects "TrigramReaders" ({ cls := "TrigramReaders", name := "rankAt", desc := "(III)I" } : Jvm.MethodName) ({ cls := "TrigramReaders", name := "rankAt", desc := "(III)I" } : Jvm.MethodName)) ∈ LW := LW_mem (mt_5 (List.mem_of_getElem? (i := 28) rfl)) rfl
theorem t5_29 : (Jvm.Cond.code ({ cls := "TrigramReaders", name := "rankAt", desc := "(III)I" } : Jvm.MethodName) prog_1_method_34_code (6 : Nat) (Option.some Jvm.ClassFile.FieldType.int)) ∈ LW := LW_mem (mt_5 (List.mem_of_getElem? (i := 29) rfl)) rfl
theorem t5_30 : (Jvm.Cond.methodLink "TrigramReaders" (253 : Nat) ({ cls := "TrigramReaders", name := "rankOfPosition", desc := "(LTrigramReaders$Counts;LTrigramReaders$Document;I)I" } : Jvm.MethodName)) ∈ LW := LW_mem (mt_5 (List.mem_of_getElem? (i := 30) rfl)) rfl
theorem t5_32 : (Jvm.Cond.instanceMethod ({ cls := "TrigramReaders", name := "rankOfPosition", desc := "(LTrigramReaders$Counts;LTrigramReaders$Document;I)I" } : Jvm.MethodName)) ∈ LW := LW_mem (mt_5 (List.mem_of_getElem? (i := 32) rfl)) rfl
theorem t5_33 : (Jvm.Cond.code ({ cls := "TrigramReaders", name := "rankOfPosition", desc := "(LTrigramReaders$Counts;LTrigramReaders$Document;I)I" } : Jvm.MethodName) prog_1_method_80_code (4 : Nat) (Option.some Jvm.ClassFile.FieldType.int)) ∈ LW := LW_mem (mt_5 (List.mem_of_getElem? (i := 33) rfl)) rfl
theorem t5_34 : (Jvm.Cond.methodLink "TrigramReadersLaw" (309 : Nat) ({ cls := "TrigramReadersLaw", name := "totalGuesses", desc := "(LTrigramReaders;II[J)I" } : Jvm.MethodName)) ∈ LW := LW_mem (mt_5 (List.mem_of_getElem? (i := 34) rfl)) rfl
theorem t5_35 : (Jvm.Cond.static ({ cls := "TrigramReadersLaw", name := "totalGuesses", desc := "(LTrigramReaders;II[J)I" } : Jvm.MethodName)) ∈ LW := LW_mem (mt_5 (List.mem_of_getElem? (i := 35) rfl)) rfl
theorem t5_36 : (Jvm.Cond.codeWith ({ cls := "TrigramReadersLaw", name := "totalGuesses", desc := "(LTrigramReaders;II[J)I" } : Jvm.MethodName) method_30_code (5 : Nat) (Option.some Jvm.ClassFile.FieldType.int) [((0 : Nat), (10 : Nat), (13 : Nat), (29 : Nat))]) ∈ LW := LW_mem (mt_5 (List.mem_of_getElem? (i := 36) rfl)) rfl
theorem t5_37 : (Jvm.Cond.methodLink "TrigramReadersLaw" (106 : Nat) ({ cls := "TrigramReaders", name := "totalGuesses", desc := "(II)I" } : Jvm.MethodName)) ∈ LW := LW_mem (mt_5 (List.mem_of_getElem? (i := 37) rfl)) rfl
theorem t5_38 : (Jvm.Cond.instanceMethod ({ cls := "TrigramReaders", name := "totalGuesses", desc := "(II)I" } : Jvm.MethodName)) ∈ LW := LW_mem (mt_5 (List.mem_of_getElem? (i := 38) rfl)) rfl
theorem t5_39 : (Jvm.Cond.selects "TrigramReaders" ({ cls := "TrigramReaders", name := "totalGuesses", desc := "(II)I" } : Jvm.MethodName) ({ cls := "TrigramReaders", name := "totalGuesses", desc := "(II)I" } : Jvm.MethodName)) ∈ LW := LW_mem (mt_5 (List.mem_of_getElem? (i := 39) rfl)) rfl
theorem t5_40 : (Jvm.Cond.code ({ cls := "TrigramReaders", name := "totalGuesses", desc := "(II)I" } : Jvm.MethodName) prog_1_method_35_code (4 : Nat) (Option.some Jvm.ClassFile.FieldType.int)) ∈ LW := LW_mem (mt_5 (List.mem_of_getElem? (i := 40) rfl)) rfl
theorem t5_41 : (Jvm.Cond.methodLink "TrigramReaders" (257 : Nat) ({ cls := "TrigramReaders", name := "guessesFor", desc := "(LTrigramReaders$Counts;LTrigramReaders$Document;)I" } : Jvm.MethodName)) ∈ LW := LW_mem (mt_5 (List.mem_of_getElem? (i := 41) rfl)) rfl
theorem t5_43 : (Jvm.Cond.instanceMethod ({ cls := "TrigramReaders", name := "guessesFor", desc := "(LTrigramReaders$Counts;LTrigramReaders$Document;)I" } : Jvm.MethodName)) ∈ LW := LW_mem (mt_5 (List.mem_of_getElem? (i := 43) rfl)) rfl
theorem t5_44 : (Jvm.Cond.code ({ cls := "TrigramReaders", name := "guessesFor", desc := "(LTrigramReaders$Counts;LTrigramReaders$Document;)I" } : Jvm.MethodName) prog_1_method_81_code (5 : Nat) (Option.some Jvm.ClassFile.FieldType.int)) ∈ LW := LW_mem (mt_5 (List.mem_of_getElem? (i := 44) rfl)) rfl
theorem t5_45 : (Jvm.Cond.methodLink "TrigramReadersLaw" (312 : Nat) ({ cls := "TrigramReadersLaw", name := "adaptiveGuesses", desc := "(LTrigramReaders;II[J)I" } : Jvm.MethodName)) ∈ LW := LW_mem (mt_5 (List.mem_of_getElem? (i := 45) rfl)) rfl
theorem t5_46 : (Jvm.Cond.static ({ cls := "TrigramReadersLaw", name := "adaptiveGuesses", desc := "(LTrigramReaders;II[J)I" } : Jvm.MethodName)) ∈ LW := LW_mem (mt_5 (List.mem_of_getElem? (i := 46) rfl)) rfl
theorem t5_47 : (Jvm.Cond.codeWith ({ cls := "TrigramReadersLaw", name := "adaptiveGuesses", desc := "(LTrigramReaders;II[J)I" } : Jvm.MethodName) method_31_code (5 : Nat) (Option.some Jvm.ClassFile.FieldType.int) [((0 : Nat), (10 : Nat), (13 : Nat), (29 : Nat))]) ∈ LW := LW_mem (mt_5 (List.mem_of_getElem? (i := 47) rfl)) rfl
theorem t5_48 : (Jvm.Cond.methodLink "TrigramReadersLaw" (109 : Nat) ({ cls := "TrigramReaders", name := "adaptiveGuesses", desc := "(II)I" } : Jvm.MethodName)) ∈ LW := LW_mem (mt_5 (List.mem_of_getElem? (i := 48) rfl)) rfl
theorem t5_49 : (Jvm.Cond.instanceMethod ({ cls := "TrigramReaders", name := "adaptiveGuesses", desc := "(II)I" } : Jvm.MethodName)) ∈ LW := LW_mem (mt_5 (List.mem_of_getElem? (i := 49) rfl)) rfl
theorem t5_50 : (Jvm.Cond.selects "TrigramReaders" ({ cls := "TrigramReaders", name := "adaptiveGuesses", desc := "(II)I" } : Jvm.MethodName) ({ cls := "TrigramReaders", name := "adaptiveGuesses", desc := "(II)I" } : Jvm.MethodName)) ∈ LW := LW_mem (mt_5 (List.mem_of_getElem? (i := 50) rfl)) rfl
theorem t5_51 : (Jvm.Cond.code ({ cls := "TrigramReaders", name := "adaptiveGuesses", desc := "(II)I" } : Jvm.MethodName) prog_1_method_36_code (5 : Nat) (Option.some Jvm.ClassFile.FieldType.int)) ∈ LW := LW_mem (mt_5 (List.mem_of_getElem? (i := 51) rfl)) rfl
theorem t5_52 : (Jvm.Cond.methodLink "TrigramReaders" (261 : Nat) ({ cls := "TrigramReaders$Counts", name := "copyFrom", desc := "(LTrigramReaders$Counts;)V" } : Jvm.MethodName)) ∈ LW := LW_mem (mt_5 (List.mem_of_getElem? (i := 52) rfl)) rfl
theorem t5_53 : (Jvm.Cond.methodLink "TrigramReaders" (264 : Nat) ({ cls := "TrigramReaders", name := "guessesWhileLearning", desc := "(LTrigramReaders$Counts;LTrigramReaders$Document;)I" } : Jvm.MethodName)) ∈ LW := LW_mem (mt_5 (List.mem_of_getElem? (i := 53) rfl)) rfl
theorem t5_55 : (Jvm.Cond.instanceMethod ({ cls := "TrigramReaders", name := "guessesWhileLearning", desc := "(LTrigramReaders$Counts;LTrigramReaders$Document;)I" } : Jvm.MethodName)) ∈ LW := LW_mem (mt_5 (List.mem_of_getElem? (i := 55) rfl)) rfl
theorem t5_56 : (Jvm.Cond.code ({ cls := "TrigramReaders", name := "guessesWhileLearning", desc := "(LTrigramReaders$Counts;LTrigramReaders$Document;)I" } : Jvm.MethodName) prog_1_method_82_code (5 : Nat) (Option.some Jvm.ClassFile.FieldType.int)) ∈ LW := LW_mem (mt_5 (List.mem_of_getElem? (i := 56) rfl)) rfl
theorem t5_57 : (Jvm.Cond.methodLink "TrigramReaders" (396 : Nat) ({ cls := "TrigramReaders$Counts", name := "countPosition", desc := "(LTrigramReaders$Document;I)V" } : Jvm.MethodName)) ∈ LW := LW_mem (mt_5 (List.mem_of_getElem? (i := 57) rfl)) rfl
theorem t5_58 : (Jvm.Cond.methodLink "TrigramReadersLaw" (315 : Nat) ({ cls := "TrigramReadersLaw", name := "firstGuessHits", desc := "(LTrigramReaders;II[J)I" } : Jvm.MethodName)) ∈ LW := LW_mem (mt_5 (List.mem_of_getElem? (i := 58) rfl)) rfl
theorem t5_59 : (Jvm.Cond.static ({ cls := "TrigramReadersLaw", name := "firstGuessHits", desc := "(LTrigramReaders;II[J)I" } : Jvm.MethodName)) ∈ LW := LW_mem (mt_5 (List.mem_of_getElem? (i := 59) rfl)) rfl
theorem t5_60 : (Jvm.Cond.codeWith ({ cls := "TrigramReadersLaw", name := "firstGuessHits", desc := "(LTrigramReaders;II[J)I" } : Jvm.MethodName) method_32_code (5 : Nat) (Option.some Jvm.ClassFile.FieldType.int) [((0 : Nat), (10 : Nat), (13 : Nat), (29 : Nat))]) ∈ LW := LW_mem (mt_5 (List.mem_of_getElem? (i := 60) rfl)) rfl
theorem t5_61 : (Jvm.Cond.methodLink "TrigramReadersLaw" (112 : Nat) ({ cls := "TrigramReaders", name := "firstGuessHits", desc := "(II)I" } : Jvm.MethodName)) ∈ LW := LW_mem (mt_5 (List.mem_of_getElem? (i := 61) rfl)) rfl
theorem t5_62 : (Jvm.Cond.instanceMethod ({ cls := "TrigramReaders", name := "firstGuessHits", desc := "(II)I" } : Jvm.MethodName)) ∈ LW := LW_mem (mt_5 (List.mem_of_getElem? (i := 62) rfl)) rfl
theorem t5_63 : (Jvm.Cond.selects "TrigramReaders" ({ cls := "TrigramReaders", name := "firstGuessHits", desc := "(II)I" } : Jvm.MethodName) ({ cls := "TrigramReaders", name := "firstGuessHits", desc := "(II)I" } : Jvm.MethodName)) ∈ LW := LW_mem (mt_5 (List.mem_of_getElem? (i := 63) rfl)) rfl
theorem t5_64 : (Jvm.Cond.code ({ cls := "TrigramReaders", name := "firstGuessHits", desc := "(II)I" } : Jvm.MethodName) prog_1_method_37_code (4 : Nat) (Option.some Jvm.ClassFile.FieldType.int)) ∈ LW := LW_mem (mt_5 (List.mem_of_getElem? (i := 64) rfl)) rfl
theorem t5_65 : (Jvm.Cond.methodLink "TrigramReaders" (267 : Nat) ({ cls := "TrigramReaders", name := "hitsFor", desc := "(LTrigramReaders$Counts;LTrigramReaders$Document;)I" } : Jvm.MethodName)) ∈ LW := LW_mem (mt_5 (List.mem_of_getElem? (i := 65) rfl)) rfl
theorem t5_67 : (Jvm.Cond.instanceMethod ({ cls := "TrigramReaders", name := "hitsFor", desc := "(LTrigramReaders$Counts;LTrigramReaders$Document;)I" } : Jvm.MethodName)) ∈ LW := LW_mem (mt_5 (List.mem_of_getElem? (i := 67) rfl)) rfl
theorem t5_68 : (Jvm.Cond.code ({ cls := "TrigramReaders", name := "hitsFor", desc := "(LTrigramReaders$Counts;LTrigramReaders$Document;)I" } : Jvm.MethodName) prog_1_method_83_code (5 : Nat) (Option.some Jvm.ClassFile.FieldType.int)) ∈ LW := LW_mem (mt_5 (List.mem_of_getElem? (i := 68) rfl)) rfl
theorem t5_69 : (Jvm.Cond.methodLink "TrigramReadersLaw" (318 : Nat) ({ cls := "TrigramReadersLaw", name := "unseenSymbols", desc := "(LTrigramReaders;II[J)I" } : Jvm.MethodName)) ∈ LW := LW_mem (mt_5 (List.mem_of_getElem? (i := 69) rfl)) rfl
theorem t5_70 : (Jvm.Cond.static ({ cls := "TrigramReadersLaw", name := "unseenSymbols", desc := "(LTrigramReaders;II[J)I" } : Jvm.MethodName)) ∈ LW := LW_mem (mt_5 (List.mem_of_getElem? (i := 70) rfl)) rfl
theorem t5_71 : (Jvm.Cond.codeWith ({ cls := "TrigramReadersLaw", name := "unseenSymbols", desc := "(LTrigramReaders;II[J)I" } : Jvm.MethodName) method_33_code (5 : Nat) (Option.some Jvm.ClassFile.FieldType.int) [((0 : Nat), (10 : Nat), (13 : Nat), (29 : Nat))]) ∈ LW := LW_mem (mt_5 (List.mem_of_getElem? (i := 71) rfl)) rfl
theorem t5_72 : (Jvm.Cond.methodLink "TrigramReadersLaw" (115 : Nat) ({ cls := "TrigramReaders", name := "unseenSymbols", desc := "(II)I" } : Jvm.MethodName)) ∈ LW := LW_mem (mt_5 (List.mem_of_getElem? (i := 72) rfl)) rfl
theorem t5_73 : (Jvm.Cond.instanceMethod ({ cls := "TrigramReaders", name := "unseenSymbols", desc := "(II)I" } : Jvm.MethodName)) ∈ LW := LW_mem (mt_5 (List.mem_of_getElem? (i := 73) rfl)) rfl
theorem t5_74 : (Jvm.Cond.selects "TrigramReaders" ({ cls := "TrigramReaders", name := "unseenSymbols", desc := "(II)I" } : Jvm.MethodName) ({ cls := "TrigramReaders", name := "unseenSymbols", desc := "(II)I" } : Jvm.MethodName)) ∈ LW := LW_mem (mt_5 (List.mem_of_getElem? (i := 74) rfl)) rfl
theorem t5_75 : (Jvm.Cond.code ({ cls := "TrigramReaders", name := "unseenSymbols", desc := "(II)I" } : Jvm.MethodName) prog_1_method_38_code (7 : Nat) (Option.some Jvm.ClassFile.FieldType.int)) ∈ LW := LW_mem (mt_5 (List.mem_of_getElem? (i := 75) rfl)) rfl
theorem t5_76 : (Jvm.Cond.methodLink "TrigramReadersLaw" (321 : Nat) ({ cls := "TrigramReadersLaw", name := "hardestPosition", desc := "(LTrigramReaders;II[J)I" } : Jvm.MethodName)) ∈ LW := LW_mem (mt_5 (List.mem_of_getElem? (i := 76) rfl)) rfl
theorem t5_77 : (Jvm.Cond.static ({ cls := "TrigramReadersLaw", name := "hardestPosition", desc := "(LTrigramReaders;II[J)I" } : Jvm.MethodName)) ∈ LW := LW_mem (mt_5 (List.mem_of_getElem? (i := 77) rfl)) rfl
theorem t5_78 : (Jvm.Cond.codeWith ({ cls := "TrigramReadersLaw", name := "hardestPosition", desc := "(LTrigramReaders;II[J)I" } : Jvm.MethodName) method_34_code (5 : Nat) (Option.some Jvm.ClassFile.FieldType.int) [((0 : Nat), (10 : Nat), (13 : Nat), (29 : Nat))]) ∈ LW := LW_mem (mt_5 (List.mem_of_getElem? (i := 78) rfl)) rfl
theorem t5_79 : (Jvm.Cond.methodLink "TrigramReadersLaw" (118 : Nat) ({ cls := "TrigramReaders", name := "hardestPosition", desc := "(II)I" } : Jvm.MethodName)) ∈ LW := LW_mem (mt_5 (List.mem_of_getElem? (i := 79) rfl)) rfl
theorem t5_80 : (Jvm.Cond.instanceMethod ({ cls := "TrigramReaders", name := "hardestPosition", desc := "(II)I" } : Jvm.MethodName)) ∈ LW := LW_mem (mt_5 (List.mem_of_getElem? (i := 80) rfl)) rfl
theorem t5_81 : (Jvm.Cond.selects "TrigramReaders" ({ cls := "TrigramReaders", name := "hardestPosition", desc := "(II)I" } : Jvm.MethodName) ({ cls := "TrigramReaders", name := "hardestPosition", desc := "(II)I" } : Jvm.MethodName)) ∈ LW := LW_mem (mt_5 (List.mem_of_getElem? (i := 81) rfl)) rfl
theorem t5_82 : (Jvm.Cond.code ({ cls := "TrigramReaders", name := "hardestPosition", desc := "(II)I" } : Jvm.MethodName) prog_1_method_39_code (9 : Nat) (Option.some Jvm.ClassFile.FieldType.int)) ∈ LW := LW_mem (mt_5 (List.mem_of_getElem? (i := 82) rfl)) rfl
theorem t5_83 : (Jvm.Cond.methodLink "TrigramReadersLaw" (324 : Nat) ({ cls := "TrigramReadersLaw", name := "totalBits", desc := "(LTrigramReaders;II[J)I" } : Jvm.MethodName)) ∈ LW := LW_mem (mt_5 (List.mem_of_getElem? (i := 83) rfl)) rfl
theorem t5_84 : (Jvm.Cond.static ({ cls := "TrigramReadersLaw", name := "totalBits", desc := "(LTrigramReaders;II[J)I" } : Jvm.MethodName)) ∈ LW := LW_mem (mt_5 (List.mem_of_getElem? (i := 84) rfl)) rfl
theorem t5_85 : (Jvm.Cond.codeWith ({ cls := "TrigramReadersLaw", name := "totalBits", desc := "(LTrigramReaders;II[J)I" } : Jvm.MethodName) method_35_code (5 : Nat) (Option.some Jvm.ClassFile.FieldType.int) [((0 : Nat), (10 : Nat), (13 : Nat), (29 : Nat))]) ∈ LW := LW_mem (mt_5 (List.mem_of_getElem? (i := 85) rfl)) rfl
theorem t5_86 : (Jvm.Cond.methodLink "TrigramReadersLaw" (121 : Nat) ({ cls := "TrigramReaders", name := "totalBits", desc := "(II)I" } : Jvm.MethodName)) ∈ LW := LW_mem (mt_5 (List.mem_of_getElem? (i := 86) rfl)) rfl
theorem t5_87 : (Jvm.Cond.instanceMethod ({ cls := "TrigramReaders", name := "totalBits", desc := "(II)I" } : Jvm.MethodName)) ∈ LW := LW_mem (mt_5 (List.mem_of_getElem? (i := 87) rfl)) rfl
theorem t5_88 : (Jvm.Cond.selects "TrigramReaders" ({ cls := "TrigramReaders", name := "totalBits", desc := "(II)I" } : Jvm.MethodName) ({ cls := "TrigramReaders", name := "totalBits", desc := "(II)I" } : Jvm.MethodName)) ∈ LW := LW_mem (mt_5 (List.mem_of_getElem? (i := 88) rfl)) rfl
theorem t5_89 : (Jvm.Cond.code ({ cls := "TrigramReaders", name := "totalBits", desc := "(II)I" } : Jvm.MethodName) prog_1_method_40_code (7 : Nat) (Option.some Jvm.ClassFile.FieldType.int)) ∈ LW := LW_mem (mt_5 (List.mem_of_getElem? (i := 89) rfl)) rfl
theorem t5_90 : (Jvm.Cond.methodLink "TrigramReadersLaw" (327 : Nat) ({ cls := "TrigramReadersLaw", name := "meanGuesses", desc := "(LTrigramReaders;II[D)I" } : Jvm.MethodName)) ∈ LW := LW_mem (mt_5 (List.mem_of_getElem? (i := 90) rfl)) rfl
theorem t5_91 : (Jvm.Cond.static ({ cls := "TrigramReadersLaw", name := "meanGuesses", desc := "(LTrigramReaders;II[D)I" } : Jvm.MethodName)) ∈ LW := LW_mem (mt_5 (List.mem_of_getElem? (i := 91) rfl)) rfl
theorem t5_92 : (Jvm.Cond.codeWith ({ cls := "TrigramReadersLaw", name := "meanGuesses", desc := "(LTrigramReaders;II[D)I" } : Jvm.MethodName) method_36_code (5 : Nat) (Option.some Jvm.ClassFile.FieldType.int) [((0 : Nat), (9 : Nat), (12 : Nat), (29 : Nat))]) ∈ LW := LW_mem (mt_5 (List.mem_of_getElem? (i := 92) rfl)) rfl
theorem t5_93 : (Jvm.Cond.methodLink "TrigramReadersLaw" (124 : Nat) ({ cls := "TrigramReaders", name := "meanGuesses", desc := "(II)D" } : Jvm.MethodName)) ∈ LW := LW_mem (mt_5 (List.mem_of_getElem? (i := 93) rfl)) rfl
theorem t5_94 : (Jvm.Cond.instanceMethod ({ cls := "TrigramReaders", name := "meanGuesses", desc := "(II)D" } : Jvm.MethodName)) ∈ LW := LW_mem (mt_5 (List.mem_of_getElem? (i := 94) rfl)) rfl
theorem t5_95 : (Jvm.Cond.selects "TrigramReaders" ({ cls := "TrigramReaders", name := "meanGuesses", desc := "(II)D" } : Jvm.MethodName) ({ cls := "TrigramReaders", name := "meanGuesses", desc := "(II)D" } : Jvm.MethodName)) ∈ LW := LW_mem (mt_5 (List.mem_of_getElem? (i := 95) rfl)) rfl
theorem t5_96 : (Jvm.Cond.code ({ cls := "TrigramReaders", name := "meanGuesses", desc := "(II)D" } : Jvm.MethodName) prog_1_method_41_code (6 : Nat) (Option.some Jvm.ClassFile.FieldType.double)) ∈ LW := LW_mem (mt_5 (List.mem_of_getElem? (i := 96) rfl)) rfl
theorem t5_97 : (Jvm.Cond.methodLink "TrigramReadersLaw" (331 : Nat) ({ cls := "TrigramReadersLaw", name := "hitShare", desc := "(LTrigramReaders;II[D)I" } : Jvm.MethodName)) ∈ LW := LW_mem (mt_5 (List.mem_of_getElem? (i := 97) rfl)) rfl
theorem t5_98 : (Jvm.Cond.static ({ cls := "TrigramReadersLaw", name := "hitShare", desc := "(LTrigramReaders;II[D)I" } : Jvm.MethodName)) ∈ LW := LW_mem (mt_5 (List.mem_of_getElem? (i := 98) rfl)) rfl
theorem t5_99 : (Jvm.Cond.codeWith ({ cls := "TrigramReadersLaw", name := "hitShare", desc := "(LTrigramReaders;II[D)I" } : Jvm.MethodName) method_37_code (5 : Nat) (Option.some Jvm.ClassFile.FieldType.int) [((0 : Nat), (10 : Nat), (13 : Nat), (29 : Nat))]) ∈ LW := LW_mem (mt_5 (List.mem_of_getElem? (i := 99) rfl)) rfl
theorem t5_100 : (Jvm.Cond.methodLink "TrigramReadersLaw" (128 : Nat) ({ cls := "TrigramReaders", name := "hitShare", desc := "(II)F" } : Jvm.MethodName)) ∈ LW := LW_mem (mt_5 (List.mem_of_getElem? (i := 100) rfl)) rfl
theorem t5_101 : (Jvm.Cond.instanceMethod ({ cls := "TrigramReaders", name := "hitShare", desc := "(II)F" } : Jvm.MethodName)) ∈ LW := LW_mem (mt_5 (List.mem_of_getElem? (i := 101) rfl)) rfl
theorem t5_102 : (Jvm.Cond.selects "TrigramReaders" ({ cls := "TrigramReaders", name := "hitShare", desc := "(II)F" } : Jvm.MethodName) ({ cls := "TrigramReaders", name := "hitShare", desc := "(II)F" } : Jvm.MethodName)) ∈ LW := LW_mem (mt_5 (List.mem_of_getElem? (i := 102) rfl)) rfl
theorem t5_103 : (Jvm.Cond.code ({ cls := "TrigramReaders", name := "hitShare", desc := "(II)F" } : Jvm.MethodName) prog_1_method_42_code (6 : Nat) (Option.some Jvm.ClassFile.FieldType.float)) ∈ LW := LW_mem (mt_5 (List.mem_of_getElem? (i := 103) rfl)) rfl
theorem t5_104 : (Jvm.Cond.methodLink "TrigramReadersLaw" (334 : Nat) ({ cls := "TrigramReadersLaw", name := "bestReader", desc := "(LTrigramReaders;I[J)I" } : Jvm.MethodName)) ∈ LW := LW_mem (mt_5 (List.mem_of_getElem? (i := 104) rfl)) rfl
theorem t5_105 : (Jvm.Cond.static ({ cls := "TrigramReadersLaw", name := "bestReader", desc := "(LTrigramReaders;I[J)I" } : Jvm.MethodName)) ∈ LW := LW_mem (mt_5 (List.mem_of_getElem? (i := 105) rfl)) rfl
theorem t5_106 : (Jvm.Cond.codeWith ({ cls := "TrigramReadersLaw", name := "bestReader", desc := "(LTrigramReaders;I[J)I" } : Jvm.MethodName) method_38_code (4 : Nat) (Option.some Jvm.ClassFile.FieldType.int) [((0 : Nat), (9 : Nat), (12 : Nat), (29 : Nat))]) ∈ LW := LW_mem (mt_5 (List.mem_of_getElem? (i := 106) rfl)) rfl
theorem t5_107 : (Jvm.Cond.methodLink "TrigramReadersLaw" (132 : Nat) ({ cls := "TrigramReaders", name := "bestReader", desc := "(I)I" } : Jvm.MethodName)) ∈ LW := LW_mem (mt_5 (List.mem_of_getElem? (i := 107) rfl)) rfl
theorem t5_108 : (Jvm.Cond.instanceMethod ({ cls := "TrigramReaders", name := "bestReader", desc := "(I)I" } : Jvm.MethodName)) ∈ LW := LW_mem (mt_5 (List.mem_of_getElem? (i := 108) rfl)) rfl
theorem t5_109 : (Jvm.Cond.selects "TrigramReaders" ({ cls := "TrigramReaders", name := "bestReader", desc := "(I)I" } : Jvm.MethodName) ({ cls := "TrigramReaders", name := "bestReader", desc := "(I)I" } : Jvm.MethodName)) ∈ LW := LW_mem (mt_5 (List.mem_of_getElem? (i := 109) rfl)) rfl
theorem t5_110 : (Jvm.Cond.code ({ cls := "TrigramReaders", name := "bestReader", desc := "(I)I" } : Jvm.MethodName) prog_1_method_43_code (7 : Nat) (Option.some Jvm.ClassFile.FieldType.int)) ∈ LW := LW_mem (mt_5 (List.mem_of_getElem? (i := 110) rfl)) rfl
theorem t5_111 : (Jvm.Cond.methodLink "TrigramReadersLaw" (337 : Nat) ({ cls := "TrigramReadersLaw", name := "hardestDocument", desc := "(LTrigramReaders;I[J)I" } : Jvm.MethodName)) ∈ LW := LW_mem (mt_5 (List.mem_of_getElem? (i := 111) rfl)) rfl
theorem t5_112 : (Jvm.Cond.static ({ cls := "TrigramReadersLaw", name := "hardestDocument", desc := "(LTrigramReaders;I[J)I" } : Jvm.MethodName)) ∈ LW := LW_mem (mt_5 (List.mem_of_getElem? (i := 112) rfl)) rfl
theorem t5_113 : (Jvm.Cond.codeWith ({ cls := "TrigramReadersLaw", name := "hardestDocument", desc := "(LTrigramReaders;I[J)I" } : Jvm.MethodName) method_39_code (4 : Nat) (Option.some Jvm.ClassFile.FieldType.int) [((0 : Nat), (9 : Nat), (12 : Nat), (29 : Nat))]) ∈ LW := LW_mem (mt_5 (List.mem_of_getElem? (i := 113) rfl)) rfl
theorem t5_114 : (Jvm.Cond.methodLink "TrigramReadersLaw" (135 : Nat) ({ cls := "TrigramReaders", name := "hardestDocument", desc := "(I)I" } : Jvm.MethodName)) ∈ LW := LW_mem (mt_5 (List.mem_of_getElem? (i := 114) rfl)) rfl
theorem t5_115 : (Jvm.Cond.instanceMethod ({ cls := "TrigramReaders", name := "hardestDocument", desc := "(I)I" } : Jvm.MethodName)) ∈ LW := LW_mem (mt_5 (List.mem_of_getElem? (i := 115) rfl)) rfl
theorem t5_116 : (Jvm.Cond.selects "TrigramReaders" ({ cls := "TrigramReaders", name := "hardestDocument", desc := "(I)I" } : Jvm.MethodName) ({ cls := "TrigramReaders", name := "hardestDocument", desc := "(I)I" } : Jvm.MethodName)) ∈ LW := LW_mem (mt_5 (List.mem_of_getElem? (i := 116) rfl)) rfl
theorem t5_117 : (Jvm.Cond.code ({ cls := "TrigramReaders", name := "hardestDocument", desc := "(I)I" } : Jvm.MethodName) prog_1_method_44_code (7 : Nat) (Option.some Jvm.ClassFile.FieldType.int)) ∈ LW := LW_mem (mt_5 (List.mem_of_getElem? (i := 117) rfl)) rfl
theorem t5_118 : (Jvm.Cond.methodLink "TrigramReadersLaw" (340 : Nat) ({ cls := "TrigramReadersLaw", name := "guessesAfterTraining", desc := "(LTrigramReaders;III[J)I" } : Jvm.MethodName)) ∈ LW := LW_mem (mt_5 (List.mem_of_getElem? (i := 118) rfl)) rfl
theorem t5_119 : (Jvm.Cond.static ({ cls := "TrigramReadersLaw", name := "guessesAfterTraining", desc := "(LTrigramReaders;III[J)I" } : Jvm.MethodName)) ∈ LW := LW_mem (mt_5 (List.mem_of_getElem? (i := 119) rfl)) rfl
theorem t5_120 : (Jvm.Cond.codeWith ({ cls := "TrigramReadersLaw", name := "guessesAfterTraining", desc := "(LTrigramReaders;III[J)I" } : Jvm.MethodName) method_40_code (6 : Nat) (Option.some Jvm.ClassFile.FieldType.int) [((0 : Nat), (12 : Nat), (15 : Nat), (29 : Nat))]) ∈ LW := LW_mem (mt_5 (List.mem_of_getElem? (i := 120) rfl)) rfl
theorem t5_121 : (Jvm.Cond.methodLink "TrigramReadersLaw" (138 : Nat) ({ cls := "TrigramReaders", name := "guessesAfterTraining", desc := "(III)I" } : Jvm.MethodName)) ∈ LW := LW_mem (mt_5 (List.mem_of_getElem? (i := 121) rfl)) rfl
theorem t5_122 : (Jvm.Cond.instanceMethod ({ cls := "TrigramReaders", name := "guessesAfterTraining", desc := "(III)I" } : Jvm.MethodName)) ∈ LW := LW_mem (mt_5 (List.mem_of_getElem? (i := 122) rfl)) rfl
theorem t5_123 : (Jvm.Cond.selects "TrigramReaders" ({ cls := "TrigramReaders", name := "guessesAfterTraining", desc := "(III)I" } : Jvm.MethodName) ({ cls := "TrigramReaders", name := "guessesAfterTraining", desc := "(III)I" } : Jvm.MethodName)) ∈ LW := LW_mem (mt_5 (List.mem_of_getElem? (i := 123) rfl)) rfl
theorem t5_124 : (Jvm.Cond.code ({ cls := "TrigramReaders", name := "guessesAfterTraining", desc := "(III)I" } : Jvm.MethodName) prog_1_method_45_code (7 : Nat) (Option.some Jvm.ClassFile.FieldType.int)) ∈ LW := LW_mem (mt_5 (List.mem_of_getElem? (i := 124) rfl)) rfl
theorem t5_125 : (Jvm.Cond.methodLink "TrigramReaders" (274 : Nat) ({ cls := "TrigramReaders$Counts", name := "countDocument", desc := "(LTrigramReaders$Document;)V" } : Jvm.MethodName)) ∈ LW := LW_mem (mt_5 (List.mem_of_getElem? (i := 125) rfl)) rfl
theorem t5_126 : (Jvm.Cond.methodLink "TrigramReadersLaw" (343 : Nat) ({ cls := "TrigramReadersLaw", name := "trainingsNeeded", desc := "(LTrigramReaders;III[J)I" } : Jvm.MethodName)) ∈ LW := LW_mem (mt_5 (List.mem_of_getElem? (i := 126) rfl)) rfl
theorem t5_127 : (Jvm.Cond.static ({ cls := "TrigramReadersLaw", name := "trainingsNeeded", desc := "(LTrigramReaders;III[J)I" } : Jvm.MethodName)) ∈ LW := LW_mem (mt_5 (List.mem_of_getElem? (i := 127) rfl)) rfl
theorem t5_128 : (Jvm.Cond.codeWith ({ cls := "TrigramReadersLaw", name := "trainingsNeeded", desc := "(LTrigramReaders;III[J)I" } : Jvm.MethodName) method_41_code (6 : Nat) (Option.some Jvm.ClassFile.FieldType.int) [((0 : Nat), (12 : Nat), (15 : Nat), (29 : Nat)), ((0 : Nat), (12 : Nat), (19 : Nat), (19 : Nat))]) ∈ LW := LW_mem (mt_5 (List.mem_of_getElem? (i := 128) rfl)) rfl
theorem t5_129 : (Jvm.Cond.methodLink "TrigramReadersLaw" (141 : Nat) ({ cls := "TrigramReaders", name := "trainingsNeeded", desc := "(III)I" } : Jvm.MethodName)) ∈ LW := LW_mem (mt_5 (List.mem_of_getElem? (i := 129) rfl)) rfl
theorem t5_130 : (Jvm.Cond.instanceMethod ({ cls := "TrigramReaders", name := "trainingsNeeded", desc := "(III)I" } : Jvm.MethodName)) ∈ LW := LW_mem (mt_5 (List.mem_of_getElem? (i := 130) rfl)) rfl
theorem t5_131 : (Jvm.Cond.selects "TrigramReaders" ({ cls := "TrigramReaders", name := "trainingsNeeded", desc := "(III)I" } : Jvm.MethodName) ({ cls := "TrigramReaders", name := "trainingsNeeded", desc := "(III)I" } : Jvm.MethodName)) ∈ LW := LW_mem (mt_5 (List.mem_of_getElem? (i := 131) rfl)) rfl
theorem t5_132 : (Jvm.Cond.code ({ cls := "TrigramReaders", name := "trainingsNeeded", desc := "(III)I" } : Jvm.MethodName) prog_1_method_46_code (7 : Nat) (Option.some Jvm.ClassFile.FieldType.int)) ∈ LW := LW_mem (mt_5 (List.mem_of_getElem? (i := 132) rfl)) rfl
theorem t5_134 : (Jvm.Cond.methodLink "TrigramReadersLaw" (346 : Nat) ({ cls := "TrigramReadersLaw", name := "yearsToForget", desc := "(LTrigramReaders;I[J)I" } : Jvm.MethodName)) ∈ LW := LW_mem (mt_5 (List.mem_of_getElem? (i := 134) rfl)) rfl
theorem t5_135 : (Jvm.Cond.static ({ cls := "TrigramReadersLaw", name := "yearsToForget", desc := "(LTrigramReaders;I[J)I" } : Jvm.MethodName)) ∈ LW := LW_mem (mt_5 (List.mem_of_getElem? (i := 135) rfl)) rfl
theorem t5_136 : (Jvm.Cond.codeWith ({ cls := "TrigramReadersLaw", name := "yearsToForget", desc := "(LTrigramReaders;I[J)I" } : Jvm.MethodName) method_42_code (4 : Nat) (Option.some Jvm.ClassFile.FieldType.int) [((0 : Nat), (9 : Nat), (12 : Nat), (29 : Nat))]) ∈ LW := LW_mem (mt_5 (List.mem_of_getElem? (i := 136) rfl)) rfl
theorem t5_137 : (Jvm.Cond.methodLink "TrigramReadersLaw" (144 : Nat) ({ cls := "TrigramReaders", name := "yearsToForget", desc := "(I)I" } : Jvm.MethodName)) ∈ LW := LW_mem (mt_5 (List.mem_of_getElem? (i := 137) rfl)) rfl
theorem t5_138 : (Jvm.Cond.instanceMethod ({ cls := "TrigramReaders", name := "yearsToForget", desc := "(I)I" } : Jvm.MethodName)) ∈ LW := LW_mem (mt_5 (List.mem_of_getElem? (i := 138) rfl)) rfl
theorem t5_139 : (Jvm.Cond.selects "TrigramReaders" ({ cls := "TrigramReaders", name := "yearsToForget", desc := "(I)I" } : Jvm.MethodName) ({ cls := "TrigramReaders", name := "yearsToForget", desc := "(I)I" } : Jvm.MethodName)) ∈ LW := LW_mem (mt_5 (List.mem_of_getElem? (i := 139) rfl)) rfl
theorem t5_140 : (Jvm.Cond.code ({ cls := "TrigramReaders", name := "yearsToForget", desc := "(I)I" } : Jvm.MethodName) prog_1_method_47_code (4 : Nat) (Option.some Jvm.ClassFile.FieldType.int)) ∈ LW := LW_mem (mt_5 (List.mem_of_getElem? (i := 140) rfl)) rfl
theorem t5_141 : (Jvm.Cond.methodLink "TrigramReaders" (280 : Nat) ({ cls := "TrigramReaders$Counts", name := "greatest", desc := "()I" } : Jvm.MethodName)) ∈ LW := LW_mem (mt_5 (List.mem_of_getElem? (i := 141) rfl)) rfl
theorem t5_142 : (Jvm.Cond.instanceMethod ({ cls := "TrigramReaders$Counts", name := "greatest", desc := "()I" } : Jvm.MethodName)) ∈ LW := LW_mem (mt_5 (List.mem_of_getElem? (i := 142) rfl)) rfl
theorem t5_143 : (Jvm.Cond.selects "TrigramReaders$Counts" ({ cls := "TrigramReaders$Counts", name := "greatest", desc := "()I" } : Jvm.MethodName) ({ cls := "TrigramReaders$Counts", name := "greatest", desc := "()I" } : Jvm.MethodName)) ∈ LW := LW_mem (mt_5 (List.mem_of_getElem? (i := 143) rfl)) rfl
theorem t5_144 : (Jvm.Cond.code ({ cls := "TrigramReaders$Counts", name := "greatest", desc := "()I" } : Jvm.MethodName) prog_4_method_13_code (3 : Nat) (Option.some Jvm.ClassFile.FieldType.int)) ∈ LW := LW_mem (mt_5 (List.mem_of_getElem? (i := 144) rfl)) rfl
theorem t5_145 : (Jvm.Cond.methodLink "TrigramReaders$Counts" (61 : Nat) ({ cls := "java/lang/Math", name := "max", desc := "(II)I" } : Jvm.MethodName)) ∈ LW := LW_mem (mt_5 (List.mem_of_getElem? (i := 145) rfl)) rfl
theorem t5_146 : (Jvm.Cond.static ({ cls := "java/lang/Math", name := "max", desc := "(II)I" } : Jvm.MethodName)) ∈ LW := LW_mem (mt_5 (List.mem_of_getElem? (i := 146) rfl)) rfl
theorem t5_147 : (Jvm.Cond.code ({ cls := "java/lang/Math", name := "max", desc := "(II)I" } : Jvm.MethodName) prog_20_method_65_code (2 : Nat) (Option.some Jvm.ClassFile.FieldType.int)) ∈ LW := LW_mem (mt_5 (List.mem_of_getElem? (i := 147) rfl)) rfl
theorem t5_148 : (Jvm.Cond.methodLink "TrigramReadersLaw" (349 : Nat) ({ cls := "TrigramReadersLaw", name := "agreements", desc := "(LTrigramReaders;II[J)I" } : Jvm.MethodName)) ∈ LW := LW_mem (mt_5 (List.mem_of_getElem? (i := 148) rfl)) rfl
theorem t5_149 : (Jvm.Cond.static ({ cls := "TrigramReadersLaw", name := "agreements", desc := "(LTrigramReaders;II[J)I" } : Jvm.MethodName)) ∈ LW := LW_mem (mt_5 (List.mem_of_getElem? (i := 149) rfl)) rfl
theorem t5_150 : (Jvm.Cond.codeWith ({ cls := "TrigramReadersLaw", name := "agreements", desc := "(LTrigramReaders;II[J)I" } : Jvm.MethodName) method_43_code (5 : Nat) (Option.some Jvm.ClassFile.FieldType.int) [((0 : Nat), (10 : Nat), (13 : Nat), (29 : Nat)), ((0 : Nat), (10 : Nat), (17 : Nat), (19 : Nat))]) ∈ LW := LW_mem (mt_5 (List.mem_of_getElem? (i := 150) rfl)) rfl
theorem t5_151 : (Jvm.Cond.methodLink "TrigramReadersLaw" (147 : Nat) ({ cls := "TrigramReaders", name := "agreements", desc := "(II)I" } : Jvm.MethodName)) ∈ LW := LW_mem (mt_5 (List.mem_of_getElem? (i := 151) rfl)) rfl
theorem t5_152 : (Jvm.Cond.instanceMethod ({ cls := "TrigramReaders", name := "agreements", desc := "(II)I" } : Jvm.MethodName)) ∈ LW := LW_mem (mt_5 (List.mem_of_getElem? (i := 152) rfl)) rfl
theorem t5_153 : (Jvm.Cond.selects "TrigramReaders" ({ cls := "TrigramReaders", name := "agreements", desc := "(II)I" } : Jvm.MethodName) ({ cls := "TrigramReaders", name := "agreements", desc := "(II)I" } : Jvm.MethodName)) ∈ LW := LW_mem (mt_5 (List.mem_of_getElem? (i := 153) rfl)) rfl
theorem t5_154 : (Jvm.Cond.code ({ cls := "TrigramReaders", name := "agreements", desc := "(II)I" } : Jvm.MethodName) prog_1_method_48_code (8 : Nat) (Option.some Jvm.ClassFile.FieldType.int)) ∈ LW := LW_mem (mt_5 (List.mem_of_getElem? (i := 154) rfl)) rfl
theorem t5_156 : (Jvm.Cond.methodLink "TrigramReaders" (285 : Nat) ({ cls := "TrigramReaders", name := "agreeAfter", desc := "(LTrigramReaders$Counts;LTrigramReaders$Counts;I)Z" } : Jvm.MethodName)) ∈ LW := LW_mem (mt_5 (List.mem_of_getElem? (i := 156) rfl)) rfl
theorem t5_158 : (Jvm.Cond.instanceMethod ({ cls := "TrigramReaders", name := "agreeAfter", desc := "(LTrigramReaders$Counts;LTrigramReaders$Counts;I)Z" } : Jvm.MethodName)) ∈ LW := LW_mem (mt_5 (List.mem_of_getElem? (i := 158) rfl)) rfl
theorem t5_159 : (Jvm.Cond.code ({ cls := "TrigramReaders", name := "agreeAfter", desc := "(LTrigramReaders$Counts;LTrigramReaders$Counts;I)Z" } : Jvm.MethodName) prog_1_method_79_code (6 : Nat) (Option.some Jvm.ClassFile.FieldType.boolean)) ∈ LW := LW_mem (mt_5 (List.mem_of_getElem? (i := 159) rfl)) rfl
theorem t5_160 : (Jvm.Cond.methodLink "TrigramReadersLaw" (352 : Nat) ({ cls := "TrigramReadersLaw", name := "addReader", desc := "(LTrigramReaders;I[J)I" } : Jvm.MethodName)) ∈ LW := LW_mem (mt_5 (List.mem_of_getElem? (i := 160) rfl)) rfl
theorem t5_161 : (Jvm.Cond.static ({ cls := "TrigramReadersLaw", name := "addReader", desc := "(LTrigramReaders;I[J)I" } : Jvm.MethodName)) ∈ LW := LW_mem (mt_5 (List.mem_of_getElem? (i := 161) rfl)) rfl
theorem t5_162 : (Jvm.Cond.codeWith ({ cls := "TrigramReadersLaw", name := "addReader", desc := "(LTrigramReaders;I[J)I" } : Jvm.MethodName) method_44_code (4 : Nat) (Option.some Jvm.ClassFile.FieldType.int) [((0 : Nat), (9 : Nat), (12 : Nat), (19 : Nat)), ((0 : Nat), (9 : Nat), (15 : Nat), (13 : Nat))]) ∈ LW := LW_mem (mt_5 (List.mem_of_getElem? (i := 162) rfl)) rfl
theorem t5_163 : (Jvm.Cond.methodLink "TrigramReadersLaw" (150 : Nat) ({ cls := "TrigramReaders", name := "addReader", desc := "(I)I" } : Jvm.MethodName)) ∈ LW := LW_mem (mt_5 (List.mem_of_getElem? (i := 163) rfl)) rfl
theorem t5_164 : (Jvm.Cond.instanceMethod ({ cls := "TrigramReaders", name := "addReader", desc := "(I)I" } : Jvm.MethodName)) ∈ LW := LW_mem (mt_5 (List.mem_of_getElem? (i := 164) rfl)) rfl
theorem t5_165 : (Jvm.Cond.selects "TrigramReaders" ({ cls := "TrigramReaders", name := "addReader", desc := "(I)I" } : Jvm.MethodName) ({ cls := "TrigramReaders", name := "addReader", desc := "(I)I" } : Jvm.MethodName)) ∈ LW := LW_mem (mt_5 (List.mem_of_getElem? (i := 165) rfl)) rfl
theorem t5_166 : (Jvm.Cond.code ({ cls := "TrigramReaders", name := "addReader", desc := "(I)I" } : Jvm.MethodName) prog_1_method_49_code (2 : Nat) (Option.some Jvm.ClassFile.FieldType.int)) ∈ LW := LW_mem (mt_5 (List.mem_of_getElem? (i := 166) rfl)) rfl
theorem t5_167 : (Jvm.Cond.methodLink "TrigramReaders" (289 : Nat) ({ cls := "TrigramReaders", name := "requireMethod", desc := "(I)V" } : Jvm.MethodName)) ∈ LW := LW_mem (mt_5 (List.mem_of_getElem? (i := 167) rfl)) rfl
theorem t5_168 : (Jvm.Cond.static ({ cls := "TrigramReaders", name := "requireMethod", desc := "(I)V" } : Jvm.MethodName)) ∈ LW := LW_mem (mt_5 (List.mem_of_getElem? (i := 168) rfl)) rfl
theorem t5_169 : (Jvm.Cond.code ({ cls := "TrigramReaders", name := "requireMethod", desc := "(I)V" } : Jvm.MethodName) prog_1_method_69_code (1 : Nat) (Option.none : Option Jvm.ClassFile.FieldType)) ∈ LW := LW_mem (mt_5 (List.mem_of_getElem? (i := 169) rfl)) rfl
theorem t5_171 : (Jvm.Cond.methodLink "TrigramReaders" (292 : Nat) ({ cls := "TrigramReaders$Bytes", name := "isName", desc := "(II)Z" } : Jvm.MethodName)) ∈ LW := LW_mem (mt_5 (List.mem_of_getElem? (i := 171) rfl)) rfl
theorem t5_173 : (Jvm.Cond.methodLink "TrigramReaders" (298 : Nat) ({ cls := "TrigramReaders$State", name := "readerNamed", desc := "(LTrigramReaders$Bytes;II)LTrigramReaders$Reader;" } : Jvm.MethodName)) ∈ LW := LW_mem (mt_5 (List.mem_of_getElem? (i := 173) rfl)) rfl
theorem t5_175 : (Jvm.Cond.methodLink "TrigramReaders" (304 : Nat) ({ cls := "TrigramReaders$State", name := "putReader", desc := "(LTrigramReaders$Bytes;III)V" } : Jvm.MethodName)) ∈ LW := LW_mem (mt_5 (List.mem_of_getElem? (i := 175) rfl)) rfl
theorem t5_176 : (Jvm.Cond.methodLink "TrigramReadersLaw" (355 : Nat) ({ cls := "TrigramReadersLaw", name := "addDocument", desc := "(LTrigramReaders;[J)I" } : Jvm.MethodName)) ∈ LW := LW_mem (mt_5 (List.mem_of_getElem? (i := 176) rfl)) rfl
theorem t5_177 : (Jvm.Cond.static ({ cls := "TrigramReadersLaw", name := "addDocument", desc := "(LTrigramReaders;[J)I" } : Jvm.MethodName)) ∈ LW := LW_mem (mt_5 (List.mem_of_getElem? (i := 177) rfl)) rfl
theorem t5_178 : (Jvm.Cond.codeWith ({ cls := "TrigramReadersLaw", name := "addDocument", desc := "(LTrigramReaders;[J)I" } : Jvm.MethodName) method_45_code (3 : Nat) (Option.some Jvm.ClassFile.FieldType.int) [((0 : Nat), (8 : Nat), (11 : Nat), (19 : Nat)), ((0 : Nat), (8 : Nat), (14 : Nat), (13 : Nat))]) ∈ LW := LW_mem (mt_5 (List.mem_of_getElem? (i := 178) rfl)) rfl
theorem t5_179 : (Jvm.Cond.methodLink "TrigramReadersLaw" (153 : Nat) ({ cls := "TrigramReaders", name := "addDocument", desc := "()I" } : Jvm.MethodName)) ∈ LW := LW_mem (mt_5 (List.mem_of_getElem? (i := 179) rfl)) rfl
theorem t5_180 : (Jvm.Cond.instanceMethod ({ cls := "TrigramReaders", name := "addDocument", desc := "()I" } : Jvm.MethodName)) ∈ LW := LW_mem (mt_5 (List.mem_of_getElem? (i := 180) rfl)) rfl
theorem t5_181 : (Jvm.Cond.selects "TrigramReaders" ({ cls := "TrigramReaders", name := "addDocument", desc := "()I" } : Jvm.MethodName) ({ cls := "TrigramReaders", name := "addDocument", desc := "()I" } : Jvm.MethodName)) ∈ LW := LW_mem (mt_5 (List.mem_of_getElem? (i := 181) rfl)) rfl
theorem t5_182 : (Jvm.Cond.code ({ cls := "TrigramReaders", name := "addDocument", desc := "()I" } : Jvm.MethodName) prog_1_method_50_code (1 : Nat) (Option.some Jvm.ClassFile.FieldType.int)) ∈ LW := LW_mem (mt_5 (List.mem_of_getElem? (i := 182) rfl)) rfl
theorem t5_183 : (Jvm.Cond.methodLink "TrigramReaders" (308 : Nat) ({ cls := "TrigramReaders$Bytes", name := "isDocument", desc := "(II)Z" } : Jvm.MethodName)) ∈ LW := LW_mem (mt_5 (List.mem_of_getElem? (i := 183) rfl)) rfl
theorem t5_186 : (Jvm.Cond.methodLink "TrigramReaders" (315 : Nat) ({ cls := "TrigramReaders$State", name := "putDocument", desc := "(LTrigramReaders$Bytes;II)V" } : Jvm.MethodName)) ∈ LW := LW_mem (mt_5 (List.mem_of_getElem? (i := 186) rfl)) rfl
theorem t5_187 : (Jvm.Cond.methodLink "TrigramReadersLaw" (358 : Nat) ({ cls := "TrigramReadersLaw", name := "train", desc := "(LTrigramReaders;II[J)I" } : Jvm.MethodName)) ∈ LW := LW_mem (mt_5 (List.mem_of_getElem? (i := 187) rfl)) rfl
theorem t5_188 : (Jvm.Cond.static ({ cls := "TrigramReadersLaw", name := "train", desc := "(LTrigramReaders;II[J)I" } : Jvm.MethodName)) ∈ LW := LW_mem (mt_5 (List.mem_of_getElem? (i := 188) rfl)) rfl
theorem t5_189 : (Jvm.Cond.codeWith ({ cls := "TrigramReadersLaw", name := "train", desc := "(LTrigramReaders;II[J)I" } : Jvm.MethodName) method_46_code (5 : Nat) (Option.some Jvm.ClassFile.FieldType.int) [((0 : Nat), (10 : Nat), (13 : Nat), (29 : Nat))]) ∈ LW := LW_mem (mt_5 (List.mem_of_getElem? (i := 189) rfl)) rfl
theorem t5_190 : (Jvm.Cond.methodLink "TrigramReadersLaw" (156 : Nat) ({ cls := "TrigramReaders", name := "train", desc := "(II)I" } : Jvm.MethodName)) ∈ LW := LW_mem (mt_5 (List.mem_of_getElem? (i := 190) rfl)) rfl
theorem t5_191 : (Jvm.Cond.instanceMethod ({ cls := "TrigramReaders", name := "train", desc := "(II)I" } : Jvm.MethodName)) ∈ LW := LW_mem (mt_5 (List.mem_of_getElem? (i := 191) rfl)) rfl
theorem t5_192 : (Jvm.Cond.selects "TrigramReaders" ({ cls := "TrigramReaders", name := "train", desc := "(II)I" } : Jvm.MethodName) ({ cls := "TrigramReaders", name := "train", desc := "(II)I" } : Jvm.MethodName)) ∈ LW := LW_mem (mt_5 (List.mem_of_getElem? (i := 192) rfl)) rfl
theorem t5_193 : (Jvm.Cond.code ({ cls := "TrigramReaders", name := "train", desc := "(II)I" } : Jvm.MethodName) prog_1_method_51_code (5 : Nat) (Option.some Jvm.ClassFile.FieldType.int)) ∈ LW := LW_mem (mt_5 (List.mem_of_getElem? (i := 193) rfl)) rfl
theorem t5_194 : (Jvm.Cond.methodLink "TrigramReaders" (319 : Nat) ({ cls := "TrigramReaders$Reader", name := "recordTraining", desc := "(II)V" } : Jvm.MethodName)) ∈ LW := LW_mem (mt_5 (List.mem_of_getElem? (i := 194) rfl)) rfl
theorem t5_195 : (Jvm.Cond.methodLink "TrigramReadersLaw" (361 : Nat) ({ cls := "TrigramReadersLaw", name := "learn", desc := "(LTrigramReaders;II[J)I" } : Jvm.MethodName)) ∈ LW := LW_mem (mt_5 (List.mem_of_getElem? (i := 195) rfl)) rfl
theorem t5_196 : (Jvm.Cond.static ({ cls := "TrigramReadersLaw", name := "learn", desc := "(LTrigramReaders;II[J)I" } : Jvm.MethodName)) ∈ LW := LW_mem (mt_5 (List.mem_of_getElem? (i := 196) rfl)) rfl
theorem t5_197 : (Jvm.Cond.codeWith ({ cls := "TrigramReadersLaw", name := "learn", desc := "(LTrigramReaders;II[J)I" } : Jvm.MethodName) method_47_code (5 : Nat) (Option.some Jvm.ClassFile.FieldType.int) [((0 : Nat), (10 : Nat), (13 : Nat), (29 : Nat))]) ∈ LW := LW_mem (mt_5 (List.mem_of_getElem? (i := 197) rfl)) rfl
theorem t5_198 : (Jvm.Cond.methodLink "TrigramReadersLaw" (159 : Nat) ({ cls := "TrigramReaders", name := "learn", desc := "(II)I" } : Jvm.MethodName)) ∈ LW := LW_mem (mt_5 (List.mem_of_getElem? (i := 198) rfl)) rfl
theorem t5_199 : (Jvm.Cond.instanceMethod ({ cls := "TrigramReaders", name := "learn", desc := "(II)I" } : Jvm.MethodName)) ∈ LW := LW_mem (mt_5 (List.mem_of_getElem? (i := 199) rfl)) rfl
theorem t5_200 : (Jvm.Cond.selects "TrigramReaders" ({ cls := "TrigramReaders", name := "learn", desc := "(II)I" } : Jvm.MethodName) ({ cls := "TrigramReaders", name := "learn", desc := "(II)I" } : Jvm.MethodName)) ∈ LW := LW_mem (mt_5 (List.mem_of_getElem? (i := 200) rfl)) rfl
theorem t5_201 : (Jvm.Cond.code ({ cls := "TrigramReaders", name := "learn", desc := "(II)I" } : Jvm.MethodName) prog_1_method_52_code (5 : Nat) (Option.some Jvm.ClassFile.FieldType.int)) ∈ LW := LW_mem (mt_5 (List.mem_of_getElem? (i := 201) rfl)) rfl
theorem t5_202 : (Jvm.Cond.methodLink "TrigramReadersLaw" (364 : Nat) ({ cls := "TrigramReadersLaw", name := "forget", desc := "(LTrigramReaders;I[J)I" } : Jvm.MethodName)) ∈ LW := LW_mem (mt_5 (List.mem_of_getElem? (i := 202) rfl)) rfl
theorem t5_203 : (Jvm.Cond.static ({ cls := "TrigramReadersLaw", name := "forget", desc := "(LTrigramReaders;I[J)I" } : Jvm.MethodName)) ∈ LW := LW_mem (mt_5 (List.mem_of_getElem? (i := 203) rfl)) rfl
theorem t5_204 : (Jvm.Cond.codeWith ({ cls := "TrigramReadersLaw", name := "forget", desc := "(LTrigramReaders;I[J)I" } : Jvm.MethodName) method_48_code (4 : Nat) (Option.some Jvm.ClassFile.FieldType.int) [((0 : Nat), (9 : Nat), (12 : Nat), (29 : Nat))]) ∈ LW := LW_mem (mt_5 (List.mem_of_getElem? (i := 204) rfl)) rfl
theorem t5_205 : (Jvm.Cond.methodLink "TrigramReadersLaw" (162 : Nat) ({ cls := "TrigramReaders", name := "forget", desc := "(I)I" } : Jvm.MethodName)) ∈ LW := LW_mem (mt_5 (List.mem_of_getElem? (i := 205) rfl)) rfl
theorem t5_206 : (Jvm.Cond.instanceMethod ({ cls := "TrigramReaders", name := "forget", desc := "(I)I" } : Jvm.MethodName)) ∈ LW := LW_mem (mt_5 (List.mem_of_getElem? (i := 206) rfl)) rfl
theorem t5_207 : (Jvm.Cond.selects "TrigramReaders" ({ cls := "TrigramReaders", name := "forget", desc := "(I)I" } : Jvm.MethodName) ({ cls := "TrigramReaders", name := "forget", desc := "(I)I" } : Jvm.MethodName)) ∈ LW := LW_mem (mt_5 (List.mem_of_getElem? (i := 207) rfl)) rfl
theorem t5_208 : (Jvm.Cond.code ({ cls := "TrigramReaders", name := "forget", desc := "(I)I" } : Jvm.MethodName) prog_1_method_53_code (4 : Nat) (Option.some Jvm.ClassFile.FieldType.int)) ∈ LW := LW_mem (mt_5 (List.mem_of_getElem? (i := 208) rfl)) rfl
theorem t5_209 : (Jvm.Cond.methodLink "TrigramReaders" (322 : Nat) ({ cls := "TrigramReaders$Reader", name := "clearTrainings", desc := "()V" } : Jvm.MethodName)) ∈ LW := LW_mem (mt_5 (List.mem_of_getElem? (i := 209) rfl)) rfl
theorem t5_210 : (Jvm.Cond.methodLink "TrigramReadersLaw" (367 : Nat) ({ cls := "TrigramReadersLaw", name := "setEscapeMethod", desc := "(LTrigramReaders;II[J)I" } : Jvm.MethodName)) ∈ LW := LW_mem (mt_5 (List.mem_of_getElem? (i := 210) rfl)) rfl
theorem t5_211 : (Jvm.Cond.static ({ cls := "TrigramReadersLaw", name := "setEscapeMethod", desc := "(LTrigramReaders;II[J)I" } : Jvm.MethodName)) ∈ LW := LW_mem (mt_5 (List.mem_of_getElem? (i := 211) rfl)) rfl
theorem t5_212 : (Jvm.Cond.codeWith ({ cls := "TrigramReadersLaw", name := "setEscapeMethod", desc := "(LTrigramReaders;II[J)I" } : Jvm.MethodName) method_49_code (5 : Nat) (Option.some Jvm.ClassFile.FieldType.int) [((0 : Nat), (10 : Nat), (13 : Nat), (29 : Nat)), ((0 : Nat), (10 : Nat), (17 : Nat), (19 : Nat))]) ∈ LW := LW_mem (mt_5 (List.mem_of_getElem? (i := 212) rfl)) rfl
theorem t5_213 : (Jvm.Cond.methodLink "TrigramReadersLaw" (165 : Nat) ({ cls := "TrigramReaders", name := "setEscapeMethod", desc := "(II)I" } : Jvm.MethodName)) ∈ LW := LW_mem (mt_5 (List.mem_of_getElem? (i := 213) rfl)) rfl
theorem t5_214 : (Jvm.Cond.instanceMethod ({ cls := "TrigramReaders", name := "setEscapeMethod", desc := "(II)I" } : Jvm.MethodName)) ∈ LW := LW_mem (mt_5 (List.mem_of_getElem? (i := 214) rfl)) rfl
theorem t5_215 : (Jvm.Cond.selects "TrigramReaders" ({ cls := "TrigramReaders", name := "setEscapeMethod", desc := "(II)I" } : Jvm.MethodName) ({ cls := "TrigramReaders", name := "setEscapeMethod", desc := "(II)I" } : Jvm.MethodName)) ∈ LW := LW_mem (mt_5 (List.mem_of_getElem? (i := 215) rfl)) rfl
theorem t5_216 : (Jvm.Cond.code ({ cls := "TrigramReaders", name := "setEscapeMethod", desc := "(II)I" } : Jvm.MethodName) prog_1_method_54_code (5 : Nat) (Option.some Jvm.ClassFile.FieldType.int)) ∈ LW := LW_mem (mt_5 (List.mem_of_getElem? (i := 216) rfl)) rfl
theorem t5_217 : (Jvm.Cond.methodLink "TrigramReadersLaw" (374 : Nat) ({ cls := "TrigramReadersLaw", name := "merge", desc := "(LTrigramReaders;II[J)I" } : Jvm.MethodName)) ∈ LW := LW_mem (mt_5 (List.mem_of_getElem? (i := 217) rfl)) rfl
theorem t5_218 : (Jvm.Cond.static ({ cls := "TrigramReadersLaw", name := "merge", desc := "(LTrigramReaders;II[J)I" } : Jvm.MethodName)) ∈ LW := LW_mem (mt_5 (List.mem_of_getElem? (i := 218) rfl)) rfl
theorem t5_219 : (Jvm.Cond.codeWith ({ cls := "TrigramReadersLaw", name := "merge", desc := "(LTrigramReaders;II[J)I" } : Jvm.MethodName) method_50_code (5 : Nat) (Option.some Jvm.ClassFile.FieldType.int) [((0 : Nat), (10 : Nat), (13 : Nat), (29 : Nat)), ((0 : Nat), (10 : Nat), (17 : Nat), (19 : Nat))]) ∈ LW := LW_mem (mt_5 (List.mem_of_getElem? (i := 219) rfl)) rfl
theorem t5_220 : (Jvm.Cond.methodLink "TrigramReadersLaw" (168 : Nat) ({ cls := "TrigramReaders", name := "merge", desc := "(II)I" } : Jvm.MethodName)) ∈ LW := LW_mem (mt_5 (List.mem_of_getElem? (i := 220) rfl)) rfl
theorem t5_221 : (Jvm.Cond.instanceMethod ({ cls := "TrigramReaders", name := "merge", desc := "(II)I" } : Jvm.MethodName)) ∈ LW := LW_mem (mt_5 (List.mem_of_getElem? (i := 221) rfl)) rfl
theorem t5_222 : (Jvm.Cond.selects "TrigramReaders" ({ cls := "TrigramReaders", name := "merge", desc := "(II)I" } : Jvm.MethodName) ({ cls := "TrigramReaders", name := "merge", desc := "(II)I" } : Jvm.MethodName)) ∈ LW := LW_mem (mt_5 (List.mem_of_getElem? (i := 222) rfl)) rfl
theorem t5_223 : (Jvm.Cond.code ({ cls := "TrigramReaders", name := "merge", desc := "(II)I" } : Jvm.MethodName) prog_1_method_56_code (5 : Nat) (Option.some Jvm.ClassFile.FieldType.int)) ∈ LW := LW_mem (mt_5 (List.mem_of_getElem? (i := 223) rfl)) rfl
theorem t5_224 : (Jvm.Cond.methodLink "TrigramReaders" (328 : Nat) ({ cls := "TrigramReaders$Reader", name := "takeIn", desc := "(LTrigramReaders$Reader;)V" } : Jvm.MethodName)) ∈ LW := LW_mem (mt_5 (List.mem_of_getElem? (i := 224) rfl)) rfl
theorem t5_225 : (Jvm.Cond.instanceMethod ({ cls := "TrigramReaders$Reader", name := "takeIn", desc := "(LTrigramReaders$Reader;)V" } : Jvm.MethodName)) ∈ LW := LW_mem (mt_5 (List.mem_of_getElem? (i := 225) rfl)) rfl
theorem t5_226 : (Jvm.Cond.selects "TrigramReaders$Reader" ({ cls := "TrigramReaders$Reader", name := "takeIn", desc := "(LTrigramReaders$Reader;)V" } : Jvm.MethodName) ({ cls := "TrigramReaders$Reader", name := "takeIn", desc := "(LTrigramReaders$Reader;)V" } : Jvm.MethodName)) ∈ LW := LW_mem (mt_5 (List.mem_of_getElem? (i := 226) rfl)) rfl
theorem t5_227 : (Jvm.Cond.code ({ cls := "TrigramReaders$Reader", name := "takeIn", desc := "(LTrigramReaders$Reader;)V" } : Jvm.MethodName) prog_8_method_9_code (3 : Nat) (Option.none : Option Jvm.ClassFile.FieldType)) ∈ LW := LW_mem (mt_5 (List.mem_of_getElem? (i := 227) rfl)) rfl
theorem t5_228 : (Jvm.Cond.methodLink "TrigramReaders$Reader" (60 : Nat) ({ cls := "TrigramReaders$Counts", name := "addAll", desc := "(LTrigramReaders$Counts;)V" } : Jvm.MethodName)) ∈ LW := LW_mem (mt_5 (List.mem_of_getElem? (i := 228) rfl)) rfl
theorem t5_229 : (Jvm.Cond.instanceMethod ({ cls := "TrigramReaders$Counts", name := "addAll", desc := "(LTrigramReaders$Counts;)V" } : Jvm.MethodName)) ∈ LW := LW_mem (mt_5 (List.mem_of_getElem? (i := 229) rfl)) rfl
theorem t5_230 : (Jvm.Cond.selects "TrigramReaders$Counts" ({ cls := "TrigramReaders$Counts", name := "addAll", desc := "(LTrigramReaders$Counts;)V" } : Jvm.MethodName) ({ cls := "TrigramReaders$Counts", name := "addAll", desc := "(LTrigramReaders$Counts;)V" } : Jvm.MethodName)) ∈ LW := LW_mem (mt_5 (List.mem_of_getElem? (i := 230) rfl)) rfl
theorem t5_231 : (Jvm.Cond.code ({ cls := "TrigramReaders$Counts", name := "addAll", desc := "(LTrigramReaders$Counts;)V" } : Jvm.MethodName) prog_4_method_6_code (3 : Nat) (Option.none : Option Jvm.ClassFile.FieldType)) ∈ LW := LW_mem (mt_5 (List.mem_of_getElem? (i := 231) rfl)) rfl
theorem t5_232 : (Jvm.Cond.methodLink "TrigramReadersLaw" (377 : Nat) ({ cls := "TrigramReadersLaw", name := "encode", desc := "(LTrigramReaders;II[J)I" } : Jvm.MethodName)) ∈ LW := LW_mem (mt_5 (List.mem_of_getElem? (i := 232) rfl)) rfl
theorem t5_233 : (Jvm.Cond.static ({ cls := "TrigramReadersLaw", name := "encode", desc := "(LTrigramReaders;II[J)I" } : Jvm.MethodName)) ∈ LW := LW_mem (mt_5 (List.mem_of_getElem? (i := 233) rfl)) rfl
theorem t5_234 : (Jvm.Cond.codeWith ({ cls := "TrigramReadersLaw", name := "encode", desc := "(LTrigramReaders;II[J)I" } : Jvm.MethodName) method_51_code (5 : Nat) (Option.some Jvm.ClassFile.FieldType.int) [((0 : Nat), (10 : Nat), (13 : Nat), (29 : Nat))]) ∈ LW := LW_mem (mt_5 (List.mem_of_getElem? (i := 234) rfl)) rfl
theorem t5_235 : (Jvm.Cond.methodLink "TrigramReadersLaw" (171 : Nat) ({ cls := "TrigramReaders", name := "encode", desc := "(II)I" } : Jvm.MethodName)) ∈ LW := LW_mem (mt_5 (List.mem_of_getElem? (i := 235) rfl)) rfl
theorem t5_236 : (Jvm.Cond.instanceMethod ({ cls := "TrigramReaders", name := "encode", desc := "(II)I" } : Jvm.MethodName)) ∈ LW := LW_mem (mt_5 (List.mem_of_getElem? (i := 236) rfl)) rfl
theorem t5_237 : (Jvm.Cond.selects "TrigramReaders" ({ cls := "TrigramReaders", name := "encode", desc := "(II)I" } : Jvm.MethodName) ({ cls := "TrigramReaders", name := "encode", desc := "(II)I" } : Jvm.MethodName)) ∈ LW := LW_mem (mt_5 (List.mem_of_getElem? (i := 237) rfl)) rfl
theorem t5_238 : (Jvm.Cond.code ({ cls := "TrigramReaders", name := "encode", desc := "(II)I" } : Jvm.MethodName) prog_1_method_57_code (6 : Nat) (Option.some Jvm.ClassFile.FieldType.int)) ∈ LW := LW_mem (mt_5 (List.mem_of_getElem? (i := 238) rfl)) rfl
theorem t5_239 : (Jvm.Cond.methodLink "TrigramReaders" (332 : Nat) ({ cls := "TrigramReaders$Bytes", name := "appendNumber", desc := "(I)V" } : Jvm.MethodName)) ∈ LW := LW_mem (mt_5 (List.mem_of_getElem? (i := 239) rfl)) rfl
theorem t6_0 : (Jvm.Cond.instanceMethod ({ cls := "TrigramReaders$Bytes", name := "appendNumber", desc := "(I)V" } : Jvm.MethodName)) ∈ LW := LW_mem (mt_6 (List.mem_of_getElem? (i := 0) rfl)) rfl
theorem t6_1 : (Jvm.Cond.selects "TrigramReaders$Bytes" ({ cls := "TrigramReaders$Bytes", name := "appendNumber", desc := "(I)V" } : Jvm.MethodName) ({ cls := "TrigramReaders$Bytes", name := "appendNumber", desc := "(I)V" } : Jvm.MethodName)) ∈ LW := LW_mem (mt_6 (List.mem_of_getElem? (i := 1) rfl)) rfl
theorem t6_2 : (Jvm.Cond.code ({ cls := "TrigramReaders$Bytes", name := "appendNumber", desc := "(I)V" } : Jvm.MethodName) prog_2_method_5_code (2 : Nat) (Option.none : Option Jvm.ClassFile.FieldType)) ∈ LW := LW_mem (mt_6 (List.mem_of_getElem? (i := 2) rfl)) rfl
theorem t6_3 : (Jvm.Cond.methodLink "TrigramReadersLaw" (380 : Nat) ({ cls := "TrigramReadersLaw", name := "decode", desc := "(LTrigramReaders;I[J)I" } : Jvm.MethodName)) ∈ LW := LW_mem (mt_6 (List.mem_of_getElem? (i := 3) rfl)) rfl
theorem t6_4 : (Jvm.Cond.static ({ cls := "TrigramReadersLaw", name := "decode", desc := "(LTrigramReaders;I[J)I" } : Jvm.MethodName)) ∈ LW := LW_mem (mt_6 (List.mem_of_getElem? (i := 4) rfl)) rfl
theorem t6_5 : (Jvm.Cond.codeWith ({ cls := "TrigramReadersLaw", name := "decode", desc := "(LTrigramReaders;I[J)I" } : Jvm.MethodName) method_52_code (4 : Nat) (Option.some Jvm.ClassFile.FieldType.int) [((0 : Nat), (9 : Nat), (12 : Nat), (29 : Nat)), ((0 : Nat), (9 : Nat), (15 : Nat), (19 : Nat))]) ∈ LW := LW_mem (mt_6 (List.mem_of_getElem? (i := 5) rfl)) rfl
theorem t6_6 : (Jvm.Cond.methodLink "TrigramReadersLaw" (174 : Nat) ({ cls := "TrigramReaders", name := "decode", desc := "(I)I" } : Jvm.MethodName)) ∈ LW := LW_mem (mt_6 (List.mem_of_getElem? (i := 6) rfl)) rfl
theorem t6_7 : (Jvm.Cond.instanceMethod ({ cls := "TrigramReaders", name := "decode", desc := "(I)I" } : Jvm.MethodName)) ∈ LW := LW_mem (mt_6 (List.mem_of_getElem? (i := 7) rfl)) rfl
theorem t6_8 : (Jvm.Cond.selects "TrigramReaders" ({ cls := "TrigramReaders", name := "decode", desc := "(I)I" } : Jvm.MethodName) ({ cls := "TrigramReaders", name := "decode", desc := "(I)I" } : Jvm.MethodName)) ∈ LW := LW_mem (mt_6 (List.mem_of_getElem? (i := 8) rfl)) rfl
theorem t6_9 : (Jvm.Cond.code ({ cls := "TrigramReaders", name := "decode", desc := "(I)I" } : Jvm.MethodName) prog_1_method_58_code (4 : Nat) (Option.some Jvm.ClassFile.FieldType.int)) ∈ LW := LW_mem (mt_6 (List.mem_of_getElem? (i := 9) rfl)) rfl
theorem t6_10 : (Jvm.Cond.methodLink "TrigramReaders" (335 : Nat) ({ cls := "TrigramReaders", name := "readRanks", desc := "()I" } : Jvm.MethodName)) ∈ LW := LW_mem (mt_6 (List.mem_of_getElem? (i := 10) rfl)) rfl
theorem t6_12 : (Jvm.Cond.instanceMethod ({ cls := "TrigramReaders", name := "readRanks", desc := "()I" } : Jvm.MethodName)) ∈ LW := LW_mem (mt_6 (List.mem_of_getElem? (i := 12) rfl)) rfl
theorem t6_13 : (Jvm.Cond.code ({ cls := "TrigramReaders", name := "readRanks", desc := "()I" } : Jvm.MethodName) prog_1_method_84_code (6 : Nat) (Option.some Jvm.ClassFile.FieldType.int)) ∈ LW := LW_mem (mt_6 (List.mem_of_getElem? (i := 13) rfl)) rfl
theorem t6_14 : (Jvm.Cond.methodLink "TrigramReaders" (344 : Nat) ({ cls := "TrigramReaders$Bytes", name := "at", desc := "(I)I" } : Jvm.MethodName)) ∈ LW := LW_mem (mt_6 (List.mem_of_getElem? (i := 14) rfl)) rfl
theorem t6_15 : (Jvm.Cond.methodLink "TrigramReaders" (400 : Nat) ({ cls := "TrigramReaders", name := "isDigit", desc := "(I)Z" } : Jvm.MethodName)) ∈ LW := LW_mem (mt_6 (List.mem_of_getElem? (i := 15) rfl)) rfl
theorem t6_16 : (Jvm.Cond.methodLink "TrigramReaders" (403 : Nat) ({ cls := "TrigramReaders", name := "withDigit", desc := "(II)I" } : Jvm.MethodName)) ∈ LW := LW_mem (mt_6 (List.mem_of_getElem? (i := 16) rfl)) rfl
theorem t6_18 : (Jvm.Cond.methodLink "TrigramReaders" (340 : Nat) ({ cls := "TrigramReaders", name := "writeSymbols", desc := "(LTrigramReaders$Counts;[II)V" } : Jvm.MethodName)) ∈ LW := LW_mem (mt_6 (List.mem_of_getElem? (i := 18) rfl)) rfl
theorem t6_20 : (Jvm.Cond.instanceMethod ({ cls := "TrigramReaders", name := "writeSymbols", desc := "(LTrigramReaders$Counts;[II)V" } : Jvm.MethodName)) ∈ LW := LW_mem (mt_6 (List.mem_of_getElem? (i := 20) rfl)) rfl
theorem t6_21 : (Jvm.Cond.code ({ cls := "TrigramReaders", name := "writeSymbols", desc := "(LTrigramReaders$Counts;[II)V" } : Jvm.MethodName) prog_1_method_85_code (8 : Nat) (Option.none : Option Jvm.ClassFile.FieldType)) ∈ LW := LW_mem (mt_6 (List.mem_of_getElem? (i := 21) rfl)) rfl
theorem t6_22 : (Jvm.Cond.methodLink "TrigramReadersLaw" (383 : Nat) ({ cls := "TrigramReadersLaw", name := "writeExpected", desc := "(LTrigramReaders;II[J)I" } : Jvm.MethodName)) ∈ LW := LW_mem (mt_6 (List.mem_of_getElem? (i := 22) rfl)) rfl
theorem t6_23 : (Jvm.Cond.static ({ cls := "TrigramReadersLaw", name := "writeExpected", desc := "(LTrigramReaders;II[J)I" } : Jvm.MethodName)) ∈ LW := LW_mem (mt_6 (List.mem_of_getElem? (i := 23) rfl)) rfl
theorem t6_24 : (Jvm.Cond.codeWith ({ cls := "TrigramReadersLaw", name := "writeExpected", desc := "(LTrigramReaders;II[J)I" } : Jvm.MethodName) method_53_code (5 : Nat) (Option.some Jvm.ClassFile.FieldType.int) [((0 : Nat), (10 : Nat), (13 : Nat), (29 : Nat)), ((0 : Nat), (10 : Nat), (17 : Nat), (19 : Nat))]) ∈ LW := LW_mem (mt_6 (List.mem_of_getElem? (i := 24) rfl)) rfl
theorem t6_25 : (Jvm.Cond.methodLink "TrigramReadersLaw" (177 : Nat) ({ cls := "TrigramReaders", name := "writeExpected", desc := "(II)I" } : Jvm.MethodName)) ∈ LW := LW_mem (mt_6 (List.mem_of_getElem? (i := 25) rfl)) rfl
theorem t6_26 : (Jvm.Cond.instanceMethod ({ cls := "TrigramReaders", name := "writeExpected", desc := "(II)I" } : Jvm.MethodName)) ∈ LW := LW_mem (mt_6 (List.mem_of_getElem? (i := 26) rfl)) rfl
theorem t6_27 : (Jvm.Cond.selects "TrigramReaders" ({ cls := "TrigramReaders", name := "writeExpected", desc := "(II)I" } : Jvm.MethodName) ({ cls := "TrigramReaders", name := "writeExpected", desc := "(II)I" } : Jvm.MethodName)) ∈ LW := LW_mem (mt_6 (List.mem_of_getElem? (i := 27) rfl)) rfl
theorem t6_28 : (Jvm.Cond.code ({ cls := "TrigramReaders", name := "writeExpected", desc := "(II)I" } : Jvm.MethodName) prog_1_method_59_code (5 : Nat) (Option.some Jvm.ClassFile.FieldType.int)) ∈ LW := LW_mem (mt_6 (List.mem_of_getElem? (i := 28) rfl)) rfl
theorem t6_29 : (Jvm.Cond.methodLink "TrigramReadersLaw" (386 : Nat) ({ cls := "TrigramReadersLaw", name := "outputByte", desc := "(LTrigramReaders;I[J)I" } : Jvm.MethodName)) ∈ LW := LW_mem (mt_6 (List.mem_of_getElem? (i := 29) rfl)) rfl
theorem t6_30 : (Jvm.Cond.static ({ cls := "TrigramReadersLaw", name := "outputByte", desc := "(LTrigramReaders;I[J)I" } : Jvm.MethodName)) ∈ LW := LW_mem (mt_6 (List.mem_of_getElem? (i := 30) rfl)) rfl
theorem t6_31 : (Jvm.Cond.codeWith ({ cls := "TrigramReadersLaw", name := "outputByte", desc := "(LTrigramReaders;I[J)I" } : Jvm.MethodName) method_54_code (4 : Nat) (Option.some Jvm.ClassFile.FieldType.int) [((0 : Nat), (9 : Nat), (12 : Nat), (31 : Nat))]) ∈ LW := LW_mem (mt_6 (List.mem_of_getElem? (i := 31) rfl)) rfl
theorem t6_32 : (Jvm.Cond.methodLink "TrigramReadersLaw" (180 : Nat) ({ cls := "TrigramReaders", name := "outputByte", desc := "(I)I" } : Jvm.MethodName)) ∈ LW := LW_mem (mt_6 (List.mem_of_getElem? (i := 32) rfl)) rfl
theorem t6_33 : (Jvm.Cond.instanceMethod ({ cls := "TrigramReaders", name := "outputByte", desc := "(I)I" } : Jvm.MethodName)) ∈ LW := LW_mem (mt_6 (List.mem_of_getElem? (i := 33) rfl)) rfl
theorem t6_34 : (Jvm.Cond.selects "TrigramReaders" ({ cls := "TrigramReaders", name := "outputByte", desc := "(I)I" } : Jvm.MethodName) ({ cls := "TrigramReaders", name := "outputByte", desc := "(I)I" } : Jvm.MethodName)) ∈ LW := LW_mem (mt_6 (List.mem_of_getElem? (i := 34) rfl)) rfl
theorem t6_35 : (Jvm.Cond.code ({ cls := "TrigramReaders", name := "outputByte", desc := "(I)I" } : Jvm.MethodName) prog_1_method_60_code (3 : Nat) (Option.some Jvm.ClassFile.FieldType.int)) ∈ LW := LW_mem (mt_6 (List.mem_of_getElem? (i := 35) rfl)) rfl
theorem t6_37 : (Jvm.Cond.methodLink "TrigramReadersLaw" (389 : Nat) ({ cls := "TrigramReadersLaw", name := "save", desc := "(LTrigramReaders;I[J)I" } : Jvm.MethodName)) ∈ LW := LW_mem (mt_6 (List.mem_of_getElem? (i := 37) rfl)) rfl
theorem t6_38 : (Jvm.Cond.static ({ cls := "TrigramReadersLaw", name := "save", desc := "(LTrigramReaders;I[J)I" } : Jvm.MethodName)) ∈ LW := LW_mem (mt_6 (List.mem_of_getElem? (i := 38) rfl)) rfl
theorem t6_39 : (Jvm.Cond.codeWith ({ cls := "TrigramReadersLaw", name := "save", desc := "(LTrigramReaders;I[J)I" } : Jvm.MethodName) method_55_code (4 : Nat) (Option.some Jvm.ClassFile.FieldType.int) [((0 : Nat), (9 : Nat), (12 : Nat), (29 : Nat))]) ∈ LW := LW_mem (mt_6 (List.mem_of_getElem? (i := 39) rfl)) rfl
theorem t6_40 : (Jvm.Cond.methodLink "TrigramReadersLaw" (183 : Nat) ({ cls := "TrigramReaders", name := "save", desc := "(I)I" } : Jvm.MethodName)) ∈ LW := LW_mem (mt_6 (List.mem_of_getElem? (i := 40) rfl)) rfl
theorem t6_41 : (Jvm.Cond.instanceMethod ({ cls := "TrigramReaders", name := "save", desc := "(I)I" } : Jvm.MethodName)) ∈ LW := LW_mem (mt_6 (List.mem_of_getElem? (i := 41) rfl)) rfl
theorem t6_42 : (Jvm.Cond.selects "TrigramReaders" ({ cls := "TrigramReaders", name := "save", desc := "(I)I" } : Jvm.MethodName) ({ cls := "TrigramReaders", name := "save", desc := "(I)I" } : Jvm.MethodName)) ∈ LW := LW_mem (mt_6 (List.mem_of_getElem? (i := 42) rfl)) rfl
theorem t6_43 : (Jvm.Cond.code ({ cls := "TrigramReaders", name := "save", desc := "(I)I" } : Jvm.MethodName) prog_1_method_61_code (2 : Nat) (Option.some Jvm.ClassFile.FieldType.int)) ∈ LW := LW_mem (mt_6 (List.mem_of_getElem? (i := 43) rfl)) rfl
theorem t6_44 : (Jvm.Cond.methodLink "TrigramReaders" (349 : Nat) ({ cls := "TrigramReaders", name := "requireSlot", desc := "(I)V" } : Jvm.MethodName)) ∈ LW := LW_mem (mt_6 (List.mem_of_getElem? (i := 44) rfl)) rfl
theorem t6_45 : (Jvm.Cond.static ({ cls := "TrigramReaders", name := "requireSlot", desc := "(I)V" } : Jvm.MethodName)) ∈ LW := LW_mem (mt_6 (List.mem_of_getElem? (i := 45) rfl)) rfl
theorem t6_46 : (Jvm.Cond.code ({ cls := "TrigramReaders", name := "requireSlot", desc := "(I)V" } : Jvm.MethodName) prog_1_method_68_code (1 : Nat) (Option.none : Option Jvm.ClassFile.FieldType)) ∈ LW := LW_mem (mt_6 (List.mem_of_getElem? (i := 46) rfl)) rfl
theorem t6_48 : (Jvm.Cond.methodLink "TrigramReadersLaw" (392 : Nat) ({ cls := "TrigramReadersLaw", name := "restore", desc := "(LTrigramReaders;I[J)I" } : Jvm.MethodName)) ∈ LW := LW_mem (mt_6 (List.mem_of_getElem? (i := 48) rfl)) rfl
theorem t6_49 : (Jvm.Cond.static ({ cls := "TrigramReadersLaw", name := "restore", desc := "(LTrigramReaders;I[J)I" } : Jvm.MethodName)) ∈ LW := LW_mem (mt_6 (List.mem_of_getElem? (i := 49) rfl)) rfl
theorem t6_50 : (Jvm.Cond.codeWith ({ cls := "TrigramReadersLaw", name := "restore", desc := "(LTrigramReaders;I[J)I" } : Jvm.MethodName) method_56_code (4 : Nat) (Option.some Jvm.ClassFile.FieldType.int) [((0 : Nat), (9 : Nat), (12 : Nat), (29 : Nat)), ((0 : Nat), (9 : Nat), (15 : Nat), (13 : Nat))]) ∈ LW := LW_mem (mt_6 (List.mem_of_getElem? (i := 50) rfl)) rfl
theorem t6_51 : (Jvm.Cond.methodLink "TrigramReadersLaw" (186 : Nat) ({ cls := "TrigramReaders", name := "restore", desc := "(I)I" } : Jvm.MethodName)) ∈ LW := LW_mem (mt_6 (List.mem_of_getElem? (i := 51) rfl)) rfl
theorem t6_52 : (Jvm.Cond.instanceMethod ({ cls := "TrigramReaders", name := "restore", desc := "(I)I" } : Jvm.MethodName)) ∈ LW := LW_mem (mt_6 (List.mem_of_getElem? (i := 52) rfl)) rfl
theorem t6_53 : (Jvm.Cond.selects "TrigramReaders" ({ cls := "TrigramReaders", name := "restore", desc := "(I)I" } : Jvm.MethodName) ({ cls := "TrigramReaders", name := "restore", desc := "(I)I" } : Jvm.MethodName)) ∈ LW := LW_mem (mt_6 (List.mem_of_getElem? (i := 53) rfl)) rfl
theorem t6_54 : (Jvm.Cond.code ({ cls := "TrigramReaders", name := "restore", desc := "(I)I" } : Jvm.MethodName) prog_1_method_62_code (2 : Nat) (Option.some Jvm.ClassFile.FieldType.int)) ∈ LW := LW_mem (mt_6 (List.mem_of_getElem? (i := 54) rfl)) rfl
theorem t6_56 : (Jvm.Cond.methodLink "TrigramReadersLaw" (395 : Nat) ({ cls := "TrigramReadersLaw", name := "undo", desc := "(LTrigramReaders;[J)I" } : Jvm.MethodName)) ∈ LW := LW_mem (mt_6 (List.mem_of_getElem? (i := 56) rfl)) rfl
theorem t6_57 : (Jvm.Cond.static ({ cls := "TrigramReadersLaw", name := "undo", desc := "(LTrigramReaders;[J)I" } : Jvm.MethodName)) ∈ LW := LW_mem (mt_6 (List.mem_of_getElem? (i := 57) rfl)) rfl
theorem t6_58 : (Jvm.Cond.codeWith ({ cls := "TrigramReadersLaw", name := "undo", desc := "(LTrigramReaders;[J)I" } : Jvm.MethodName) method_57_code (3 : Nat) (Option.some Jvm.ClassFile.FieldType.int) [((0 : Nat), (8 : Nat), (11 : Nat), (13 : Nat))]) ∈ LW := LW_mem (mt_6 (List.mem_of_getElem? (i := 58) rfl)) rfl
theorem t6_59 : (Jvm.Cond.methodLink "TrigramReadersLaw" (189 : Nat) ({ cls := "TrigramReaders", name := "undo", desc := "()I" } : Jvm.MethodName)) ∈ LW := LW_mem (mt_6 (List.mem_of_getElem? (i := 59) rfl)) rfl
theorem t6_60 : (Jvm.Cond.instanceMethod ({ cls := "TrigramReaders", name := "undo", desc := "()I" } : Jvm.MethodName)) ∈ LW := LW_mem (mt_6 (List.mem_of_getElem? (i := 60) rfl)) rfl
theorem t6_61 : (Jvm.Cond.selects "TrigramReaders" ({ cls := "TrigramReaders", name := "undo", desc := "()I" } : Jvm.MethodName) ({ cls := "TrigramReaders", name := "undo", desc := "()I" } : Jvm.MethodName)) ∈ LW := LW_mem (mt_6 (List.mem_of_getElem? (i := 61) rfl)) rfl
theorem t6_62 : (Jvm.Cond.code ({ cls := "TrigramReaders", name := "undo", desc := "()I" } : Jvm.MethodName) prog_1_method_63_code (1 : Nat) (Option.some Jvm.ClassFile.FieldType.int)) ∈ LW := LW_mem (mt_6 (List.mem_of_getElem? (i := 62) rfl)) rfl
theorem t6_64 : (Jvm.Cond.classLink "TrigramReadersLaw" (193 : Nat) "TrigramReadersModel") ∈ LW := LW_mem (mt_6 (List.mem_of_getElem? (i := 64) rfl)) rfl
theorem t6_65 : (Jvm.Cond.instantiable "TrigramReadersModel" (33 : Nat)) ∈ LW := LW_mem (mt_6 (List.mem_of_getElem? (i := 65) rfl)) rfl
theorem t6_66 : (Jvm.Cond.methodLink "TrigramReadersLaw" (195 : Nat) ({ cls := "TrigramReadersModel", name := "<init>", desc := "()V" } : Jvm.MethodName)) ∈ LW := LW_mem (mt_6 (List.mem_of_getElem? (i := 66) rfl)) rfl
theorem t6_67 : (Jvm.Cond.instanceMethod ({ cls := "TrigramReadersModel", name := "<init>", desc := "()V" } : Jvm.MethodName)) ∈ LW := LW_mem (mt_6 (List.mem_of_getElem? (i := 67) rfl)) rfl
theorem t6_68 : (Jvm.Cond.code ({ cls := "TrigramReadersModel", name := "<init>", desc := "()V" } : Jvm.MethodName) prog_11_method_1_code (1 : Nat) (Option.none : Option Jvm.ClassFile.FieldType)) ∈ LW := LW_mem (mt_6 (List.mem_of_getElem? (i := 68) rfl)) rfl
theorem t6_69 : (Jvm.Cond.methodLink "TrigramReadersModel" (1 : Nat) ({ cls := "java/lang/Object", name := "<init>", desc := "()V" } : Jvm.MethodName)) ∈ LW := LW_mem (mt_6 (List.mem_of_getElem? (i := 69) rfl)) rfl
theorem t6_70 : (Jvm.Cond.constant "TrigramReadersModel" (19 : Nat) (47896 : Int32)) ∈ LW := LW_mem (mt_6 (List.mem_of_getElem? (i := 70) rfl)) rfl
theorem t6_72 : (Jvm.Cond.methodLink "TrigramReadersModel" (61 : Nat) ({ cls := "TrigramReadersModel", name := "layInput", desc := "(Ljava/lang/String;)V" } : Jvm.MethodName)) ∈ LW := LW_mem (mt_6 (List.mem_of_getElem? (i := 72) rfl)) rfl
theorem t6_74 : (Jvm.Cond.instanceMethod ({ cls := "TrigramReadersModel", name := "layInput", desc := "(Ljava/lang/String;)V" } : Jvm.MethodName)) ∈ LW := LW_mem (mt_6 (List.mem_of_getElem? (i := 74) rfl)) rfl
theorem t6_75 : (Jvm.Cond.code ({ cls := "TrigramReadersModel", name := "layInput", desc := "(Ljava/lang/String;)V" } : Jvm.MethodName) prog_11_method_2_code (3 : Nat) (Option.none : Option Jvm.ClassFile.FieldType)) ∈ LW := LW_mem (mt_6 (List.mem_of_getElem? (i := 75) rfl)) rfl
theorem t6_76 : (Jvm.Cond.methodLink "TrigramReadersModel" (75 : Nat) ({ cls := "java/lang/String", name := "length", desc := "()I" } : Jvm.MethodName)) ∈ LW := LW_mem (mt_6 (List.mem_of_getElem? (i := 76) rfl)) rfl
theorem t6_77 : (Jvm.Cond.methodLink "TrigramReadersModel" (81 : Nat) ({ cls := "java/lang/String", name := "charAt", desc := "(I)C" } : Jvm.MethodName)) ∈ LW := LW_mem (mt_6 (List.mem_of_getElem? (i := 77) rfl)) rfl
theorem t6_78 : (Jvm.Cond.methodLink "TrigramReadersModel" (65 : Nat) ({ cls := "TrigramReadersModel", name := "read", desc := "()V" } : Jvm.MethodName)) ∈ LW := LW_mem (mt_6 (List.mem_of_getElem? (i := 78) rfl)) rfl
theorem t6_80 : (Jvm.Cond.instanceMethod ({ cls := "TrigramReadersModel", name := "read", desc := "()V" } : Jvm.MethodName)) ∈ LW := LW_mem (mt_6 (List.mem_of_getElem? (i := 80) rfl)) rfl
theorem t6_81 : (Jvm.Cond.code ({ cls := "TrigramReadersModel", name := "read", desc := "()V" } : Jvm.MethodName) prog_11_method_57_code (2 : Nat) (Option.none : Option Jvm.ClassFile.FieldType)) ∈ LW := LW_mem (mt_6 (List.mem_of_getElem? (i := 81) rfl)) rfl
theorem t6_82 : (Jvm.Cond.methodLink "TrigramReadersModel" (228 : Nat) ({ cls := "TrigramReadersModel", name := "advance", desc := "()V" } : Jvm.MethodName)) ∈ LW := LW_mem (mt_6 (List.mem_of_getElem? (i := 82) rfl)) rfl
theorem t6_84 : (Jvm.Cond.instanceMethod ({ cls := "TrigramReadersModel", name := "advance", desc := "()V" } : Jvm.MethodName)) ∈ LW := LW_mem (mt_6 (List.mem_of_getElem? (i := 84) rfl)) rfl
theorem t6_85 : (Jvm.Cond.code ({ cls := "TrigramReadersModel", name := "advance", desc := "()V" } : Jvm.MethodName) prog_11_method_45_code (2 : Nat) (Option.none : Option Jvm.ClassFile.FieldType)) ∈ LW := LW_mem (mt_6 (List.mem_of_getElem? (i := 85) rfl)) rfl
theorem t6_86 : (Jvm.Cond.methodLink "TrigramReadersModel" (209 : Nat) ({ cls := "TrigramReadersModel", name := "byteAt", desc := "(I)I" } : Jvm.MethodName)) ∈ LW := LW_mem (mt_6 (List.mem_of_getElem? (i := 86) rfl)) rfl
theorem t6_88 : (Jvm.Cond.instanceMethod ({ cls := "TrigramReadersModel", name := "byteAt", desc := "(I)I" } : Jvm.MethodName)) ∈ LW := LW_mem (mt_6 (List.mem_of_getElem? (i := 88) rfl)) rfl
theorem t6_89 : (Jvm.Cond.code ({ cls := "TrigramReadersModel", name := "byteAt", desc := "(I)I" } : Jvm.MethodName) prog_11_method_42_code (2 : Nat) (Option.some Jvm.ClassFile.FieldType.int)) ∈ LW := LW_mem (mt_6 (List.mem_of_getElem? (i := 89) rfl)) rfl
theorem t6_90 : (Jvm.Cond.methodLink "TrigramReadersModel" (224 : Nat) ({ cls := "TrigramReadersModel", name := "isSymbolByte", desc := "(I)Z" } : Jvm.MethodName)) ∈ LW := LW_mem (mt_6 (List.mem_of_getElem? (i := 90) rfl)) rfl
theorem t6_91 : (Jvm.Cond.static ({ cls := "TrigramReadersModel", name := "isSymbolByte", desc := "(I)Z" } : Jvm.MethodName)) ∈ LW := LW_mem (mt_6 (List.mem_of_getElem? (i := 91) rfl)) rfl
theorem t6_92 : (Jvm.Cond.code ({ cls := "TrigramReadersModel", name := "isSymbolByte", desc := "(I)Z" } : Jvm.MethodName) prog_11_method_44_code (1 : Nat) (Option.some Jvm.ClassFile.FieldType.boolean)) ∈ LW := LW_mem (mt_6 (List.mem_of_getElem? (i := 92) rfl)) rfl
theorem t6_93 : (Jvm.Cond.methodLink "TrigramReadersModel" (202 : Nat) ({ cls := "TrigramReadersModel", name := "isLetter", desc := "(I)Z" } : Jvm.MethodName)) ∈ LW := LW_mem (mt_6 (List.mem_of_getElem? (i := 93) rfl)) rfl
theorem t6_94 : (Jvm.Cond.static ({ cls := "TrigramReadersModel", name := "isLetter", desc := "(I)Z" } : Jvm.MethodName)) ∈ LW := LW_mem (mt_6 (List.mem_of_getElem? (i := 94) rfl)) rfl
theorem t6_95 : (Jvm.Cond.code ({ cls := "TrigramReadersModel", name := "isLetter", desc := "(I)Z" } : Jvm.MethodName) prog_11_method_43_code (1 : Nat) (Option.some Jvm.ClassFile.FieldType.boolean)) ∈ LW := LW_mem (mt_6 (List.mem_of_getElem? (i := 95) rfl)) rfl
theorem t6_96 : (Jvm.Cond.methodLink "TrigramReadersModel" (128 : Nat) ({ cls := "TrigramReadersModel", name := "isBetween", desc := "(III)Z" } : Jvm.MethodName)) ∈ LW := LW_mem (mt_6 (List.mem_of_getElem? (i := 96) rfl)) rfl
theorem t6_97 : (Jvm.Cond.static ({ cls := "TrigramReadersModel", name := "isBetween", desc := "(III)Z" } : Jvm.MethodName)) ∈ LW := LW_mem (mt_6 (List.mem_of_getElem? (i := 97) rfl)) rfl
theorem t6_98 : (Jvm.Cond.code ({ cls := "TrigramReadersModel", name := "isBetween", desc := "(III)Z" } : Jvm.MethodName) prog_11_method_5_code (3 : Nat) (Option.some Jvm.ClassFile.FieldType.boolean)) ∈ LW := LW_mem (mt_6 (List.mem_of_getElem? (i := 98) rfl)) rfl
theorem t6_99 : (Jvm.Cond.constant "TrigramReadersModel" (227 : Nat) (99999999 : Int32)) ∈ LW := LW_mem (mt_6 (List.mem_of_getElem? (i := 99) rfl)) rfl
theorem t6_101 : (Jvm.Cond.methodLink "TrigramReadersModel" (245 : Nat) ({ cls := "TrigramReadersModel", name := "is", desc := "(Ljava/lang/String;)Z" } : Jvm.MethodName)) ∈ LW := LW_mem (mt_6 (List.mem_of_getElem? (i := 101) rfl)) rfl
theorem t6_103 : (Jvm.Cond.instanceMethod ({ cls := "TrigramReadersModel", name := "is", desc := "(Ljava/lang/String;)Z" } : Jvm.MethodName)) ∈ LW := LW_mem (mt_6 (List.mem_of_getElem? (i := 103) rfl)) rfl
theorem t6_104 : (Jvm.Cond.code ({ cls := "TrigramReadersModel", name := "is", desc := "(Ljava/lang/String;)Z" } : Jvm.MethodName) prog_11_method_46_code (3 : Nat) (Option.some Jvm.ClassFile.FieldType.boolean)) ∈ LW := LW_mem (mt_6 (List.mem_of_getElem? (i := 104) rfl)) rfl
theorem t6_105 : (Jvm.Cond.methodLink "TrigramReadersModel" (267 : Nat) ({ cls := "TrigramReadersModel", name := "readReader", desc := "()V" } : Jvm.MethodName)) ∈ LW := LW_mem (mt_6 (List.mem_of_getElem? (i := 105) rfl)) rfl
theorem t6_107 : (Jvm.Cond.instanceMethod ({ cls := "TrigramReadersModel", name := "readReader", desc := "()V" } : Jvm.MethodName)) ∈ LW := LW_mem (mt_6 (List.mem_of_getElem? (i := 107) rfl)) rfl
theorem t6_108 : (Jvm.Cond.code ({ cls := "TrigramReadersModel", name := "readReader", desc := "()V" } : Jvm.MethodName) prog_11_method_54_code (3 : Nat) (Option.none : Option Jvm.ClassFile.FieldType)) ∈ LW := LW_mem (mt_6 (List.mem_of_getElem? (i := 108) rfl)) rfl
theorem t6_109 : (Jvm.Cond.methodLink "TrigramReadersModel" (231 : Nat) ({ cls := "TrigramReadersModel", name := "check", desc := "(ZI)Z" } : Jvm.MethodName)) ∈ LW := LW_mem (mt_6 (List.mem_of_getElem? (i := 109) rfl)) rfl
theorem t6_111 : (Jvm.Cond.instanceMethod ({ cls := "TrigramReadersModel", name := "check", desc := "(ZI)Z" } : Jvm.MethodName)) ∈ LW := LW_mem (mt_6 (List.mem_of_getElem? (i := 111) rfl)) rfl
theorem t6_112 : (Jvm.Cond.code ({ cls := "TrigramReadersModel", name := "check", desc := "(ZI)Z" } : Jvm.MethodName) prog_11_method_47_code (3 : Nat) (Option.some Jvm.ClassFile.FieldType.boolean)) ∈ LW := LW_mem (mt_6 (List.mem_of_getElem? (i := 112) rfl)) rfl
theorem t6_113 : (Jvm.Cond.methodLink "TrigramReadersModel" (234 : Nat) ({ cls := "TrigramReadersModel", name := "next", desc := "()V" } : Jvm.MethodName)) ∈ LW := LW_mem (mt_6 (List.mem_of_getElem? (i := 113) rfl)) rfl
theorem t6_115 : (Jvm.Cond.instanceMethod ({ cls := "TrigramReadersModel", name := "next", desc := "()V" } : Jvm.MethodName)) ∈ LW := LW_mem (mt_6 (List.mem_of_getElem? (i := 115) rfl)) rfl
theorem t6_116 : (Jvm.Cond.code ({ cls := "TrigramReadersModel", name := "next", desc := "()V" } : Jvm.MethodName) prog_11_method_48_code (1 : Nat) (Option.none : Option Jvm.ClassFile.FieldType)) ∈ LW := LW_mem (mt_6 (List.mem_of_getElem? (i := 116) rfl)) rfl
theorem t6_117 : (Jvm.Cond.methodLink "TrigramReadersModel" (237 : Nat) ({ cls := "TrigramReadersModel", name := "nameFrom", desc := "(II)I" } : Jvm.MethodName)) ∈ LW := LW_mem (mt_6 (List.mem_of_getElem? (i := 117) rfl)) rfl
theorem t6_119 : (Jvm.Cond.instanceMethod ({ cls := "TrigramReadersModel", name := "nameFrom", desc := "(II)I" } : Jvm.MethodName)) ∈ LW := LW_mem (mt_6 (List.mem_of_getElem? (i := 119) rfl)) rfl
theorem t6_120 : (Jvm.Cond.code ({ cls := "TrigramReadersModel", name := "nameFrom", desc := "(II)I" } : Jvm.MethodName) prog_11_method_50_code (5 : Nat) (Option.some Jvm.ClassFile.FieldType.int)) ∈ LW := LW_mem (mt_6 (List.mem_of_getElem? (i := 120) rfl)) rfl
theorem t6_121 : (Jvm.Cond.methodLink "TrigramReadersModel" (240 : Nat) ({ cls := "TrigramReadersModel", name := "named", desc := "([II)I" } : Jvm.MethodName)) ∈ LW := LW_mem (mt_6 (List.mem_of_getElem? (i := 121) rfl)) rfl
theorem t6_122 : (Jvm.Cond.static ({ cls := "TrigramReadersModel", name := "named", desc := "([II)I" } : Jvm.MethodName)) ∈ LW := LW_mem (mt_6 (List.mem_of_getElem? (i := 122) rfl)) rfl
theorem t6_123 : (Jvm.Cond.code ({ cls := "TrigramReadersModel", name := "named", desc := "([II)I" } : Jvm.MethodName) prog_11_method_51_code (3 : Nat) (Option.some Jvm.ClassFile.FieldType.int)) ∈ LW := LW_mem (mt_6 (List.mem_of_getElem? (i := 123) rfl)) rfl
theorem t6_124 : (Jvm.Cond.methodLink "TrigramReadersModel" (92 : Nat) ({ cls := "TrigramReadersModel", name := "atReader", desc := "(I)I" } : Jvm.MethodName)) ∈ LW := LW_mem (mt_6 (List.mem_of_getElem? (i := 124) rfl)) rfl
theorem t6_125 : (Jvm.Cond.static ({ cls := "TrigramReadersModel", name := "atReader", desc := "(I)I" } : Jvm.MethodName)) ∈ LW := LW_mem (mt_6 (List.mem_of_getElem? (i := 125) rfl)) rfl
theorem t6_126 : (Jvm.Cond.code ({ cls := "TrigramReadersModel", name := "atReader", desc := "(I)I" } : Jvm.MethodName) prog_11_method_8_code (1 : Nat) (Option.some Jvm.ClassFile.FieldType.int)) ∈ LW := LW_mem (mt_6 (List.mem_of_getElem? (i := 126) rfl)) rfl
theorem t6_130 : (Jvm.Cond.methodLink "TrigramReadersModel" (253 : Nat) ({ cls := "TrigramReadersModel", name := "finish", desc := "()V" } : Jvm.MethodName)) ∈ LW := LW_mem (mt_6 (List.mem_of_getElem? (i := 130) rfl)) rfl
theorem t6_132 : (Jvm.Cond.instanceMethod ({ cls := "TrigramReadersModel", name := "finish", desc := "()V" } : Jvm.MethodName)) ∈ LW := LW_mem (mt_6 (List.mem_of_getElem? (i := 132) rfl)) rfl
theorem t6_133 : (Jvm.Cond.code ({ cls := "TrigramReadersModel", name := "finish", desc := "()V" } : Jvm.MethodName) prog_11_method_49_code (1 : Nat) (Option.none : Option Jvm.ClassFile.FieldType)) ∈ LW := LW_mem (mt_6 (List.mem_of_getElem? (i := 133) rfl)) rfl
theorem t6_134 : (Jvm.Cond.methodLink "TrigramReadersModel" (256 : Nat) ({ cls := "TrigramReadersModel", name := "layReader", desc := "([III)I" } : Jvm.MethodName)) ∈ LW := LW_mem (mt_6 (List.mem_of_getElem? (i := 134) rfl)) rfl
theorem t6_135 : (Jvm.Cond.static ({ cls := "TrigramReadersModel", name := "layReader", desc := "([III)I" } : Jvm.MethodName)) ∈ LW := LW_mem (mt_6 (List.mem_of_getElem? (i := 135) rfl)) rfl
theorem t6_136 : (Jvm.Cond.code ({ cls := "TrigramReadersModel", name := "layReader", desc := "([III)I" } : Jvm.MethodName) prog_11_method_52_code (5 : Nat) (Option.some Jvm.ClassFile.FieldType.int)) ∈ LW := LW_mem (mt_6 (List.mem_of_getElem? (i := 136) rfl)) rfl
theorem t6_138 : (Jvm.Cond.methodLink "TrigramReadersModel" (272 : Nat) ({ cls := "TrigramReadersModel", name := "readDocument", desc := "()V" } : Jvm.MethodName)) ∈ LW := LW_mem (mt_6 (List.mem_of_getElem? (i := 138) rfl)) rfl
theorem t6_140 : (Jvm.Cond.instanceMethod ({ cls := "TrigramReadersModel", name := "readDocument", desc := "()V" } : Jvm.MethodName)) ∈ LW := LW_mem (mt_6 (List.mem_of_getElem? (i := 140) rfl)) rfl
theorem t6_141 : (Jvm.Cond.code ({ cls := "TrigramReadersModel", name := "readDocument", desc := "()V" } : Jvm.MethodName) prog_11_method_55_code (3 : Nat) (Option.none : Option Jvm.ClassFile.FieldType)) ∈ LW := LW_mem (mt_6 (List.mem_of_getElem? (i := 141) rfl)) rfl
theorem t6_142 : (Jvm.Cond.methodLink "TrigramReadersModel" (259 : Nat) ({ cls := "TrigramReadersModel", name := "layDocument", desc := "([III)I" } : Jvm.MethodName)) ∈ LW := LW_mem (mt_6 (List.mem_of_getElem? (i := 142) rfl)) rfl
theorem t6_144 : (Jvm.Cond.instanceMethod ({ cls := "TrigramReadersModel", name := "layDocument", desc := "([III)I" } : Jvm.MethodName)) ∈ LW := LW_mem (mt_6 (List.mem_of_getElem? (i := 144) rfl)) rfl
theorem t6_145 : (Jvm.Cond.code ({ cls := "TrigramReadersModel", name := "layDocument", desc := "([III)I" } : Jvm.MethodName) prog_11_method_53_code (6 : Nat) (Option.some Jvm.ClassFile.FieldType.int)) ∈ LW := LW_mem (mt_6 (List.mem_of_getElem? (i := 145) rfl)) rfl
theorem t6_146 : (Jvm.Cond.methodLink "TrigramReadersModel" (88 : Nat) ({ cls := "TrigramReadersModel", name := "atDocument", desc := "(I)I" } : Jvm.MethodName)) ∈ LW := LW_mem (mt_6 (List.mem_of_getElem? (i := 146) rfl)) rfl
theorem t6_147 : (Jvm.Cond.static ({ cls := "TrigramReadersModel", name := "atDocument", desc := "(I)I" } : Jvm.MethodName)) ∈ LW := LW_mem (mt_6 (List.mem_of_getElem? (i := 147) rfl)) rfl
theorem t6_148 : (Jvm.Cond.code ({ cls := "TrigramReadersModel", name := "atDocument", desc := "(I)I" } : Jvm.MethodName) prog_11_method_7_code (1 : Nat) (Option.some Jvm.ClassFile.FieldType.int)) ∈ LW := LW_mem (mt_6 (List.mem_of_getElem? (i := 148) rfl)) rfl
theorem t6_150 : (Jvm.Cond.methodLink "TrigramReadersModel" (277 : Nat) ({ cls := "TrigramReadersModel", name := "readTrain", desc := "()V" } : Jvm.MethodName)) ∈ LW := LW_mem (mt_6 (List.mem_of_getElem? (i := 150) rfl)) rfl
theorem t6_152 : (Jvm.Cond.instanceMethod ({ cls := "TrigramReadersModel", name := "readTrain", desc := "()V" } : Jvm.MethodName)) ∈ LW := LW_mem (mt_6 (List.mem_of_getElem? (i := 152) rfl)) rfl
theorem t6_153 : (Jvm.Cond.code ({ cls := "TrigramReadersModel", name := "readTrain", desc := "()V" } : Jvm.MethodName) prog_11_method_56_code (4 : Nat) (Option.none : Option Jvm.ClassFile.FieldType)) ∈ LW := LW_mem (mt_6 (List.mem_of_getElem? (i := 153) rfl)) rfl
theorem t6_154 : (Jvm.Cond.methodLink "TrigramReadersModel" (262 : Nat) ({ cls := "TrigramReadersModel", name := "trainOn", desc := "([III)V" } : Jvm.MethodName)) ∈ LW := LW_mem (mt_6 (List.mem_of_getElem? (i := 154) rfl)) rfl
theorem t6_155 : (Jvm.Cond.static ({ cls := "TrigramReadersModel", name := "trainOn", desc := "([III)V" } : Jvm.MethodName)) ∈ LW := LW_mem (mt_6 (List.mem_of_getElem? (i := 155) rfl)) rfl
theorem t6_156 : (Jvm.Cond.code ({ cls := "TrigramReadersModel", name := "trainOn", desc := "([III)V" } : Jvm.MethodName) prog_11_method_18_code (4 : Nat) (Option.none : Option Jvm.ClassFile.FieldType)) ∈ LW := LW_mem (mt_6 (List.mem_of_getElem? (i := 156) rfl)) rfl
theorem t6_157 : (Jvm.Cond.methodLink "TrigramReadersModel" (114 : Nat) ({ cls := "TrigramReadersModel", name := "lengthOf", desc := "([II)I" } : Jvm.MethodName)) ∈ LW := LW_mem (mt_6 (List.mem_of_getElem? (i := 157) rfl)) rfl
theorem t6_158 : (Jvm.Cond.static ({ cls := "TrigramReadersModel", name := "lengthOf", desc := "([II)I" } : Jvm.MethodName)) ∈ LW := LW_mem (mt_6 (List.mem_of_getElem? (i := 158) rfl)) rfl
theorem t6_159 : (Jvm.Cond.code ({ cls := "TrigramReadersModel", name := "lengthOf", desc := "([II)I" } : Jvm.MethodName) prog_11_method_9_code (2 : Nat) (Option.some Jvm.ClassFile.FieldType.int)) ∈ LW := LW_mem (mt_6 (List.mem_of_getElem? (i := 159) rfl)) rfl
theorem t6_160 : (Jvm.Cond.methodLink "TrigramReadersModel" (118 : Nat) ({ cls := "TrigramReadersModel", name := "learnOne", desc := "([IIII)V" } : Jvm.MethodName)) ∈ LW := LW_mem (mt_6 (List.mem_of_getElem? (i := 160) rfl)) rfl
theorem t6_161 : (Jvm.Cond.static ({ cls := "TrigramReadersModel", name := "learnOne", desc := "([IIII)V" } : Jvm.MethodName)) ∈ LW := LW_mem (mt_6 (List.mem_of_getElem? (i := 161) rfl)) rfl
theorem t6_162 : (Jvm.Cond.code ({ cls := "TrigramReadersModel", name := "learnOne", desc := "([IIII)V" } : Jvm.MethodName) prog_11_method_16_code (7 : Nat) (Option.none : Option Jvm.ClassFile.FieldType)) ∈ LW := LW_mem (mt_6 (List.mem_of_getElem? (i := 162) rfl)) rfl
theorem t6_163 : (Jvm.Cond.methodLink "TrigramReadersModel" (103 : Nat) ({ cls := "TrigramReadersModel", name := "symbolOf", desc := "([III)I" } : Jvm.MethodName)) ∈ LW := LW_mem (mt_6 (List.mem_of_getElem? (i := 163) rfl)) rfl
theorem t6_164 : (Jvm.Cond.static ({ cls := "TrigramReadersModel", name := "symbolOf", desc := "([III)I" } : Jvm.MethodName)) ∈ LW := LW_mem (mt_6 (List.mem_of_getElem? (i := 164) rfl)) rfl
theorem t6_165 : (Jvm.Cond.code ({ cls := "TrigramReadersModel", name := "symbolOf", desc := "([III)I" } : Jvm.MethodName) prog_11_method_10_code (3 : Nat) (Option.some Jvm.ClassFile.FieldType.int)) ∈ LW := LW_mem (mt_6 (List.mem_of_getElem? (i := 165) rfl)) rfl
theorem t6_166 : (Jvm.Cond.methodLink "TrigramReadersModel" (106 : Nat) ({ cls := "TrigramReadersModel", name := "keyOf", desc := "(III)I" } : Jvm.MethodName)) ∈ LW := LW_mem (mt_6 (List.mem_of_getElem? (i := 166) rfl)) rfl
theorem t6_167 : (Jvm.Cond.static ({ cls := "TrigramReadersModel", name := "keyOf", desc := "(III)I" } : Jvm.MethodName)) ∈ LW := LW_mem (mt_6 (List.mem_of_getElem? (i := 167) rfl)) rfl
theorem t6_168 : (Jvm.Cond.code ({ cls := "TrigramReadersModel", name := "keyOf", desc := "(III)I" } : Jvm.MethodName) prog_11_method_11_code (3 : Nat) (Option.some Jvm.ClassFile.FieldType.int)) ∈ LW := LW_mem (mt_6 (List.mem_of_getElem? (i := 168) rfl)) rfl
theorem t6_169 : (Jvm.Cond.methodLink "TrigramReadersModel" (110 : Nat) ({ cls := "TrigramReadersModel", name := "addTo", desc := "([IIII)V" } : Jvm.MethodName)) ∈ LW := LW_mem (mt_6 (List.mem_of_getElem? (i := 169) rfl)) rfl
theorem t6_170 : (Jvm.Cond.static ({ cls := "TrigramReadersModel", name := "addTo", desc := "([IIII)V" } : Jvm.MethodName)) ∈ LW := LW_mem (mt_6 (List.mem_of_getElem? (i := 170) rfl)) rfl
theorem t6_171 : (Jvm.Cond.code ({ cls := "TrigramReadersModel", name := "addTo", desc := "([IIII)V" } : Jvm.MethodName) prog_11_method_15_code (6 : Nat) (Option.none : Option Jvm.ClassFile.FieldType)) ∈ LW := LW_mem (mt_6 (List.mem_of_getElem? (i := 171) rfl)) rfl
theorem t6_172 : (Jvm.Cond.methodLink "TrigramReadersModel" (99 : Nat) ({ cls := "TrigramReadersModel", name := "find", desc := "([III)I" } : Jvm.MethodName)) ∈ LW := LW_mem (mt_6 (List.mem_of_getElem? (i := 172) rfl)) rfl
theorem t6_173 : (Jvm.Cond.static ({ cls := "TrigramReadersModel", name := "find", desc := "([III)I" } : Jvm.MethodName)) ∈ LW := LW_mem (mt_6 (List.mem_of_getElem? (i := 173) rfl)) rfl
theorem t6_174 : (Jvm.Cond.code ({ cls := "TrigramReadersModel", name := "find", desc := "([III)I" } : Jvm.MethodName) prog_11_method_13_code (5 : Nat) (Option.some Jvm.ClassFile.FieldType.int)) ∈ LW := LW_mem (mt_6 (List.mem_of_getElem? (i := 174) rfl)) rfl
theorem t6_175 : (Jvm.Cond.methodLink "TrigramReadersModel" (95 : Nat) ({ cls := "TrigramReadersModel", name := "entryAt", desc := "(II)I" } : Jvm.MethodName)) ∈ LW := LW_mem (mt_6 (List.mem_of_getElem? (i := 175) rfl)) rfl
theorem t6_176 : (Jvm.Cond.static ({ cls := "TrigramReadersModel", name := "entryAt", desc := "(II)I" } : Jvm.MethodName)) ∈ LW := LW_mem (mt_6 (List.mem_of_getElem? (i := 176) rfl)) rfl
theorem t6_177 : (Jvm.Cond.code ({ cls := "TrigramReadersModel", name := "entryAt", desc := "(II)I" } : Jvm.MethodName) prog_11_method_12_code (2 : Nat) (Option.some Jvm.ClassFile.FieldType.int)) ∈ LW := LW_mem (mt_6 (List.mem_of_getElem? (i := 177) rfl)) rfl
theorem t6_178 : (Jvm.Cond.methodLink "TrigramReadersModel" (121 : Nat) ({ cls := "TrigramReadersModel", name := "noteTraining", desc := "([III)V" } : Jvm.MethodName)) ∈ LW := LW_mem (mt_6 (List.mem_of_getElem? (i := 178) rfl)) rfl
theorem t6_179 : (Jvm.Cond.static ({ cls := "TrigramReadersModel", name := "noteTraining", desc := "([III)V" } : Jvm.MethodName)) ∈ LW := LW_mem (mt_6 (List.mem_of_getElem? (i := 179) rfl)) rfl
theorem t6_180 : (Jvm.Cond.code ({ cls := "TrigramReadersModel", name := "noteTraining", desc := "([III)V" } : Jvm.MethodName) prog_11_method_17_code (3 : Nat) (Option.none : Option Jvm.ClassFile.FieldType)) ∈ LW := LW_mem (mt_6 (List.mem_of_getElem? (i := 180) rfl)) rfl
theorem t6_182 : (Jvm.Cond.methodLink "TrigramReadersModel" (282 : Nat) ({ cls := "TrigramReadersModel", name := "passYear", desc := "([I)V" } : Jvm.MethodName)) ∈ LW := LW_mem (mt_6 (List.mem_of_getElem? (i := 182) rfl)) rfl
theorem t6_183 : (Jvm.Cond.static ({ cls := "TrigramReadersModel", name := "passYear", desc := "([I)V" } : Jvm.MethodName)) ∈ LW := LW_mem (mt_6 (List.mem_of_getElem? (i := 183) rfl)) rfl
theorem t6_184 : (Jvm.Cond.code ({ cls := "TrigramReadersModel", name := "passYear", desc := "([I)V" } : Jvm.MethodName) prog_11_method_19_code (3 : Nat) (Option.none : Option Jvm.ClassFile.FieldType)) ∈ LW := LW_mem (mt_6 (List.mem_of_getElem? (i := 184) rfl)) rfl
theorem t6_185 : (Jvm.Cond.methodLink "TrigramReadersModel" (71 : Nat) ({ cls := "TrigramReadersModel", name := "copyRow", desc := "([II[II)V" } : Jvm.MethodName)) ∈ LW := LW_mem (mt_6 (List.mem_of_getElem? (i := 185) rfl)) rfl
theorem t6_186 : (Jvm.Cond.static ({ cls := "TrigramReadersModel", name := "copyRow", desc := "([II[II)V" } : Jvm.MethodName)) ∈ LW := LW_mem (mt_6 (List.mem_of_getElem? (i := 186) rfl)) rfl
theorem t6_187 : (Jvm.Cond.code ({ cls := "TrigramReadersModel", name := "copyRow", desc := "([II[II)V" } : Jvm.MethodName) prog_11_method_6_code (5 : Nat) (Option.none : Option Jvm.ClassFile.FieldType)) ∈ LW := LW_mem (mt_6 (List.mem_of_getElem? (i := 187) rfl)) rfl
theorem t6_188 : (Jvm.Cond.fieldLink "TrigramReadersModel" (7 : Nat) "TrigramReadersModel" "s" "[I") ∈ LW := LW_mem (mt_6 (List.mem_of_getElem? (i := 188) rfl)) rfl
theorem t6_189 : (Jvm.Cond.fieldLink "TrigramReadersModel" (13 : Nat) "TrigramReadersModel" "parsed" "[I") ∈ LW := LW_mem (mt_6 (List.mem_of_getElem? (i := 189) rfl)) rfl
theorem t6_190 : (Jvm.Cond.fieldLink "TrigramReadersModel" (16 : Nat) "TrigramReadersModel" "tried" "[I") ∈ LW := LW_mem (mt_6 (List.mem_of_getElem? (i := 190) rfl)) rfl
theorem t6_191 : (Jvm.Cond.fieldLink "TrigramReadersModel" (20 : Nat) "TrigramReadersModel" "remembered" "[I") ∈ LW := LW_mem (mt_6 (List.mem_of_getElem? (i := 191) rfl)) rfl
theorem t6_192 : (Jvm.Cond.fieldLink "TrigramReadersModel" (23 : Nat) "TrigramReadersModel" "slots" "[I") ∈ LW := LW_mem (mt_6 (List.mem_of_getElem? (i := 192) rfl)) rfl
theorem t6_193 : (Jvm.Cond.fieldLink "TrigramReadersModel" (26 : Nat) "TrigramReadersModel" "kept" "[Z") ∈ LW := LW_mem (mt_6 (List.mem_of_getElem? (i := 193) rfl)) rfl
theorem t6_194 : (Jvm.Cond.fieldLink "TrigramReadersModel" (289 : Nat) "TrigramReadersModel" "undoable" "I") ∈ LW := LW_mem (mt_6 (List.mem_of_getElem? (i := 194) rfl)) rfl
theorem t6_195 : (Jvm.Cond.fieldLink "TrigramReadersModel" (292 : Nat) "TrigramReadersModel" "undoStart" "I") ∈ LW := LW_mem (mt_6 (List.mem_of_getElem? (i := 195) rfl)) rfl
theorem t6_196 : (Jvm.Cond.fieldLink "TrigramReadersModel" (85 : Nat) "TrigramReadersModel" "thrown" "I") ∈ LW := LW_mem (mt_6 (List.mem_of_getElem? (i := 196) rfl)) rfl
theorem t6_197 : (Jvm.Cond.fieldLink "TrigramReadersModel" (30 : Nat) "TrigramReadersModel" "counts" "[I") ∈ LW := LW_mem (mt_6 (List.mem_of_getElem? (i := 197) rfl)) rfl
theorem t6_198 : (Jvm.Cond.fieldLink "TrigramReadersModel" (125 : Nat) "TrigramReadersModel" "orders" "I") ∈ LW := LW_mem (mt_6 (List.mem_of_getElem? (i := 198) rfl)) rfl
theorem t6_199 : (Jvm.Cond.fieldLink "TrigramReadersModel" (33 : Nat) "TrigramReadersModel" "ranking" "[I") ∈ LW := LW_mem (mt_6 (List.mem_of_getElem? (i := 199) rfl)) rfl
theorem t6_200 : (Jvm.Cond.fieldLink "TrigramReadersModel" (36 : Nat) "TrigramReadersModel" "rankBy" "[I") ∈ LW := LW_mem (mt_6 (List.mem_of_getElem? (i := 200) rfl)) rfl
theorem t6_201 : (Jvm.Cond.fieldLink "TrigramReadersModel" (132 : Nat) "TrigramReadersModel" "ranked" "I") ∈ LW := LW_mem (mt_6 (List.mem_of_getElem? (i := 201) rfl)) rfl
theorem t6_202 : (Jvm.Cond.fieldLink "TrigramReadersModel" (39 : Nat) "TrigramReadersModel" "excluded" "[Z") ∈ LW := LW_mem (mt_6 (List.mem_of_getElem? (i := 202) rfl)) rfl
theorem t6_203 : (Jvm.Cond.fieldLink "TrigramReadersModel" (152 : Nat) "TrigramReadersModel" "top" "J") ∈ LW := LW_mem (mt_6 (List.mem_of_getElem? (i := 203) rfl)) rfl
theorem t6_204 : (Jvm.Cond.fieldLink "TrigramReadersModel" (156 : Nat) "TrigramReadersModel" "bottom" "J") ∈ LW := LW_mem (mt_6 (List.mem_of_getElem? (i := 204) rfl)) rfl
theorem t6_205 : (Jvm.Cond.fieldLink "TrigramReadersModel" (173 : Nat) "TrigramReadersModel" "escaped" "I") ∈ LW := LW_mem (mt_6 (List.mem_of_getElem? (i := 205) rfl)) rfl
theorem t6_206 : (Jvm.Cond.fieldLink "TrigramReadersModel" (42 : Nat) "TrigramReadersModel" "input" "[I") ∈ LW := LW_mem (mt_6 (List.mem_of_getElem? (i := 206) rfl)) rfl
theorem t6_207 : (Jvm.Cond.fieldLink "TrigramReadersModel" (68 : Nat) "TrigramReadersModel" "inputLength" "I") ∈ LW := LW_mem (mt_6 (List.mem_of_getElem? (i := 207) rfl)) rfl
theorem t6_208 : (Jvm.Cond.fieldLink "TrigramReadersModel" (206 : Nat) "TrigramReadersModel" "position" "I") ∈ LW := LW_mem (mt_6 (List.mem_of_getElem? (i := 208) rfl)) rfl
theorem t6_209 : (Jvm.Cond.fieldLink "TrigramReadersModel" (212 : Nat) "TrigramReadersModel" "start" "I") ∈ LW := LW_mem (mt_6 (List.mem_of_getElem? (i := 209) rfl)) rfl
theorem t6_210 : (Jvm.Cond.fieldLink "TrigramReadersModel" (221 : Nat) "TrigramReadersModel" "token" "I") ∈ LW := LW_mem (mt_6 (List.mem_of_getElem? (i := 210) rfl)) rfl
theorem t6_211 : (Jvm.Cond.fieldLink "TrigramReadersModel" (218 : Nat) "TrigramReadersModel" "value" "I") ∈ LW := LW_mem (mt_6 (List.mem_of_getElem? (i := 211) rfl)) rfl
theorem t6_212 : (Jvm.Cond.fieldLink "TrigramReadersModel" (215 : Nat) "TrigramReadersModel" "letters" "I") ∈ LW := LW_mem (mt_6 (List.mem_of_getElem? (i := 212) rfl)) rfl
theorem t6_213 : (Jvm.Cond.fieldLink "TrigramReadersModel" (199 : Nat) "TrigramReadersModel" "code" "I") ∈ LW := LW_mem (mt_6 (List.mem_of_getElem? (i := 213) rfl)) rfl
theorem t6_214 : (Jvm.Cond.fieldLink "TrigramReadersModel" (45 : Nat) "TrigramReadersModel" "place" "I") ∈ LW := LW_mem (mt_6 (List.mem_of_getElem? (i := 214) rfl)) rfl
theorem t6_215 : (Jvm.Cond.fieldLink "TrigramReadersModel" (49 : Nat) "TrigramReadersModel" "pairs" "[Z") ∈ LW := LW_mem (mt_6 (List.mem_of_getElem? (i := 215) rfl)) rfl
theorem t6_216 : (Jvm.Cond.fieldLink "TrigramReadersModel" (52 : Nat) "TrigramReadersModel" "output" "[B") ∈ LW := LW_mem (mt_6 (List.mem_of_getElem? (i := 216) rfl)) rfl
theorem t6_217 : (Jvm.Cond.fieldLink "TrigramReadersModel" (364 : Nat) "TrigramReadersModel" "outputLength" "I") ∈ LW := LW_mem (mt_6 (List.mem_of_getElem? (i := 217) rfl)) rfl
theorem t6_218 : (Jvm.Cond.fieldLink "TrigramReadersModel" (56 : Nat) "TrigramReadersModel" "numbers" "[I") ∈ LW := LW_mem (mt_6 (List.mem_of_getElem? (i := 218) rfl)) rfl
theorem t6_219 : (Jvm.Cond.fieldLink "TrigramReadersModel" (370 : Nat) "TrigramReadersModel" "before" "I") ∈ LW := LW_mem (mt_6 (List.mem_of_getElem? (i := 219) rfl)) rfl
theorem t6_220 : (Jvm.Cond.fieldLink "TrigramReadersModel" (373 : Nat) "TrigramReadersModel" "previous" "I") ∈ LW := LW_mem (mt_6 (List.mem_of_getElem? (i := 220) rfl)) rfl
theorem t6_221 : (Jvm.Cond.laysFinal "TrigramReadersModel" "TrigramReadersModel" "s" "[I") ∈ LW := LW_mem (mt_6 (List.mem_of_getElem? (i := 221) rfl)) rfl
theorem t6_223 : (Jvm.Cond.laysFinal "TrigramReadersModel" "TrigramReadersModel" "parsed" "[I") ∈ LW := LW_mem (mt_6 (List.mem_of_getElem? (i := 223) rfl)) rfl
theorem t6_225 : (Jvm.Cond.laysFinal "TrigramReadersModel" "TrigramReadersModel" "tried" "[I") ∈ LW := LW_mem (mt_6 (List.mem_of_getElem? (i := 225) rfl)) rfl
theorem t6_227 : (Jvm.Cond.laysFinal "TrigramReadersModel" "TrigramReadersModel" "remembered" "[I") ∈ LW := LW_mem (mt_6 (List.mem_of_getElem? (i := 227) rfl)) rfl
theorem t6_229 : (Jvm.Cond.laysFinal "TrigramReadersModel" "TrigramReadersModel" "slots" "[I") ∈ LW := LW_mem (mt_6 (List.mem_of_getElem? (i := 229) rfl)) rfl
theorem t6_231 : (Jvm.Cond.laysFinal "TrigramReadersModel" "TrigramReadersModel" "kept" "[Z") ∈ LW := LW_mem (mt_6 (List.mem_of_getElem? (i := 231) rfl)) rfl
theorem t6_233 : (Jvm.Cond.lays "TrigramReadersModel" "TrigramReadersModel" "undoable" "I") ∈ LW := LW_mem (mt_6 (List.mem_of_getElem? (i := 233) rfl)) rfl
theorem t6_235 : (Jvm.Cond.lays "TrigramReadersModel" "TrigramReadersModel" "undoStart" "I") ∈ LW := LW_mem (mt_6 (List.mem_of_getElem? (i := 235) rfl)) rfl
theorem t6_237 : (Jvm.Cond.lays "TrigramReadersModel" "TrigramReadersModel" "thrown" "I") ∈ LW := LW_mem (mt_6 (List.mem_of_getElem? (i := 237) rfl)) rfl
theorem t6_239 : (Jvm.Cond.laysFinal "TrigramReadersModel" "TrigramReadersModel" "counts" "[I") ∈ LW := LW_mem (mt_6 (List.mem_of_getElem? (i := 239) rfl)) rfl
theorem t7_1 : (Jvm.Cond.lays "TrigramReadersModel" "TrigramReadersModel" "orders" "I") ∈ LW := LW_mem (mt_7 (List.mem_of_getElem? (i := 1) rfl)) rfl
theorem t7_3 : (Jvm.Cond.laysFinal "TrigramReadersModel" "TrigramReadersModel" "ranking" "[I") ∈ LW := LW_mem (mt_7 (List.mem_of_getElem? (i := 3) rfl)) rfl
theorem t7_5 : (Jvm.Cond.laysFinal "TrigramReadersModel" "TrigramReadersModel" "rankBy" "[I") ∈ LW := LW_mem (mt_7 (List.mem_of_getElem? (i := 5) rfl)) rfl
theorem t7_7 : (Jvm.Cond.lays "TrigramReadersModel" "TrigramReadersModel" "ranked" "I") ∈ LW := LW_mem (mt_7 (List.mem_of_getElem? (i := 7) rfl)) rfl
theorem t7_9 : (Jvm.Cond.laysFinal "TrigramReadersModel" "TrigramReadersModel" "excluded" "[Z") ∈ LW := LW_mem (mt_7 (List.mem_of_getElem? (i := 9) rfl)) rfl
theorem t7_11 : (Jvm.Cond.lays "TrigramReadersModel" "TrigramReadersModel" "top" "J") ∈ LW := LW_mem (mt_7 (List.mem_of_getElem? (i := 11) rfl)) rfl
theorem t7_13 : (Jvm.Cond.lays "TrigramReadersModel" "TrigramReadersModel" "bottom" "J") ∈ LW := LW_mem (mt_7 (List.mem_of_getElem? (i := 13) rfl)) rfl
theorem t7_15 : (Jvm.Cond.lays "TrigramReadersModel" "TrigramReadersModel" "escaped" "I") ∈ LW := LW_mem (mt_7 (List.mem_of_getElem? (i := 15) rfl)) rfl
theorem t7_17 : (Jvm.Cond.laysFinal "TrigramReadersModel" "TrigramReadersModel" "input" "[I") ∈ LW := LW_mem (mt_7 (List.mem_of_getElem? (i := 17) rfl)) rfl
theorem t7_19 : (Jvm.Cond.lays "TrigramReadersModel" "TrigramReadersModel" "inputLength" "I") ∈ LW := LW_mem (mt_7 (List.mem_of_getElem? (i := 19) rfl)) rfl
theorem t7_21 : (Jvm.Cond.lays "TrigramReadersModel" "TrigramReadersModel" "position" "I") ∈ LW := LW_mem (mt_7 (List.mem_of_getElem? (i := 21) rfl)) rfl
theorem t7_23 : (Jvm.Cond.lays "TrigramReadersModel" "TrigramReadersModel" "start" "I") ∈ LW := LW_mem (mt_7 (List.mem_of_getElem? (i := 23) rfl)) rfl
theorem t7_25 : (Jvm.Cond.lays "TrigramReadersModel" "TrigramReadersModel" "token" "I") ∈ LW := LW_mem (mt_7 (List.mem_of_getElem? (i := 25) rfl)) rfl
theorem t7_27 : (Jvm.Cond.lays "TrigramReadersModel" "TrigramReadersModel" "value" "I") ∈ LW := LW_mem (mt_7 (List.mem_of_getElem? (i := 27) rfl)) rfl
theorem t7_29 : (Jvm.Cond.lays "TrigramReadersModel" "TrigramReadersModel" "letters" "I") ∈ LW := LW_mem (mt_7 (List.mem_of_getElem? (i := 29) rfl)) rfl
theorem t7_31 : (Jvm.Cond.lays "TrigramReadersModel" "TrigramReadersModel" "code" "I") ∈ LW := LW_mem (mt_7 (List.mem_of_getElem? (i := 31) rfl)) rfl
theorem t7_33 : (Jvm.Cond.lays "TrigramReadersModel" "TrigramReadersModel" "place" "I") ∈ LW := LW_mem (mt_7 (List.mem_of_getElem? (i := 33) rfl)) rfl
theorem t7_35 : (Jvm.Cond.laysFinal "TrigramReadersModel" "TrigramReadersModel" "pairs" "[Z") ∈ LW := LW_mem (mt_7 (List.mem_of_getElem? (i := 35) rfl)) rfl
theorem t7_37 : (Jvm.Cond.laysFinal "TrigramReadersModel" "TrigramReadersModel" "output" "[B") ∈ LW := LW_mem (mt_7 (List.mem_of_getElem? (i := 37) rfl)) rfl
theorem t7_39 : (Jvm.Cond.lays "TrigramReadersModel" "TrigramReadersModel" "outputLength" "I") ∈ LW := LW_mem (mt_7 (List.mem_of_getElem? (i := 39) rfl)) rfl
theorem t7_41 : (Jvm.Cond.laysFinal "TrigramReadersModel" "TrigramReadersModel" "numbers" "[I") ∈ LW := LW_mem (mt_7 (List.mem_of_getElem? (i := 41) rfl)) rfl
theorem t7_43 : (Jvm.Cond.lays "TrigramReadersModel" "TrigramReadersModel" "before" "I") ∈ LW := LW_mem (mt_7 (List.mem_of_getElem? (i := 43) rfl)) rfl
theorem t7_45 : (Jvm.Cond.lays "TrigramReadersModel" "TrigramReadersModel" "previous" "I") ∈ LW := LW_mem (mt_7 (List.mem_of_getElem? (i := 45) rfl)) rfl
theorem t7_48 : (Jvm.Cond.methodLink "TrigramReadersLaw" (202 : Nat) ({ cls := "TrigramReadersModel", name := "thrown", desc := "()I" } : Jvm.MethodName)) ∈ LW := LW_mem (mt_7 (List.mem_of_getElem? (i := 48) rfl)) rfl
theorem t7_49 : (Jvm.Cond.instanceMethod ({ cls := "TrigramReadersModel", name := "thrown", desc := "()I" } : Jvm.MethodName)) ∈ LW := LW_mem (mt_7 (List.mem_of_getElem? (i := 49) rfl)) rfl
theorem t7_50 : (Jvm.Cond.selects "TrigramReadersModel" ({ cls := "TrigramReadersModel", name := "thrown", desc := "()I" } : Jvm.MethodName) ({ cls := "TrigramReadersModel", name := "thrown", desc := "()I" } : Jvm.MethodName)) ∈ LW := LW_mem (mt_7 (List.mem_of_getElem? (i := 50) rfl)) rfl
theorem t7_51 : (Jvm.Cond.code ({ cls := "TrigramReadersModel", name := "thrown", desc := "()I" } : Jvm.MethodName) prog_11_method_3_code (1 : Nat) (Option.some Jvm.ClassFile.FieldType.int)) ∈ LW := LW_mem (mt_7 (List.mem_of_getElem? (i := 51) rfl)) rfl
theorem t7_52 : (Jvm.Cond.methodLink "TrigramReadersLaw" (201 : Nat) ({ cls := "TrigramReadersModel", name := "appendInput", desc := "(IIIII)I" } : Jvm.MethodName)) ∈ LW := LW_mem (mt_7 (List.mem_of_getElem? (i := 52) rfl)) rfl
theorem t7_53 : (Jvm.Cond.instanceMethod ({ cls := "TrigramReadersModel", name := "appendInput", desc := "(IIIII)I" } : Jvm.MethodName)) ∈ LW := LW_mem (mt_7 (List.mem_of_getElem? (i := 53) rfl)) rfl
theorem t7_54 : (Jvm.Cond.selects "TrigramReadersModel" ({ cls := "TrigramReadersModel", name := "appendInput", desc := "(IIIII)I" } : Jvm.MethodName) ({ cls := "TrigramReadersModel", name := "appendInput", desc := "(IIIII)I" } : Jvm.MethodName)) ∈ LW := LW_mem (mt_7 (List.mem_of_getElem? (i := 54) rfl)) rfl
theorem t7_55 : (Jvm.Cond.code ({ cls := "TrigramReadersModel", name := "appendInput", desc := "(IIIII)I" } : Jvm.MethodName) prog_11_method_38_code (6 : Nat) (Option.some Jvm.ClassFile.FieldType.int)) ∈ LW := LW_mem (mt_7 (List.mem_of_getElem? (i := 55) rfl)) rfl
theorem t7_56 : (Jvm.Cond.methodLink "TrigramReadersModel" (189 : Nat) ({ cls := "TrigramReadersModel", name := "refuses", desc := "(ZI)Z" } : Jvm.MethodName)) ∈ LW := LW_mem (mt_7 (List.mem_of_getElem? (i := 56) rfl)) rfl
theorem t7_58 : (Jvm.Cond.instanceMethod ({ cls := "TrigramReadersModel", name := "refuses", desc := "(ZI)Z" } : Jvm.MethodName)) ∈ LW := LW_mem (mt_7 (List.mem_of_getElem? (i := 58) rfl)) rfl
theorem t7_59 : (Jvm.Cond.code ({ cls := "TrigramReadersModel", name := "refuses", desc := "(ZI)Z" } : Jvm.MethodName) prog_11_method_4_code (3 : Nat) (Option.some Jvm.ClassFile.FieldType.boolean)) ∈ LW := LW_mem (mt_7 (List.mem_of_getElem? (i := 59) rfl)) rfl
theorem t7_60 : (Jvm.Cond.methodLink "TrigramReadersModel" (193 : Nat) ({ cls := "TrigramReadersModel", name := "appendWord", desc := "(I)V" } : Jvm.MethodName)) ∈ LW := LW_mem (mt_7 (List.mem_of_getElem? (i := 60) rfl)) rfl
theorem t7_62 : (Jvm.Cond.instanceMethod ({ cls := "TrigramReadersModel", name := "appendWord", desc := "(I)V" } : Jvm.MethodName)) ∈ LW := LW_mem (mt_7 (List.mem_of_getElem? (i := 62) rfl)) rfl
theorem t7_63 : (Jvm.Cond.code ({ cls := "TrigramReadersModel", name := "appendWord", desc := "(I)V" } : Jvm.MethodName) prog_11_method_37_code (3 : Nat) (Option.none : Option Jvm.ClassFile.FieldType)) ∈ LW := LW_mem (mt_7 (List.mem_of_getElem? (i := 63) rfl)) rfl
theorem t7_64 : (Jvm.Cond.methodLink "TrigramReadersLaw" (208 : Nat) ({ cls := "TrigramReadersModel", name := "truncateInput", desc := "(I)I" } : Jvm.MethodName)) ∈ LW := LW_mem (mt_7 (List.mem_of_getElem? (i := 64) rfl)) rfl
theorem t7_65 : (Jvm.Cond.instanceMethod ({ cls := "TrigramReadersModel", name := "truncateInput", desc := "(I)I" } : Jvm.MethodName)) ∈ LW := LW_mem (mt_7 (List.mem_of_getElem? (i := 65) rfl)) rfl
theorem t7_66 : (Jvm.Cond.selects "TrigramReadersModel" ({ cls := "TrigramReadersModel", name := "truncateInput", desc := "(I)I" } : Jvm.MethodName) ({ cls := "TrigramReadersModel", name := "truncateInput", desc := "(I)I" } : Jvm.MethodName)) ∈ LW := LW_mem (mt_7 (List.mem_of_getElem? (i := 66) rfl)) rfl
theorem t7_67 : (Jvm.Cond.code ({ cls := "TrigramReadersModel", name := "truncateInput", desc := "(I)I" } : Jvm.MethodName) prog_11_method_39_code (2 : Nat) (Option.some Jvm.ClassFile.FieldType.int)) ∈ LW := LW_mem (mt_7 (List.mem_of_getElem? (i := 67) rfl)) rfl
theorem t7_68 : (Jvm.Cond.methodLink "TrigramReadersModel" (196 : Nat) ({ cls := "TrigramReadersModel", name := "noNumber", desc := "(III)Z" } : Jvm.MethodName)) ∈ LW := LW_mem (mt_7 (List.mem_of_getElem? (i := 68) rfl)) rfl
theorem t7_70 : (Jvm.Cond.instanceMethod ({ cls := "TrigramReadersModel", name := "noNumber", desc := "(III)Z" } : Jvm.MethodName)) ∈ LW := LW_mem (mt_7 (List.mem_of_getElem? (i := 70) rfl)) rfl
theorem t7_71 : (Jvm.Cond.code ({ cls := "TrigramReadersModel", name := "noNumber", desc := "(III)Z" } : Jvm.MethodName) prog_11_method_62_code (4 : Nat) (Option.some Jvm.ClassFile.FieldType.boolean)) ∈ LW := LW_mem (mt_7 (List.mem_of_getElem? (i := 71) rfl)) rfl
theorem t7_72 : (Jvm.Cond.methodLink "TrigramReadersLaw" (216 : Nat) ({ cls := "TrigramReadersModel", name := "errorCode", desc := "()I" } : Jvm.MethodName)) ∈ LW := LW_mem (mt_7 (List.mem_of_getElem? (i := 72) rfl)) rfl
theorem t7_73 : (Jvm.Cond.instanceMethod ({ cls := "TrigramReadersModel", name := "errorCode", desc := "()I" } : Jvm.MethodName)) ∈ LW := LW_mem (mt_7 (List.mem_of_getElem? (i := 73) rfl)) rfl
theorem t7_74 : (Jvm.Cond.selects "TrigramReadersModel" ({ cls := "TrigramReadersModel", name := "errorCode", desc := "()I" } : Jvm.MethodName) ({ cls := "TrigramReadersModel", name := "errorCode", desc := "()I" } : Jvm.MethodName)) ∈ LW := LW_mem (mt_7 (List.mem_of_getElem? (i := 74) rfl)) rfl
theorem t7_75 : (Jvm.Cond.code ({ cls := "TrigramReadersModel", name := "errorCode", desc := "()I" } : Jvm.MethodName) prog_11_method_40_code (1 : Nat) (Option.some Jvm.ClassFile.FieldType.int)) ∈ LW := LW_mem (mt_7 (List.mem_of_getElem? (i := 75) rfl)) rfl
theorem t7_76 : (Jvm.Cond.methodLink "TrigramReadersLaw" (220 : Nat) ({ cls := "TrigramReadersModel", name := "errorPosition", desc := "()I" } : Jvm.MethodName)) ∈ LW := LW_mem (mt_7 (List.mem_of_getElem? (i := 76) rfl)) rfl
theorem t7_77 : (Jvm.Cond.instanceMethod ({ cls := "TrigramReadersModel", name := "errorPosition", desc := "()I" } : Jvm.MethodName)) ∈ LW := LW_mem (mt_7 (List.mem_of_getElem? (i := 77) rfl)) rfl
theorem t7_78 : (Jvm.Cond.selects "TrigramReadersModel" ({ cls := "TrigramReadersModel", name := "errorPosition", desc := "()I" } : Jvm.MethodName) ({ cls := "TrigramReadersModel", name := "errorPosition", desc := "()I" } : Jvm.MethodName)) ∈ LW := LW_mem (mt_7 (List.mem_of_getElem? (i := 78) rfl)) rfl
theorem t7_79 : (Jvm.Cond.code ({ cls := "TrigramReadersModel", name := "errorPosition", desc := "()I" } : Jvm.MethodName) prog_11_method_41_code (1 : Nat) (Option.some Jvm.ClassFile.FieldType.int)) ∈ LW := LW_mem (mt_7 (List.mem_of_getElem? (i := 79) rfl)) rfl
theorem t7_80 : (Jvm.Cond.methodLink "TrigramReadersLaw" (212 : Nat) ({ cls := "TrigramReadersModel", name := "load", desc := "()I" } : Jvm.MethodName)) ∈ LW := LW_mem (mt_7 (List.mem_of_getElem? (i := 80) rfl)) rfl
theorem t7_81 : (Jvm.Cond.instanceMethod ({ cls := "TrigramReadersModel", name := "load", desc := "()I" } : Jvm.MethodName)) ∈ LW := LW_mem (mt_7 (List.mem_of_getElem? (i := 81) rfl)) rfl
theorem t7_82 : (Jvm.Cond.selects "TrigramReadersModel" ({ cls := "TrigramReadersModel", name := "load", desc := "()I" } : Jvm.MethodName) ({ cls := "TrigramReadersModel", name := "load", desc := "()I" } : Jvm.MethodName)) ∈ LW := LW_mem (mt_7 (List.mem_of_getElem? (i := 82) rfl)) rfl
theorem t7_83 : (Jvm.Cond.code ({ cls := "TrigramReadersModel", name := "load", desc := "()I" } : Jvm.MethodName) prog_11_method_58_code (1 : Nat) (Option.some Jvm.ClassFile.FieldType.int)) ∈ LW := LW_mem (mt_7 (List.mem_of_getElem? (i := 83) rfl)) rfl
theorem t7_84 : (Jvm.Cond.methodLink "TrigramReadersModel" (286 : Nat) ({ cls := "TrigramReadersModel", name := "remember", desc := "()V" } : Jvm.MethodName)) ∈ LW := LW_mem (mt_7 (List.mem_of_getElem? (i := 84) rfl)) rfl
theorem t7_86 : (Jvm.Cond.instanceMethod ({ cls := "TrigramReadersModel", name := "remember", desc := "()V" } : Jvm.MethodName)) ∈ LW := LW_mem (mt_7 (List.mem_of_getElem? (i := 86) rfl)) rfl
theorem t7_87 : (Jvm.Cond.code ({ cls := "TrigramReadersModel", name := "remember", desc := "()V" } : Jvm.MethodName) prog_11_method_59_code (1 : Nat) (Option.none : Option Jvm.ClassFile.FieldType)) ∈ LW := LW_mem (mt_7 (List.mem_of_getElem? (i := 87) rfl)) rfl
theorem t7_88 : (Jvm.Cond.methodLink "TrigramReadersLaw" (397 : Nat) ({ cls := "TrigramReadersModel", name := "undo", desc := "()I" } : Jvm.MethodName)) ∈ LW := LW_mem (mt_7 (List.mem_of_getElem? (i := 88) rfl)) rfl
theorem t7_89 : (Jvm.Cond.instanceMethod ({ cls := "TrigramReadersModel", name := "undo", desc := "()I" } : Jvm.MethodName)) ∈ LW := LW_mem (mt_7 (List.mem_of_getElem? (i := 89) rfl)) rfl
theorem t7_90 : (Jvm.Cond.selects "TrigramReadersModel" ({ cls := "TrigramReadersModel", name := "undo", desc := "()I" } : Jvm.MethodName) ({ cls := "TrigramReadersModel", name := "undo", desc := "()I" } : Jvm.MethodName)) ∈ LW := LW_mem (mt_7 (List.mem_of_getElem? (i := 90) rfl)) rfl
theorem t7_91 : (Jvm.Cond.code ({ cls := "TrigramReadersModel", name := "undo", desc := "()I" } : Jvm.MethodName) prog_11_method_60_code (1 : Nat) (Option.some Jvm.ClassFile.FieldType.int)) ∈ LW := LW_mem (mt_7 (List.mem_of_getElem? (i := 91) rfl)) rfl
theorem t7_92 : (Jvm.Cond.methodLink "TrigramReadersLaw" (401 : Nat) ({ cls := "TrigramReadersModel", name := "undoDepth", desc := "()I" } : Jvm.MethodName)) ∈ LW := LW_mem (mt_7 (List.mem_of_getElem? (i := 92) rfl)) rfl
theorem t7_93 : (Jvm.Cond.instanceMethod ({ cls := "TrigramReadersModel", name := "undoDepth", desc := "()I" } : Jvm.MethodName)) ∈ LW := LW_mem (mt_7 (List.mem_of_getElem? (i := 93) rfl)) rfl
theorem t7_94 : (Jvm.Cond.selects "TrigramReadersModel" ({ cls := "TrigramReadersModel", name := "undoDepth", desc := "()I" } : Jvm.MethodName) ({ cls := "TrigramReadersModel", name := "undoDepth", desc := "()I" } : Jvm.MethodName)) ∈ LW := LW_mem (mt_7 (List.mem_of_getElem? (i := 94) rfl)) rfl
theorem t7_95 : (Jvm.Cond.code ({ cls := "TrigramReadersModel", name := "undoDepth", desc := "()I" } : Jvm.MethodName) prog_11_method_61_code (1 : Nat) (Option.some Jvm.ClassFile.FieldType.int)) ∈ LW := LW_mem (mt_7 (List.mem_of_getElem? (i := 95) rfl)) rfl
theorem t7_96 : (Jvm.Cond.methodLink "TrigramReadersLaw" (224 : Nat) ({ cls := "TrigramReadersModel", name := "year", desc := "()I" } : Jvm.MethodName)) ∈ LW := LW_mem (mt_7 (List.mem_of_getElem? (i := 96) rfl)) rfl
theorem t7_97 : (Jvm.Cond.instanceMethod ({ cls := "TrigramReadersModel", name := "year", desc := "()I" } : Jvm.MethodName)) ∈ LW := LW_mem (mt_7 (List.mem_of_getElem? (i := 97) rfl)) rfl
theorem t7_98 : (Jvm.Cond.selects "TrigramReadersModel" ({ cls := "TrigramReadersModel", name := "year", desc := "()I" } : Jvm.MethodName) ({ cls := "TrigramReadersModel", name := "year", desc := "()I" } : Jvm.MethodName)) ∈ LW := LW_mem (mt_7 (List.mem_of_getElem? (i := 98) rfl)) rfl
theorem t7_99 : (Jvm.Cond.code ({ cls := "TrigramReadersModel", name := "year", desc := "()I" } : Jvm.MethodName) prog_11_method_70_code (1 : Nat) (Option.some Jvm.ClassFile.FieldType.int)) ∈ LW := LW_mem (mt_7 (List.mem_of_getElem? (i := 99) rfl)) rfl
theorem t7_100 : (Jvm.Cond.methodLink "TrigramReadersLaw" (228 : Nat) ({ cls := "TrigramReadersModel", name := "readerCount", desc := "()I" } : Jvm.MethodName)) ∈ LW := LW_mem (mt_7 (List.mem_of_getElem? (i := 100) rfl)) rfl
theorem t7_101 : (Jvm.Cond.instanceMethod ({ cls := "TrigramReadersModel", name := "readerCount", desc := "()I" } : Jvm.MethodName)) ∈ LW := LW_mem (mt_7 (List.mem_of_getElem? (i := 101) rfl)) rfl
theorem t7_102 : (Jvm.Cond.selects "TrigramReadersModel" ({ cls := "TrigramReadersModel", name := "readerCount", desc := "()I" } : Jvm.MethodName) ({ cls := "TrigramReadersModel", name := "readerCount", desc := "()I" } : Jvm.MethodName)) ∈ LW := LW_mem (mt_7 (List.mem_of_getElem? (i := 102) rfl)) rfl
theorem t7_103 : (Jvm.Cond.code ({ cls := "TrigramReadersModel", name := "readerCount", desc := "()I" } : Jvm.MethodName) prog_11_method_71_code (1 : Nat) (Option.some Jvm.ClassFile.FieldType.int)) ∈ LW := LW_mem (mt_7 (List.mem_of_getElem? (i := 103) rfl)) rfl
theorem t7_104 : (Jvm.Cond.methodLink "TrigramReadersLaw" (232 : Nat) ({ cls := "TrigramReadersModel", name := "readerNameByte", desc := "(II)I" } : Jvm.MethodName)) ∈ LW := LW_mem (mt_7 (List.mem_of_getElem? (i := 104) rfl)) rfl
theorem t7_105 : (Jvm.Cond.instanceMethod ({ cls := "TrigramReadersModel", name := "readerNameByte", desc := "(II)I" } : Jvm.MethodName)) ∈ LW := LW_mem (mt_7 (List.mem_of_getElem? (i := 105) rfl)) rfl
theorem t7_106 : (Jvm.Cond.selects "TrigramReadersModel" ({ cls := "TrigramReadersModel", name := "readerNameByte", desc := "(II)I" } : Jvm.MethodName) ({ cls := "TrigramReadersModel", name := "readerNameByte", desc := "(II)I" } : Jvm.MethodName)) ∈ LW := LW_mem (mt_7 (List.mem_of_getElem? (i := 106) rfl)) rfl
theorem t7_107 : (Jvm.Cond.code ({ cls := "TrigramReadersModel", name := "readerNameByte", desc := "(II)I" } : Jvm.MethodName) prog_11_method_74_code (3 : Nat) (Option.some Jvm.ClassFile.FieldType.int)) ∈ LW := LW_mem (mt_7 (List.mem_of_getElem? (i := 107) rfl)) rfl
theorem t7_108 : (Jvm.Cond.methodLink "TrigramReadersModel" (295 : Nat) ({ cls := "TrigramReadersModel", name := "noReader", desc := "(I)Z" } : Jvm.MethodName)) ∈ LW := LW_mem (mt_7 (List.mem_of_getElem? (i := 108) rfl)) rfl
theorem t7_110 : (Jvm.Cond.instanceMethod ({ cls := "TrigramReadersModel", name := "noReader", desc := "(I)Z" } : Jvm.MethodName)) ∈ LW := LW_mem (mt_7 (List.mem_of_getElem? (i := 110) rfl)) rfl
theorem t7_111 : (Jvm.Cond.code ({ cls := "TrigramReadersModel", name := "noReader", desc := "(I)Z" } : Jvm.MethodName) prog_11_method_63_code (2 : Nat) (Option.some Jvm.ClassFile.FieldType.boolean)) ∈ LW := LW_mem (mt_7 (List.mem_of_getElem? (i := 111) rfl)) rfl
theorem t7_112 : (Jvm.Cond.methodLink "TrigramReadersModel" (313 : Nat) ({ cls := "TrigramReadersModel", name := "lettersOf", desc := "(I)I" } : Jvm.MethodName)) ∈ LW := LW_mem (mt_7 (List.mem_of_getElem? (i := 112) rfl)) rfl
theorem t7_113 : (Jvm.Cond.static ({ cls := "TrigramReadersModel", name := "lettersOf", desc := "(I)I" } : Jvm.MethodName)) ∈ LW := LW_mem (mt_7 (List.mem_of_getElem? (i := 113) rfl)) rfl
theorem t7_114 : (Jvm.Cond.code ({ cls := "TrigramReadersModel", name := "lettersOf", desc := "(I)I" } : Jvm.MethodName) prog_11_method_73_code (2 : Nat) (Option.some Jvm.ClassFile.FieldType.int)) ∈ LW := LW_mem (mt_7 (List.mem_of_getElem? (i := 114) rfl)) rfl
theorem t7_115 : (Jvm.Cond.methodLink "TrigramReadersModel" (310 : Nat) ({ cls := "TrigramReadersModel", name := "letterOf", desc := "(II)I" } : Jvm.MethodName)) ∈ LW := LW_mem (mt_7 (List.mem_of_getElem? (i := 115) rfl)) rfl
theorem t7_116 : (Jvm.Cond.static ({ cls := "TrigramReadersModel", name := "letterOf", desc := "(II)I" } : Jvm.MethodName)) ∈ LW := LW_mem (mt_7 (List.mem_of_getElem? (i := 116) rfl)) rfl
theorem t7_117 : (Jvm.Cond.code ({ cls := "TrigramReadersModel", name := "letterOf", desc := "(II)I" } : Jvm.MethodName) prog_11_method_72_code (4 : Nat) (Option.some Jvm.ClassFile.FieldType.int)) ∈ LW := LW_mem (mt_7 (List.mem_of_getElem? (i := 117) rfl)) rfl
theorem t7_118 : (Jvm.Cond.methodLink "TrigramReadersModel" (301 : Nat) ({ cls := "TrigramReadersModel", name := "out", desc := "(III)Z" } : Jvm.MethodName)) ∈ LW := LW_mem (mt_7 (List.mem_of_getElem? (i := 118) rfl)) rfl
theorem t7_120 : (Jvm.Cond.instanceMethod ({ cls := "TrigramReadersModel", name := "out", desc := "(III)Z" } : Jvm.MethodName)) ∈ LW := LW_mem (mt_7 (List.mem_of_getElem? (i := 120) rfl)) rfl
theorem t7_121 : (Jvm.Cond.code ({ cls := "TrigramReadersModel", name := "out", desc := "(III)Z" } : Jvm.MethodName) prog_11_method_66_code (4 : Nat) (Option.some Jvm.ClassFile.FieldType.boolean)) ∈ LW := LW_mem (mt_7 (List.mem_of_getElem? (i := 121) rfl)) rfl
theorem t7_122 : (Jvm.Cond.methodLink "TrigramReadersLaw" (235 : Nat) ({ cls := "TrigramReadersModel", name := "escapeMethod", desc := "(I)I" } : Jvm.MethodName)) ∈ LW := LW_mem (mt_7 (List.mem_of_getElem? (i := 122) rfl)) rfl
theorem t7_123 : (Jvm.Cond.instanceMethod ({ cls := "TrigramReadersModel", name := "escapeMethod", desc := "(I)I" } : Jvm.MethodName)) ∈ LW := LW_mem (mt_7 (List.mem_of_getElem? (i := 123) rfl)) rfl
theorem t7_124 : (Jvm.Cond.selects "TrigramReadersModel" ({ cls := "TrigramReadersModel", name := "escapeMethod", desc := "(I)I" } : Jvm.MethodName) ({ cls := "TrigramReadersModel", name := "escapeMethod", desc := "(I)I" } : Jvm.MethodName)) ∈ LW := LW_mem (mt_7 (List.mem_of_getElem? (i := 124) rfl)) rfl
theorem t7_125 : (Jvm.Cond.code ({ cls := "TrigramReadersModel", name := "escapeMethod", desc := "(I)I" } : Jvm.MethodName) prog_11_method_75_code (2 : Nat) (Option.some Jvm.ClassFile.FieldType.int)) ∈ LW := LW_mem (mt_7 (List.mem_of_getElem? (i := 125) rfl)) rfl
theorem t7_126 : (Jvm.Cond.methodLink "TrigramReadersLaw" (239 : Nat) ({ cls := "TrigramReadersModel", name := "documentCount", desc := "()I" } : Jvm.MethodName)) ∈ LW := LW_mem (mt_7 (List.mem_of_getElem? (i := 126) rfl)) rfl
theorem t7_127 : (Jvm.Cond.instanceMethod ({ cls := "TrigramReadersModel", name := "documentCount", desc := "()I" } : Jvm.MethodName)) ∈ LW := LW_mem (mt_7 (List.mem_of_getElem? (i := 127) rfl)) rfl
theorem t7_128 : (Jvm.Cond.selects "TrigramReadersModel" ({ cls := "TrigramReadersModel", name := "documentCount", desc := "()I" } : Jvm.MethodName) ({ cls := "TrigramReadersModel", name := "documentCount", desc := "()I" } : Jvm.MethodName)) ∈ LW := LW_mem (mt_7 (List.mem_of_getElem? (i := 128) rfl)) rfl
theorem t7_129 : (Jvm.Cond.code ({ cls := "TrigramReadersModel", name := "documentCount", desc := "()I" } : Jvm.MethodName) prog_11_method_76_code (1 : Nat) (Option.some Jvm.ClassFile.FieldType.int)) ∈ LW := LW_mem (mt_7 (List.mem_of_getElem? (i := 129) rfl)) rfl
theorem t7_130 : (Jvm.Cond.methodLink "TrigramReadersLaw" (242 : Nat) ({ cls := "TrigramReadersModel", name := "documentLength", desc := "(I)I" } : Jvm.MethodName)) ∈ LW := LW_mem (mt_7 (List.mem_of_getElem? (i := 130) rfl)) rfl
theorem t7_131 : (Jvm.Cond.instanceMethod ({ cls := "TrigramReadersModel", name := "documentLength", desc := "(I)I" } : Jvm.MethodName)) ∈ LW := LW_mem (mt_7 (List.mem_of_getElem? (i := 131) rfl)) rfl
theorem t7_132 : (Jvm.Cond.selects "TrigramReadersModel" ({ cls := "TrigramReadersModel", name := "documentLength", desc := "(I)I" } : Jvm.MethodName) ({ cls := "TrigramReadersModel", name := "documentLength", desc := "(I)I" } : Jvm.MethodName)) ∈ LW := LW_mem (mt_7 (List.mem_of_getElem? (i := 132) rfl)) rfl
theorem t7_133 : (Jvm.Cond.code ({ cls := "TrigramReadersModel", name := "documentLength", desc := "(I)I" } : Jvm.MethodName) prog_11_method_77_code (2 : Nat) (Option.some Jvm.ClassFile.FieldType.int)) ∈ LW := LW_mem (mt_7 (List.mem_of_getElem? (i := 133) rfl)) rfl
theorem t7_134 : (Jvm.Cond.methodLink "TrigramReadersModel" (298 : Nat) ({ cls := "TrigramReadersModel", name := "noDocument", desc := "(I)Z" } : Jvm.MethodName)) ∈ LW := LW_mem (mt_7 (List.mem_of_getElem? (i := 134) rfl)) rfl
theorem t7_136 : (Jvm.Cond.instanceMethod ({ cls := "TrigramReadersModel", name := "noDocument", desc := "(I)Z" } : Jvm.MethodName)) ∈ LW := LW_mem (mt_7 (List.mem_of_getElem? (i := 136) rfl)) rfl
theorem t7_137 : (Jvm.Cond.code ({ cls := "TrigramReadersModel", name := "noDocument", desc := "(I)Z" } : Jvm.MethodName) prog_11_method_64_code (2 : Nat) (Option.some Jvm.ClassFile.FieldType.boolean)) ∈ LW := LW_mem (mt_7 (List.mem_of_getElem? (i := 137) rfl)) rfl
theorem t7_138 : (Jvm.Cond.methodLink "TrigramReadersLaw" (245 : Nat) ({ cls := "TrigramReadersModel", name := "documentSymbol", desc := "(II)I" } : Jvm.MethodName)) ∈ LW := LW_mem (mt_7 (List.mem_of_getElem? (i := 138) rfl)) rfl
theorem t7_139 : (Jvm.Cond.instanceMethod ({ cls := "TrigramReadersModel", name := "documentSymbol", desc := "(II)I" } : Jvm.MethodName)) ∈ LW := LW_mem (mt_7 (List.mem_of_getElem? (i := 139) rfl)) rfl
theorem t7_140 : (Jvm.Cond.selects "TrigramReadersModel" ({ cls := "TrigramReadersModel", name := "documentSymbol", desc := "(II)I" } : Jvm.MethodName) ({ cls := "TrigramReadersModel", name := "documentSymbol", desc := "(II)I" } : Jvm.MethodName)) ∈ LW := LW_mem (mt_7 (List.mem_of_getElem? (i := 140) rfl)) rfl
theorem t7_141 : (Jvm.Cond.code ({ cls := "TrigramReadersModel", name := "documentSymbol", desc := "(II)I" } : Jvm.MethodName) prog_11_method_78_code (3 : Nat) (Option.some Jvm.ClassFile.FieldType.int)) ∈ LW := LW_mem (mt_7 (List.mem_of_getElem? (i := 141) rfl)) rfl
theorem t7_142 : (Jvm.Cond.methodLink "TrigramReadersLaw" (248 : Nat) ({ cls := "TrigramReadersModel", name := "documentYear", desc := "(I)I" } : Jvm.MethodName)) ∈ LW := LW_mem (mt_7 (List.mem_of_getElem? (i := 142) rfl)) rfl
theorem t7_143 : (Jvm.Cond.instanceMethod ({ cls := "TrigramReadersModel", name := "documentYear", desc := "(I)I" } : Jvm.MethodName)) ∈ LW := LW_mem (mt_7 (List.mem_of_getElem? (i := 143) rfl)) rfl
theorem t7_144 : (Jvm.Cond.selects "TrigramReadersModel" ({ cls := "TrigramReadersModel", name := "documentYear", desc := "(I)I" } : Jvm.MethodName) ({ cls := "TrigramReadersModel", name := "documentYear", desc := "(I)I" } : Jvm.MethodName)) ∈ LW := LW_mem (mt_7 (List.mem_of_getElem? (i := 144) rfl)) rfl
theorem t7_145 : (Jvm.Cond.code ({ cls := "TrigramReadersModel", name := "documentYear", desc := "(I)I" } : Jvm.MethodName) prog_11_method_79_code (2 : Nat) (Option.some Jvm.ClassFile.FieldType.int)) ∈ LW := LW_mem (mt_7 (List.mem_of_getElem? (i := 145) rfl)) rfl
theorem t7_146 : (Jvm.Cond.methodLink "TrigramReadersLaw" (251 : Nat) ({ cls := "TrigramReadersModel", name := "countOrder0", desc := "(II)I" } : Jvm.MethodName)) ∈ LW := LW_mem (mt_7 (List.mem_of_getElem? (i := 146) rfl)) rfl
theorem t7_147 : (Jvm.Cond.instanceMethod ({ cls := "TrigramReadersModel", name := "countOrder0", desc := "(II)I" } : Jvm.MethodName)) ∈ LW := LW_mem (mt_7 (List.mem_of_getElem? (i := 147) rfl)) rfl
theorem t7_148 : (Jvm.Cond.selects "TrigramReadersModel" ({ cls := "TrigramReadersModel", name := "countOrder0", desc := "(II)I" } : Jvm.MethodName) ({ cls := "TrigramReadersModel", name := "countOrder0", desc := "(II)I" } : Jvm.MethodName)) ∈ LW := LW_mem (mt_7 (List.mem_of_getElem? (i := 148) rfl)) rfl
theorem t7_149 : (Jvm.Cond.code ({ cls := "TrigramReadersModel", name := "countOrder0", desc := "(II)I" } : Jvm.MethodName) prog_11_method_80_code (3 : Nat) (Option.some Jvm.ClassFile.FieldType.int)) ∈ LW := LW_mem (mt_7 (List.mem_of_getElem? (i := 149) rfl)) rfl
theorem t7_150 : (Jvm.Cond.methodLink "TrigramReadersModel" (307 : Nat) ({ cls := "TrigramReadersModel", name := "noSymbol", desc := "(I)Z" } : Jvm.MethodName)) ∈ LW := LW_mem (mt_7 (List.mem_of_getElem? (i := 150) rfl)) rfl
theorem t7_152 : (Jvm.Cond.instanceMethod ({ cls := "TrigramReadersModel", name := "noSymbol", desc := "(I)Z" } : Jvm.MethodName)) ∈ LW := LW_mem (mt_7 (List.mem_of_getElem? (i := 152) rfl)) rfl
theorem t7_153 : (Jvm.Cond.code ({ cls := "TrigramReadersModel", name := "noSymbol", desc := "(I)Z" } : Jvm.MethodName) prog_11_method_67_code (2 : Nat) (Option.some Jvm.ClassFile.FieldType.boolean)) ∈ LW := LW_mem (mt_7 (List.mem_of_getElem? (i := 153) rfl)) rfl
theorem t7_154 : (Jvm.Cond.methodLink "TrigramReadersModel" (316 : Nat) ({ cls := "TrigramReadersModel", name := "countOf", desc := "([III)I" } : Jvm.MethodName)) ∈ LW := LW_mem (mt_7 (List.mem_of_getElem? (i := 154) rfl)) rfl
theorem t7_155 : (Jvm.Cond.static ({ cls := "TrigramReadersModel", name := "countOf", desc := "([III)I" } : Jvm.MethodName)) ∈ LW := LW_mem (mt_7 (List.mem_of_getElem? (i := 155) rfl)) rfl
theorem t7_156 : (Jvm.Cond.code ({ cls := "TrigramReadersModel", name := "countOf", desc := "([III)I" } : Jvm.MethodName) prog_11_method_14_code (4 : Nat) (Option.some Jvm.ClassFile.FieldType.int)) ∈ LW := LW_mem (mt_7 (List.mem_of_getElem? (i := 156) rfl)) rfl
theorem t7_157 : (Jvm.Cond.methodLink "TrigramReadersLaw" (255 : Nat) ({ cls := "TrigramReadersModel", name := "countOrder1", desc := "(III)I" } : Jvm.MethodName)) ∈ LW := LW_mem (mt_7 (List.mem_of_getElem? (i := 157) rfl)) rfl
theorem t7_158 : (Jvm.Cond.instanceMethod ({ cls := "TrigramReadersModel", name := "countOrder1", desc := "(III)I" } : Jvm.MethodName)) ∈ LW := LW_mem (mt_7 (List.mem_of_getElem? (i := 158) rfl)) rfl
theorem t7_159 : (Jvm.Cond.selects "TrigramReadersModel" ({ cls := "TrigramReadersModel", name := "countOrder1", desc := "(III)I" } : Jvm.MethodName) ({ cls := "TrigramReadersModel", name := "countOrder1", desc := "(III)I" } : Jvm.MethodName)) ∈ LW := LW_mem (mt_7 (List.mem_of_getElem? (i := 159) rfl)) rfl
theorem t7_160 : (Jvm.Cond.code ({ cls := "TrigramReadersModel", name := "countOrder1", desc := "(III)I" } : Jvm.MethodName) prog_11_method_81_code (4 : Nat) (Option.some Jvm.ClassFile.FieldType.int)) ∈ LW := LW_mem (mt_7 (List.mem_of_getElem? (i := 160) rfl)) rfl
theorem t7_161 : (Jvm.Cond.methodLink "TrigramReadersLaw" (259 : Nat) ({ cls := "TrigramReadersModel", name := "countOrder2", desc := "(IIII)I" } : Jvm.MethodName)) ∈ LW := LW_mem (mt_7 (List.mem_of_getElem? (i := 161) rfl)) rfl
theorem t7_162 : (Jvm.Cond.instanceMethod ({ cls := "TrigramReadersModel", name := "countOrder2", desc := "(IIII)I" } : Jvm.MethodName)) ∈ LW := LW_mem (mt_7 (List.mem_of_getElem? (i := 162) rfl)) rfl
theorem t7_163 : (Jvm.Cond.selects "TrigramReadersModel" ({ cls := "TrigramReadersModel", name := "countOrder2", desc := "(IIII)I" } : Jvm.MethodName) ({ cls := "TrigramReadersModel", name := "countOrder2", desc := "(IIII)I" } : Jvm.MethodName)) ∈ LW := LW_mem (mt_7 (List.mem_of_getElem? (i := 163) rfl)) rfl
theorem t7_164 : (Jvm.Cond.code ({ cls := "TrigramReadersModel", name := "countOrder2", desc := "(IIII)I" } : Jvm.MethodName) prog_11_method_82_code (5 : Nat) (Option.some Jvm.ClassFile.FieldType.int)) ∈ LW := LW_mem (mt_7 (List.mem_of_getElem? (i := 164) rfl)) rfl
theorem t7_165 : (Jvm.Cond.methodLink "TrigramReadersLaw" (262 : Nat) ({ cls := "TrigramReadersModel", name := "contextTotal", desc := "(III)I" } : Jvm.MethodName)) ∈ LW := LW_mem (mt_7 (List.mem_of_getElem? (i := 165) rfl)) rfl
theorem t7_166 : (Jvm.Cond.instanceMethod ({ cls := "TrigramReadersModel", name := "contextTotal", desc := "(III)I" } : Jvm.MethodName)) ∈ LW := LW_mem (mt_7 (List.mem_of_getElem? (i := 166) rfl)) rfl
theorem t7_167 : (Jvm.Cond.selects "TrigramReadersModel" ({ cls := "TrigramReadersModel", name := "contextTotal", desc := "(III)I" } : Jvm.MethodName) ({ cls := "TrigramReadersModel", name := "contextTotal", desc := "(III)I" } : Jvm.MethodName)) ∈ LW := LW_mem (mt_7 (List.mem_of_getElem? (i := 167) rfl)) rfl
theorem t7_168 : (Jvm.Cond.code ({ cls := "TrigramReadersModel", name := "contextTotal", desc := "(III)I" } : Jvm.MethodName) prog_11_method_83_code (6 : Nat) (Option.some Jvm.ClassFile.FieldType.int)) ∈ LW := LW_mem (mt_7 (List.mem_of_getElem? (i := 168) rfl)) rfl
theorem t7_169 : (Jvm.Cond.methodLink "TrigramReadersModel" (304 : Nat) ({ cls := "TrigramReadersModel", name := "noContext", desc := "(III)Z" } : Jvm.MethodName)) ∈ LW := LW_mem (mt_7 (List.mem_of_getElem? (i := 169) rfl)) rfl
theorem t7_171 : (Jvm.Cond.instanceMethod ({ cls := "TrigramReadersModel", name := "noContext", desc := "(III)Z" } : Jvm.MethodName)) ∈ LW := LW_mem (mt_7 (List.mem_of_getElem? (i := 171) rfl)) rfl
theorem t7_172 : (Jvm.Cond.code ({ cls := "TrigramReadersModel", name := "noContext", desc := "(III)Z" } : Jvm.MethodName) prog_11_method_68_code (4 : Nat) (Option.some Jvm.ClassFile.FieldType.boolean)) ∈ LW := LW_mem (mt_7 (List.mem_of_getElem? (i := 172) rfl)) rfl
theorem t7_173 : (Jvm.Cond.methodLink "TrigramReadersModel" (135 : Nat) ({ cls := "TrigramReadersModel", name := "look", desc := "([IIII)V" } : Jvm.MethodName)) ∈ LW := LW_mem (mt_7 (List.mem_of_getElem? (i := 173) rfl)) rfl
theorem t7_175 : (Jvm.Cond.instanceMethod ({ cls := "TrigramReadersModel", name := "look", desc := "([IIII)V" } : Jvm.MethodName)) ∈ LW := LW_mem (mt_7 (List.mem_of_getElem? (i := 175) rfl)) rfl
theorem t7_176 : (Jvm.Cond.code ({ cls := "TrigramReadersModel", name := "look", desc := "([IIII)V" } : Jvm.MethodName) prog_11_method_21_code (10 : Nat) (Option.none : Option Jvm.ClassFile.FieldType)) ∈ LW := LW_mem (mt_7 (List.mem_of_getElem? (i := 176) rfl)) rfl
theorem t7_177 : (Jvm.Cond.methodLink "TrigramReadersLaw" (265 : Nat) ({ cls := "TrigramReadersModel", name := "contextSymbols", desc := "(III)I" } : Jvm.MethodName)) ∈ LW := LW_mem (mt_7 (List.mem_of_getElem? (i := 177) rfl)) rfl
theorem t7_178 : (Jvm.Cond.instanceMethod ({ cls := "TrigramReadersModel", name := "contextSymbols", desc := "(III)I" } : Jvm.MethodName)) ∈ LW := LW_mem (mt_7 (List.mem_of_getElem? (i := 178) rfl)) rfl
theorem t7_179 : (Jvm.Cond.selects "TrigramReadersModel" ({ cls := "TrigramReadersModel", name := "contextSymbols", desc := "(III)I" } : Jvm.MethodName) ({ cls := "TrigramReadersModel", name := "contextSymbols", desc := "(III)I" } : Jvm.MethodName)) ∈ LW := LW_mem (mt_7 (List.mem_of_getElem? (i := 179) rfl)) rfl
theorem t7_180 : (Jvm.Cond.code ({ cls := "TrigramReadersModel", name := "contextSymbols", desc := "(III)I" } : Jvm.MethodName) prog_11_method_84_code (6 : Nat) (Option.some Jvm.ClassFile.FieldType.int)) ∈ LW := LW_mem (mt_7 (List.mem_of_getElem? (i := 180) rfl)) rfl
theorem t7_181 : (Jvm.Cond.methodLink "TrigramReadersLaw" (268 : Nat) ({ cls := "TrigramReadersModel", name := "order2Contexts", desc := "(I)I" } : Jvm.MethodName)) ∈ LW := LW_mem (mt_7 (List.mem_of_getElem? (i := 181) rfl)) rfl
theorem t7_182 : (Jvm.Cond.instanceMethod ({ cls := "TrigramReadersModel", name := "order2Contexts", desc := "(I)I" } : Jvm.MethodName)) ∈ LW := LW_mem (mt_7 (List.mem_of_getElem? (i := 182) rfl)) rfl
theorem t7_183 : (Jvm.Cond.selects "TrigramReadersModel" ({ cls := "TrigramReadersModel", name := "order2Contexts", desc := "(I)I" } : Jvm.MethodName) ({ cls := "TrigramReadersModel", name := "order2Contexts", desc := "(I)I" } : Jvm.MethodName)) ∈ LW := LW_mem (mt_7 (List.mem_of_getElem? (i := 183) rfl)) rfl
theorem t7_184 : (Jvm.Cond.code ({ cls := "TrigramReadersModel", name := "order2Contexts", desc := "(I)I" } : Jvm.MethodName) prog_11_method_87_code (4 : Nat) (Option.some Jvm.ClassFile.FieldType.int)) ∈ LW := LW_mem (mt_7 (List.mem_of_getElem? (i := 184) rfl)) rfl
theorem t7_185 : (Jvm.Cond.methodLink "TrigramReadersModel" (319 : Nat) ({ cls := "TrigramReadersModel", name := "clearPairs", desc := "()V" } : Jvm.MethodName)) ∈ LW := LW_mem (mt_7 (List.mem_of_getElem? (i := 185) rfl)) rfl
theorem t7_187 : (Jvm.Cond.instanceMethod ({ cls := "TrigramReadersModel", name := "clearPairs", desc := "()V" } : Jvm.MethodName)) ∈ LW := LW_mem (mt_7 (List.mem_of_getElem? (i := 187) rfl)) rfl
theorem t7_188 : (Jvm.Cond.code ({ cls := "TrigramReadersModel", name := "clearPairs", desc := "()V" } : Jvm.MethodName) prog_11_method_85_code (2 : Nat) (Option.none : Option Jvm.ClassFile.FieldType)) ∈ LW := LW_mem (mt_7 (List.mem_of_getElem? (i := 188) rfl)) rfl
theorem t7_189 : (Jvm.Cond.methodLink "TrigramReadersModel" (322 : Nat) ({ cls := "TrigramReadersModel", name := "markPairs", desc := "(I)V" } : Jvm.MethodName)) ∈ LW := LW_mem (mt_7 (List.mem_of_getElem? (i := 189) rfl)) rfl
theorem t7_191 : (Jvm.Cond.instanceMethod ({ cls := "TrigramReadersModel", name := "markPairs", desc := "(I)V" } : Jvm.MethodName)) ∈ LW := LW_mem (mt_7 (List.mem_of_getElem? (i := 191) rfl)) rfl
theorem t7_192 : (Jvm.Cond.code ({ cls := "TrigramReadersModel", name := "markPairs", desc := "(I)V" } : Jvm.MethodName) prog_11_method_86_code (4 : Nat) (Option.none : Option Jvm.ClassFile.FieldType)) ∈ LW := LW_mem (mt_7 (List.mem_of_getElem? (i := 192) rfl)) rfl
theorem t7_193 : (Jvm.Cond.methodLink "TrigramReadersLaw" (271 : Nat) ({ cls := "TrigramReadersModel", name := "positiveCounts", desc := "(I)I" } : Jvm.MethodName)) ∈ LW := LW_mem (mt_7 (List.mem_of_getElem? (i := 193) rfl)) rfl
theorem t7_194 : (Jvm.Cond.instanceMethod ({ cls := "TrigramReadersModel", name := "positiveCounts", desc := "(I)I" } : Jvm.MethodName)) ∈ LW := LW_mem (mt_7 (List.mem_of_getElem? (i := 194) rfl)) rfl
theorem t7_195 : (Jvm.Cond.selects "TrigramReadersModel" ({ cls := "TrigramReadersModel", name := "positiveCounts", desc := "(I)I" } : Jvm.MethodName) ({ cls := "TrigramReadersModel", name := "positiveCounts", desc := "(I)I" } : Jvm.MethodName)) ∈ LW := LW_mem (mt_7 (List.mem_of_getElem? (i := 195) rfl)) rfl
theorem t7_196 : (Jvm.Cond.code ({ cls := "TrigramReadersModel", name := "positiveCounts", desc := "(I)I" } : Jvm.MethodName) prog_11_method_88_code (2 : Nat) (Option.some Jvm.ClassFile.FieldType.int)) ∈ LW := LW_mem (mt_7 (List.mem_of_getElem? (i := 196) rfl)) rfl
theorem t7_197 : (Jvm.Cond.methodLink "TrigramReadersModel" (325 : Nat) ({ cls := "TrigramReadersModel", name := "positiveOf", desc := "([II)I" } : Jvm.MethodName)) ∈ LW := LW_mem (mt_7 (List.mem_of_getElem? (i := 197) rfl)) rfl
theorem t7_198 : (Jvm.Cond.static ({ cls := "TrigramReadersModel", name := "positiveOf", desc := "([II)I" } : Jvm.MethodName)) ∈ LW := LW_mem (mt_7 (List.mem_of_getElem? (i := 198) rfl)) rfl
theorem t7_199 : (Jvm.Cond.code ({ cls := "TrigramReadersModel", name := "positiveOf", desc := "([II)I" } : Jvm.MethodName) prog_11_method_20_code (4 : Nat) (Option.some Jvm.ClassFile.FieldType.int)) ∈ LW := LW_mem (mt_7 (List.mem_of_getElem? (i := 199) rfl)) rfl
theorem t7_200 : (Jvm.Cond.methodLink "TrigramReadersLaw" (274 : Nat) ({ cls := "TrigramReadersModel", name := "timesTrained", desc := "(II)I" } : Jvm.MethodName)) ∈ LW := LW_mem (mt_7 (List.mem_of_getElem? (i := 200) rfl)) rfl
theorem t7_201 : (Jvm.Cond.instanceMethod ({ cls := "TrigramReadersModel", name := "timesTrained", desc := "(II)I" } : Jvm.MethodName)) ∈ LW := LW_mem (mt_7 (List.mem_of_getElem? (i := 201) rfl)) rfl
theorem t7_202 : (Jvm.Cond.selects "TrigramReadersModel" ({ cls := "TrigramReadersModel", name := "timesTrained", desc := "(II)I" } : Jvm.MethodName) ({ cls := "TrigramReadersModel", name := "timesTrained", desc := "(II)I" } : Jvm.MethodName)) ∈ LW := LW_mem (mt_7 (List.mem_of_getElem? (i := 202) rfl)) rfl
theorem t7_203 : (Jvm.Cond.code ({ cls := "TrigramReadersModel", name := "timesTrained", desc := "(II)I" } : Jvm.MethodName) prog_11_method_89_code (3 : Nat) (Option.some Jvm.ClassFile.FieldType.int)) ∈ LW := LW_mem (mt_7 (List.mem_of_getElem? (i := 203) rfl)) rfl
theorem t7_204 : (Jvm.Cond.methodLink "TrigramReadersModel" (328 : Nat) ({ cls := "TrigramReadersModel", name := "noBoth", desc := "(II)Z" } : Jvm.MethodName)) ∈ LW := LW_mem (mt_7 (List.mem_of_getElem? (i := 204) rfl)) rfl
theorem t7_206 : (Jvm.Cond.instanceMethod ({ cls := "TrigramReadersModel", name := "noBoth", desc := "(II)Z" } : Jvm.MethodName)) ∈ LW := LW_mem (mt_7 (List.mem_of_getElem? (i := 206) rfl)) rfl
theorem t7_207 : (Jvm.Cond.code ({ cls := "TrigramReadersModel", name := "noBoth", desc := "(II)Z" } : Jvm.MethodName) prog_11_method_65_code (3 : Nat) (Option.some Jvm.ClassFile.FieldType.boolean)) ∈ LW := LW_mem (mt_7 (List.mem_of_getElem? (i := 207) rfl)) rfl
theorem t7_208 : (Jvm.Cond.methodLink "TrigramReadersLaw" (277 : Nat) ({ cls := "TrigramReadersModel", name := "trainedSymbols", desc := "(I)I" } : Jvm.MethodName)) ∈ LW := LW_mem (mt_7 (List.mem_of_getElem? (i := 208) rfl)) rfl
theorem t7_209 : (Jvm.Cond.instanceMethod ({ cls := "TrigramReadersModel", name := "trainedSymbols", desc := "(I)I" } : Jvm.MethodName)) ∈ LW := LW_mem (mt_7 (List.mem_of_getElem? (i := 209) rfl)) rfl
theorem t7_210 : (Jvm.Cond.selects "TrigramReadersModel" ({ cls := "TrigramReadersModel", name := "trainedSymbols", desc := "(I)I" } : Jvm.MethodName) ({ cls := "TrigramReadersModel", name := "trainedSymbols", desc := "(I)I" } : Jvm.MethodName)) ∈ LW := LW_mem (mt_7 (List.mem_of_getElem? (i := 210) rfl)) rfl
theorem t7_211 : (Jvm.Cond.code ({ cls := "TrigramReadersModel", name := "trainedSymbols", desc := "(I)I" } : Jvm.MethodName) prog_11_method_90_code (2 : Nat) (Option.some Jvm.ClassFile.FieldType.int)) ∈ LW := LW_mem (mt_7 (List.mem_of_getElem? (i := 211) rfl)) rfl
theorem t7_212 : (Jvm.Cond.methodLink "TrigramReadersLaw" (280 : Nat) ({ cls := "TrigramReadersModel", name := "trainingGap", desc := "(I)I" } : Jvm.MethodName)) ∈ LW := LW_mem (mt_7 (List.mem_of_getElem? (i := 212) rfl)) rfl
theorem t7_213 : (Jvm.Cond.instanceMethod ({ cls := "TrigramReadersModel", name := "trainingGap", desc := "(I)I" } : Jvm.MethodName)) ∈ LW := LW_mem (mt_7 (List.mem_of_getElem? (i := 213) rfl)) rfl
theorem t7_214 : (Jvm.Cond.selects "TrigramReadersModel" ({ cls := "TrigramReadersModel", name := "trainingGap", desc := "(I)I" } : Jvm.MethodName) ({ cls := "TrigramReadersModel", name := "trainingGap", desc := "(I)I" } : Jvm.MethodName)) ∈ LW := LW_mem (mt_7 (List.mem_of_getElem? (i := 214) rfl)) rfl
theorem t7_215 : (Jvm.Cond.code ({ cls := "TrigramReadersModel", name := "trainingGap", desc := "(I)I" } : Jvm.MethodName) prog_11_method_91_code (4 : Nat) (Option.some Jvm.ClassFile.FieldType.int)) ∈ LW := LW_mem (mt_7 (List.mem_of_getElem? (i := 215) rfl)) rfl
theorem t7_216 : (Jvm.Cond.methodLink "TrigramReadersLaw" (283 : Nat) ({ cls := "TrigramReadersModel", name := "symbolAtRank", desc := "(IIII)I" } : Jvm.MethodName)) ∈ LW := LW_mem (mt_7 (List.mem_of_getElem? (i := 216) rfl)) rfl
theorem t7_217 : (Jvm.Cond.instanceMethod ({ cls := "TrigramReadersModel", name := "symbolAtRank", desc := "(IIII)I" } : Jvm.MethodName)) ∈ LW := LW_mem (mt_7 (List.mem_of_getElem? (i := 217) rfl)) rfl
theorem t7_218 : (Jvm.Cond.selects "TrigramReadersModel" ({ cls := "TrigramReadersModel", name := "symbolAtRank", desc := "(IIII)I" } : Jvm.MethodName) ({ cls := "TrigramReadersModel", name := "symbolAtRank", desc := "(IIII)I" } : Jvm.MethodName)) ∈ LW := LW_mem (mt_7 (List.mem_of_getElem? (i := 218) rfl)) rfl
theorem t7_219 : (Jvm.Cond.code ({ cls := "TrigramReadersModel", name := "symbolAtRank", desc := "(IIII)I" } : Jvm.MethodName) prog_11_method_92_code (5 : Nat) (Option.some Jvm.ClassFile.FieldType.int)) ∈ LW := LW_mem (mt_7 (List.mem_of_getElem? (i := 219) rfl)) rfl
theorem t7_220 : (Jvm.Cond.methodLink "TrigramReadersModel" (145 : Nat) ({ cls := "TrigramReadersModel", name := "rankAll", desc := "([IIII)V" } : Jvm.MethodName)) ∈ LW := LW_mem (mt_7 (List.mem_of_getElem? (i := 220) rfl)) rfl
theorem t7_222 : (Jvm.Cond.instanceMethod ({ cls := "TrigramReadersModel", name := "rankAll", desc := "([IIII)V" } : Jvm.MethodName)) ∈ LW := LW_mem (mt_7 (List.mem_of_getElem? (i := 222) rfl)) rfl
theorem t7_223 : (Jvm.Cond.code ({ cls := "TrigramReadersModel", name := "rankAll", desc := "([IIII)V" } : Jvm.MethodName) prog_11_method_24_code (7 : Nat) (Option.none : Option Jvm.ClassFile.FieldType)) ∈ LW := LW_mem (mt_7 (List.mem_of_getElem? (i := 223) rfl)) rfl
theorem t7_224 : (Jvm.Cond.methodLink "TrigramReadersModel" (138 : Nat) ({ cls := "TrigramReadersModel", name := "bestOf", desc := "(I)I" } : Jvm.MethodName)) ∈ LW := LW_mem (mt_7 (List.mem_of_getElem? (i := 224) rfl)) rfl
theorem t7_226 : (Jvm.Cond.instanceMethod ({ cls := "TrigramReadersModel", name := "bestOf", desc := "(I)I" } : Jvm.MethodName)) ∈ LW := LW_mem (mt_7 (List.mem_of_getElem? (i := 226) rfl)) rfl
theorem t7_227 : (Jvm.Cond.code ({ cls := "TrigramReadersModel", name := "bestOf", desc := "(I)I" } : Jvm.MethodName) prog_11_method_23_code (5 : Nat) (Option.some Jvm.ClassFile.FieldType.int)) ∈ LW := LW_mem (mt_7 (List.mem_of_getElem? (i := 227) rfl)) rfl
theorem t7_228 : (Jvm.Cond.methodLink "TrigramReadersModel" (141 : Nat) ({ cls := "TrigramReadersModel", name := "append", desc := "(I)V" } : Jvm.MethodName)) ∈ LW := LW_mem (mt_7 (List.mem_of_getElem? (i := 228) rfl)) rfl
theorem t7_230 : (Jvm.Cond.instanceMethod ({ cls := "TrigramReadersModel", name := "append", desc := "(I)V" } : Jvm.MethodName)) ∈ LW := LW_mem (mt_7 (List.mem_of_getElem? (i := 230) rfl)) rfl
theorem t7_231 : (Jvm.Cond.code ({ cls := "TrigramReadersModel", name := "append", desc := "(I)V" } : Jvm.MethodName) prog_11_method_22_code (2 : Nat) (Option.none : Option Jvm.ClassFile.FieldType)) ∈ LW := LW_mem (mt_7 (List.mem_of_getElem? (i := 231) rfl)) rfl
theorem t7_232 : (Jvm.Cond.methodLink "TrigramReadersLaw" (286 : Nat) ({ cls := "TrigramReadersModel", name := "rank", desc := "(IIII)I" } : Jvm.MethodName)) ∈ LW := LW_mem (mt_7 (List.mem_of_getElem? (i := 232) rfl)) rfl
theorem t7_233 : (Jvm.Cond.instanceMethod ({ cls := "TrigramReadersModel", name := "rank", desc := "(IIII)I" } : Jvm.MethodName)) ∈ LW := LW_mem (mt_7 (List.mem_of_getElem? (i := 233) rfl)) rfl
theorem t7_234 : (Jvm.Cond.selects "TrigramReadersModel" ({ cls := "TrigramReadersModel", name := "rank", desc := "(IIII)I" } : Jvm.MethodName) ({ cls := "TrigramReadersModel", name := "rank", desc := "(IIII)I" } : Jvm.MethodName)) ∈ LW := LW_mem (mt_7 (List.mem_of_getElem? (i := 234) rfl)) rfl
theorem t7_235 : (Jvm.Cond.code ({ cls := "TrigramReadersModel", name := "rank", desc := "(IIII)I" } : Jvm.MethodName) prog_11_method_93_code (5 : Nat) (Option.some Jvm.ClassFile.FieldType.int)) ∈ LW := LW_mem (mt_7 (List.mem_of_getElem? (i := 235) rfl)) rfl
theorem t7_236 : (Jvm.Cond.methodLink "TrigramReadersModel" (331 : Nat) ({ cls := "TrigramReadersModel", name := "noQuestion", desc := "(IIII)Z" } : Jvm.MethodName)) ∈ LW := LW_mem (mt_7 (List.mem_of_getElem? (i := 236) rfl)) rfl
theorem t7_238 : (Jvm.Cond.instanceMethod ({ cls := "TrigramReadersModel", name := "noQuestion", desc := "(IIII)Z" } : Jvm.MethodName)) ∈ LW := LW_mem (mt_7 (List.mem_of_getElem? (i := 238) rfl)) rfl
theorem t7_239 : (Jvm.Cond.code ({ cls := "TrigramReadersModel", name := "noQuestion", desc := "(IIII)Z" } : Jvm.MethodName) prog_11_method_69_code (5 : Nat) (Option.some Jvm.ClassFile.FieldType.boolean)) ∈ LW := LW_mem (mt_7 (List.mem_of_getElem? (i := 239) rfl)) rfl
theorem t8_0 : (Jvm.Cond.methodLink "TrigramReadersLaw" (289 : Nat) ({ cls := "TrigramReadersModel", name := "foundOrder", desc := "(IIII)I" } : Jvm.MethodName)) ∈ LW := LW_mem (mt_8 (List.mem_of_getElem? (i := 0) rfl)) rfl
theorem t8_1 : (Jvm.Cond.instanceMethod ({ cls := "TrigramReadersModel", name := "foundOrder", desc := "(IIII)I" } : Jvm.MethodName)) ∈ LW := LW_mem (mt_8 (List.mem_of_getElem? (i := 1) rfl)) rfl
theorem t8_2 : (Jvm.Cond.selects "TrigramReadersModel" ({ cls := "TrigramReadersModel", name := "foundOrder", desc := "(IIII)I" } : Jvm.MethodName) ({ cls := "TrigramReadersModel", name := "foundOrder", desc := "(IIII)I" } : Jvm.MethodName)) ∈ LW := LW_mem (mt_8 (List.mem_of_getElem? (i := 2) rfl)) rfl
theorem t8_3 : (Jvm.Cond.code ({ cls := "TrigramReadersModel", name := "foundOrder", desc := "(IIII)I" } : Jvm.MethodName) prog_11_method_94_code (5 : Nat) (Option.some Jvm.ClassFile.FieldType.int)) ∈ LW := LW_mem (mt_8 (List.mem_of_getElem? (i := 3) rfl)) rfl
theorem t8_4 : (Jvm.Cond.methodLink "TrigramReadersModel" (335 : Nat) ({ cls := "TrigramReadersModel", name := "found", desc := "([IIIII)I" } : Jvm.MethodName)) ∈ LW := LW_mem (mt_8 (List.mem_of_getElem? (i := 4) rfl)) rfl
theorem t8_6 : (Jvm.Cond.instanceMethod ({ cls := "TrigramReadersModel", name := "found", desc := "([IIIII)I" } : Jvm.MethodName)) ∈ LW := LW_mem (mt_8 (List.mem_of_getElem? (i := 6) rfl)) rfl
theorem t8_7 : (Jvm.Cond.code ({ cls := "TrigramReadersModel", name := "found", desc := "([IIIII)I" } : Jvm.MethodName) prog_11_method_27_code (7 : Nat) (Option.some Jvm.ClassFile.FieldType.int)) ∈ LW := LW_mem (mt_8 (List.mem_of_getElem? (i := 7) rfl)) rfl
theorem t8_8 : (Jvm.Cond.methodLink "TrigramReadersLaw" (292 : Nat) ({ cls := "TrigramReadersModel", name := "escapes", desc := "(IIII)I" } : Jvm.MethodName)) ∈ LW := LW_mem (mt_8 (List.mem_of_getElem? (i := 8) rfl)) rfl
theorem t8_9 : (Jvm.Cond.instanceMethod ({ cls := "TrigramReadersModel", name := "escapes", desc := "(IIII)I" } : Jvm.MethodName)) ∈ LW := LW_mem (mt_8 (List.mem_of_getElem? (i := 9) rfl)) rfl
theorem t8_10 : (Jvm.Cond.selects "TrigramReadersModel" ({ cls := "TrigramReadersModel", name := "escapes", desc := "(IIII)I" } : Jvm.MethodName) ({ cls := "TrigramReadersModel", name := "escapes", desc := "(IIII)I" } : Jvm.MethodName)) ∈ LW := LW_mem (mt_8 (List.mem_of_getElem? (i := 10) rfl)) rfl
theorem t8_11 : (Jvm.Cond.code ({ cls := "TrigramReadersModel", name := "escapes", desc := "(IIII)I" } : Jvm.MethodName) prog_11_method_95_code (5 : Nat) (Option.some Jvm.ClassFile.FieldType.int)) ∈ LW := LW_mem (mt_8 (List.mem_of_getElem? (i := 11) rfl)) rfl
theorem t8_12 : (Jvm.Cond.methodLink "TrigramReadersModel" (339 : Nat) ({ cls := "TrigramReadersModel", name := "reckon", desc := "(IIII)V" } : Jvm.MethodName)) ∈ LW := LW_mem (mt_8 (List.mem_of_getElem? (i := 12) rfl)) rfl
theorem t8_14 : (Jvm.Cond.instanceMethod ({ cls := "TrigramReadersModel", name := "reckon", desc := "(IIII)V" } : Jvm.MethodName)) ∈ LW := LW_mem (mt_8 (List.mem_of_getElem? (i := 14) rfl)) rfl
theorem t8_15 : (Jvm.Cond.code ({ cls := "TrigramReadersModel", name := "reckon", desc := "(IIII)V" } : Jvm.MethodName) prog_11_method_35_code (9 : Nat) (Option.none : Option Jvm.ClassFile.FieldType)) ∈ LW := LW_mem (mt_8 (List.mem_of_getElem? (i := 15) rfl)) rfl
theorem t8_16 : (Jvm.Cond.methodLink "TrigramReadersModel" (176 : Nat) ({ cls := "TrigramReadersModel", name := "manyAt", desc := "(I)I" } : Jvm.MethodName)) ∈ LW := LW_mem (mt_8 (List.mem_of_getElem? (i := 16) rfl)) rfl
theorem t8_18 : (Jvm.Cond.instanceMethod ({ cls := "TrigramReadersModel", name := "manyAt", desc := "(I)I" } : Jvm.MethodName)) ∈ LW := LW_mem (mt_8 (List.mem_of_getElem? (i := 18) rfl)) rfl
theorem t8_19 : (Jvm.Cond.code ({ cls := "TrigramReadersModel", name := "manyAt", desc := "(I)I" } : Jvm.MethodName) prog_11_method_32_code (4 : Nat) (Option.some Jvm.ClassFile.FieldType.int)) ∈ LW := LW_mem (mt_8 (List.mem_of_getElem? (i := 19) rfl)) rfl
theorem t8_20 : (Jvm.Cond.methodLink "TrigramReadersModel" (163 : Nat) ({ cls := "TrigramReadersModel", name := "isThere", desc := "(II)Z" } : Jvm.MethodName)) ∈ LW := LW_mem (mt_8 (List.mem_of_getElem? (i := 20) rfl)) rfl
theorem t8_22 : (Jvm.Cond.instanceMethod ({ cls := "TrigramReadersModel", name := "isThere", desc := "(II)Z" } : Jvm.MethodName)) ∈ LW := LW_mem (mt_8 (List.mem_of_getElem? (i := 22) rfl)) rfl
theorem t8_23 : (Jvm.Cond.code ({ cls := "TrigramReadersModel", name := "isThere", desc := "(II)Z" } : Jvm.MethodName) prog_11_method_30_code (3 : Nat) (Option.some Jvm.ClassFile.FieldType.boolean)) ∈ LW := LW_mem (mt_8 (List.mem_of_getElem? (i := 23) rfl)) rfl
theorem t8_24 : (Jvm.Cond.methodLink "TrigramReadersModel" (179 : Nat) ({ cls := "TrigramReadersModel", name := "sumAt", desc := "(I)I" } : Jvm.MethodName)) ∈ LW := LW_mem (mt_8 (List.mem_of_getElem? (i := 24) rfl)) rfl
theorem t8_26 : (Jvm.Cond.instanceMethod ({ cls := "TrigramReadersModel", name := "sumAt", desc := "(I)I" } : Jvm.MethodName)) ∈ LW := LW_mem (mt_8 (List.mem_of_getElem? (i := 26) rfl)) rfl
theorem t8_27 : (Jvm.Cond.code ({ cls := "TrigramReadersModel", name := "sumAt", desc := "(I)I" } : Jvm.MethodName) prog_11_method_31_code (4 : Nat) (Option.some Jvm.ClassFile.FieldType.int)) ∈ LW := LW_mem (mt_8 (List.mem_of_getElem? (i := 27) rfl)) rfl
theorem t8_28 : (Jvm.Cond.methodLink "TrigramReadersModel" (182 : Nat) ({ cls := "TrigramReadersModel", name := "factor", desc := "(IIII)V" } : Jvm.MethodName)) ∈ LW := LW_mem (mt_8 (List.mem_of_getElem? (i := 28) rfl)) rfl
theorem t8_30 : (Jvm.Cond.instanceMethod ({ cls := "TrigramReadersModel", name := "factor", desc := "(IIII)V" } : Jvm.MethodName)) ∈ LW := LW_mem (mt_8 (List.mem_of_getElem? (i := 30) rfl)) rfl
theorem t8_31 : (Jvm.Cond.code ({ cls := "TrigramReadersModel", name := "factor", desc := "(IIII)V" } : Jvm.MethodName) prog_11_method_33_code (6 : Nat) (Option.none : Option Jvm.ClassFile.FieldType)) ∈ LW := LW_mem (mt_8 (List.mem_of_getElem? (i := 31) rfl)) rfl
theorem t8_32 : (Jvm.Cond.methodLink "TrigramReadersModel" (167 : Nat) ({ cls := "TrigramReadersModel", name := "times", desc := "(JJ)V" } : Jvm.MethodName)) ∈ LW := LW_mem (mt_8 (List.mem_of_getElem? (i := 32) rfl)) rfl
theorem t8_34 : (Jvm.Cond.instanceMethod ({ cls := "TrigramReadersModel", name := "times", desc := "(JJ)V" } : Jvm.MethodName)) ∈ LW := LW_mem (mt_8 (List.mem_of_getElem? (i := 34) rfl)) rfl
theorem t8_35 : (Jvm.Cond.code ({ cls := "TrigramReadersModel", name := "times", desc := "(JJ)V" } : Jvm.MethodName) prog_11_method_29_code (7 : Nat) (Option.none : Option Jvm.ClassFile.FieldType)) ∈ LW := LW_mem (mt_8 (List.mem_of_getElem? (i := 35) rfl)) rfl
theorem t8_36 : (Jvm.Cond.methodLink "TrigramReadersModel" (159 : Nat) ({ cls := "TrigramReadersModel", name := "divisor", desc := "(JJ)J" } : Jvm.MethodName)) ∈ LW := LW_mem (mt_8 (List.mem_of_getElem? (i := 36) rfl)) rfl
theorem t8_37 : (Jvm.Cond.static ({ cls := "TrigramReadersModel", name := "divisor", desc := "(JJ)J" } : Jvm.MethodName)) ∈ LW := LW_mem (mt_8 (List.mem_of_getElem? (i := 37) rfl)) rfl
theorem t8_38 : (Jvm.Cond.code ({ cls := "TrigramReadersModel", name := "divisor", desc := "(JJ)J" } : Jvm.MethodName) prog_11_method_28_code (10 : Nat) (Option.some Jvm.ClassFile.FieldType.long)) ∈ LW := LW_mem (mt_8 (List.mem_of_getElem? (i := 38) rfl)) rfl
theorem t8_39 : (Jvm.Cond.constantLong "TrigramReadersModel" (171 : Nat) (2 : Int64)) ∈ LW := LW_mem (mt_8 (List.mem_of_getElem? (i := 39) rfl)) rfl
theorem t8_40 : (Jvm.Cond.methodLink "TrigramReadersModel" (186 : Nat) ({ cls := "TrigramReadersModel", name := "exclude", desc := "(I)V" } : Jvm.MethodName)) ∈ LW := LW_mem (mt_8 (List.mem_of_getElem? (i := 40) rfl)) rfl
theorem t8_42 : (Jvm.Cond.instanceMethod ({ cls := "TrigramReadersModel", name := "exclude", desc := "(I)V" } : Jvm.MethodName)) ∈ LW := LW_mem (mt_8 (List.mem_of_getElem? (i := 42) rfl)) rfl
theorem t8_43 : (Jvm.Cond.code ({ cls := "TrigramReadersModel", name := "exclude", desc := "(I)V" } : Jvm.MethodName) prog_11_method_34_code (3 : Nat) (Option.none : Option Jvm.ClassFile.FieldType)) ∈ LW := LW_mem (mt_8 (List.mem_of_getElem? (i := 43) rfl)) rfl
theorem t8_44 : (Jvm.Cond.methodLink "TrigramReadersLaw" (295 : Nat) ({ cls := "TrigramReadersModel", name := "numerator", desc := "(IIII)J" } : Jvm.MethodName)) ∈ LW := LW_mem (mt_8 (List.mem_of_getElem? (i := 44) rfl)) rfl
theorem t8_45 : (Jvm.Cond.instanceMethod ({ cls := "TrigramReadersModel", name := "numerator", desc := "(IIII)J" } : Jvm.MethodName)) ∈ LW := LW_mem (mt_8 (List.mem_of_getElem? (i := 45) rfl)) rfl
theorem t8_46 : (Jvm.Cond.selects "TrigramReadersModel" ({ cls := "TrigramReadersModel", name := "numerator", desc := "(IIII)J" } : Jvm.MethodName) ({ cls := "TrigramReadersModel", name := "numerator", desc := "(IIII)J" } : Jvm.MethodName)) ∈ LW := LW_mem (mt_8 (List.mem_of_getElem? (i := 46) rfl)) rfl
theorem t8_47 : (Jvm.Cond.code ({ cls := "TrigramReadersModel", name := "numerator", desc := "(IIII)J" } : Jvm.MethodName) prog_11_method_96_code (5 : Nat) (Option.some Jvm.ClassFile.FieldType.long)) ∈ LW := LW_mem (mt_8 (List.mem_of_getElem? (i := 47) rfl)) rfl
theorem t8_48 : (Jvm.Cond.methodLink "TrigramReadersLaw" (298 : Nat) ({ cls := "TrigramReadersModel", name := "denominator", desc := "(IIII)J" } : Jvm.MethodName)) ∈ LW := LW_mem (mt_8 (List.mem_of_getElem? (i := 48) rfl)) rfl
theorem t8_49 : (Jvm.Cond.instanceMethod ({ cls := "TrigramReadersModel", name := "denominator", desc := "(IIII)J" } : Jvm.MethodName)) ∈ LW := LW_mem (mt_8 (List.mem_of_getElem? (i := 49) rfl)) rfl
theorem t8_50 : (Jvm.Cond.selects "TrigramReadersModel" ({ cls := "TrigramReadersModel", name := "denominator", desc := "(IIII)J" } : Jvm.MethodName) ({ cls := "TrigramReadersModel", name := "denominator", desc := "(IIII)J" } : Jvm.MethodName)) ∈ LW := LW_mem (mt_8 (List.mem_of_getElem? (i := 50) rfl)) rfl
theorem t8_51 : (Jvm.Cond.code ({ cls := "TrigramReadersModel", name := "denominator", desc := "(IIII)J" } : Jvm.MethodName) prog_11_method_97_code (5 : Nat) (Option.some Jvm.ClassFile.FieldType.long)) ∈ LW := LW_mem (mt_8 (List.mem_of_getElem? (i := 51) rfl)) rfl
theorem t8_52 : (Jvm.Cond.methodLink "TrigramReadersLaw" (302 : Nat) ({ cls := "TrigramReadersModel", name := "probability", desc := "(IIII)D" } : Jvm.MethodName)) ∈ LW := LW_mem (mt_8 (List.mem_of_getElem? (i := 52) rfl)) rfl
theorem t8_53 : (Jvm.Cond.instanceMethod ({ cls := "TrigramReadersModel", name := "probability", desc := "(IIII)D" } : Jvm.MethodName)) ∈ LW := LW_mem (mt_8 (List.mem_of_getElem? (i := 53) rfl)) rfl
theorem t8_54 : (Jvm.Cond.selects "TrigramReadersModel" ({ cls := "TrigramReadersModel", name := "probability", desc := "(IIII)D" } : Jvm.MethodName) ({ cls := "TrigramReadersModel", name := "probability", desc := "(IIII)D" } : Jvm.MethodName)) ∈ LW := LW_mem (mt_8 (List.mem_of_getElem? (i := 54) rfl)) rfl
theorem t8_55 : (Jvm.Cond.code ({ cls := "TrigramReadersModel", name := "probability", desc := "(IIII)D" } : Jvm.MethodName) prog_11_method_98_code (5 : Nat) (Option.some Jvm.ClassFile.FieldType.double)) ∈ LW := LW_mem (mt_8 (List.mem_of_getElem? (i := 55) rfl)) rfl
theorem t8_56 : (Jvm.Cond.methodLink "TrigramReadersLaw" (305 : Nat) ({ cls := "TrigramReadersModel", name := "codeLength", desc := "(IIII)I" } : Jvm.MethodName)) ∈ LW := LW_mem (mt_8 (List.mem_of_getElem? (i := 56) rfl)) rfl
theorem t8_57 : (Jvm.Cond.instanceMethod ({ cls := "TrigramReadersModel", name := "codeLength", desc := "(IIII)I" } : Jvm.MethodName)) ∈ LW := LW_mem (mt_8 (List.mem_of_getElem? (i := 57) rfl)) rfl
theorem t8_58 : (Jvm.Cond.selects "TrigramReadersModel" ({ cls := "TrigramReadersModel", name := "codeLength", desc := "(IIII)I" } : Jvm.MethodName) ({ cls := "TrigramReadersModel", name := "codeLength", desc := "(IIII)I" } : Jvm.MethodName)) ∈ LW := LW_mem (mt_8 (List.mem_of_getElem? (i := 58) rfl)) rfl
theorem t8_59 : (Jvm.Cond.code ({ cls := "TrigramReadersModel", name := "codeLength", desc := "(IIII)I" } : Jvm.MethodName) prog_11_method_99_code (5 : Nat) (Option.some Jvm.ClassFile.FieldType.int)) ∈ LW := LW_mem (mt_8 (List.mem_of_getElem? (i := 59) rfl)) rfl
theorem t8_60 : (Jvm.Cond.methodLink "TrigramReadersModel" (342 : Nat) ({ cls := "TrigramReadersModel", name := "codeBits", desc := "()I" } : Jvm.MethodName)) ∈ LW := LW_mem (mt_8 (List.mem_of_getElem? (i := 60) rfl)) rfl
theorem t8_62 : (Jvm.Cond.instanceMethod ({ cls := "TrigramReadersModel", name := "codeBits", desc := "()I" } : Jvm.MethodName)) ∈ LW := LW_mem (mt_8 (List.mem_of_getElem? (i := 62) rfl)) rfl
theorem t8_63 : (Jvm.Cond.code ({ cls := "TrigramReadersModel", name := "codeBits", desc := "()I" } : Jvm.MethodName) prog_11_method_36_code (4 : Nat) (Option.some Jvm.ClassFile.FieldType.int)) ∈ LW := LW_mem (mt_8 (List.mem_of_getElem? (i := 63) rfl)) rfl
theorem t8_64 : (Jvm.Cond.methodLink "TrigramReadersLaw" (308 : Nat) ({ cls := "TrigramReadersModel", name := "rankAt", desc := "(III)I" } : Jvm.MethodName)) ∈ LW := LW_mem (mt_8 (List.mem_of_getElem? (i := 64) rfl)) rfl
theorem t8_65 : (Jvm.Cond.instanceMethod ({ cls := "TrigramReadersModel", name := "rankAt", desc := "(III)I" } : Jvm.MethodName)) ∈ LW := LW_mem (mt_8 (List.mem_of_getElem? (i := 65) rfl)) rfl
theorem t8_66 : (Jvm.Cond.selects "TrigramReadersModel" ({ cls := "TrigramReadersModel", name := "rankAt", desc := "(III)I" } : Jvm.MethodName) ({ cls := "TrigramReadersModel", name := "rankAt", desc := "(III)I" } : Jvm.MethodName)) ∈ LW := LW_mem (mt_8 (List.mem_of_getElem? (i := 66) rfl)) rfl
theorem t8_67 : (Jvm.Cond.code ({ cls := "TrigramReadersModel", name := "rankAt", desc := "(III)I" } : Jvm.MethodName) prog_11_method_100_code (4 : Nat) (Option.some Jvm.ClassFile.FieldType.int)) ∈ LW := LW_mem (mt_8 (List.mem_of_getElem? (i := 67) rfl)) rfl
theorem t8_68 : (Jvm.Cond.methodLink "TrigramReadersModel" (148 : Nat) ({ cls := "TrigramReadersModel", name := "rankIn", desc := "([IIII)I" } : Jvm.MethodName)) ∈ LW := LW_mem (mt_8 (List.mem_of_getElem? (i := 68) rfl)) rfl
theorem t8_70 : (Jvm.Cond.instanceMethod ({ cls := "TrigramReadersModel", name := "rankIn", desc := "([IIII)I" } : Jvm.MethodName)) ∈ LW := LW_mem (mt_8 (List.mem_of_getElem? (i := 70) rfl)) rfl
theorem t8_71 : (Jvm.Cond.code ({ cls := "TrigramReadersModel", name := "rankIn", desc := "([IIII)I" } : Jvm.MethodName) prog_11_method_25_code (5 : Nat) (Option.some Jvm.ClassFile.FieldType.int)) ∈ LW := LW_mem (mt_8 (List.mem_of_getElem? (i := 71) rfl)) rfl
theorem t8_72 : (Jvm.Cond.methodLink "TrigramReadersLaw" (311 : Nat) ({ cls := "TrigramReadersModel", name := "totalGuesses", desc := "(II)I" } : Jvm.MethodName)) ∈ LW := LW_mem (mt_8 (List.mem_of_getElem? (i := 72) rfl)) rfl
theorem t8_73 : (Jvm.Cond.instanceMethod ({ cls := "TrigramReadersModel", name := "totalGuesses", desc := "(II)I" } : Jvm.MethodName)) ∈ LW := LW_mem (mt_8 (List.mem_of_getElem? (i := 73) rfl)) rfl
theorem t8_74 : (Jvm.Cond.selects "TrigramReadersModel" ({ cls := "TrigramReadersModel", name := "totalGuesses", desc := "(II)I" } : Jvm.MethodName) ({ cls := "TrigramReadersModel", name := "totalGuesses", desc := "(II)I" } : Jvm.MethodName)) ∈ LW := LW_mem (mt_8 (List.mem_of_getElem? (i := 74) rfl)) rfl
theorem t8_75 : (Jvm.Cond.code ({ cls := "TrigramReadersModel", name := "totalGuesses", desc := "(II)I" } : Jvm.MethodName) prog_11_method_101_code (3 : Nat) (Option.some Jvm.ClassFile.FieldType.int)) ∈ LW := LW_mem (mt_8 (List.mem_of_getElem? (i := 75) rfl)) rfl
theorem t8_76 : (Jvm.Cond.methodLink "TrigramReadersModel" (345 : Nat) ({ cls := "TrigramReadersModel", name := "guesses", desc := "([III)I" } : Jvm.MethodName)) ∈ LW := LW_mem (mt_8 (List.mem_of_getElem? (i := 76) rfl)) rfl
theorem t8_78 : (Jvm.Cond.instanceMethod ({ cls := "TrigramReadersModel", name := "guesses", desc := "([III)I" } : Jvm.MethodName)) ∈ LW := LW_mem (mt_8 (List.mem_of_getElem? (i := 78) rfl)) rfl
theorem t8_79 : (Jvm.Cond.code ({ cls := "TrigramReadersModel", name := "guesses", desc := "([III)I" } : Jvm.MethodName) prog_11_method_26_code (6 : Nat) (Option.some Jvm.ClassFile.FieldType.int)) ∈ LW := LW_mem (mt_8 (List.mem_of_getElem? (i := 79) rfl)) rfl
theorem t8_80 : (Jvm.Cond.methodLink "TrigramReadersLaw" (314 : Nat) ({ cls := "TrigramReadersModel", name := "adaptiveGuesses", desc := "(II)I" } : Jvm.MethodName)) ∈ LW := LW_mem (mt_8 (List.mem_of_getElem? (i := 80) rfl)) rfl
theorem t8_81 : (Jvm.Cond.instanceMethod ({ cls := "TrigramReadersModel", name := "adaptiveGuesses", desc := "(II)I" } : Jvm.MethodName)) ∈ LW := LW_mem (mt_8 (List.mem_of_getElem? (i := 81) rfl)) rfl
theorem t8_82 : (Jvm.Cond.selects "TrigramReadersModel" ({ cls := "TrigramReadersModel", name := "adaptiveGuesses", desc := "(II)I" } : Jvm.MethodName) ({ cls := "TrigramReadersModel", name := "adaptiveGuesses", desc := "(II)I" } : Jvm.MethodName)) ∈ LW := LW_mem (mt_8 (List.mem_of_getElem? (i := 82) rfl)) rfl
theorem t8_83 : (Jvm.Cond.code ({ cls := "TrigramReadersModel", name := "adaptiveGuesses", desc := "(II)I" } : Jvm.MethodName) prog_11_method_104_code (3 : Nat) (Option.some Jvm.ClassFile.FieldType.int)) ∈ LW := LW_mem (mt_8 (List.mem_of_getElem? (i := 83) rfl)) rfl
theorem t8_84 : (Jvm.Cond.methodLink "TrigramReadersModel" (348 : Nat) ({ cls := "TrigramReadersModel", name := "tries", desc := "()V" } : Jvm.MethodName)) ∈ LW := LW_mem (mt_8 (List.mem_of_getElem? (i := 84) rfl)) rfl
theorem t8_86 : (Jvm.Cond.instanceMethod ({ cls := "TrigramReadersModel", name := "tries", desc := "()V" } : Jvm.MethodName)) ∈ LW := LW_mem (mt_8 (List.mem_of_getElem? (i := 86) rfl)) rfl
theorem t8_87 : (Jvm.Cond.code ({ cls := "TrigramReadersModel", name := "tries", desc := "()V" } : Jvm.MethodName) prog_11_method_103_code (1 : Nat) (Option.none : Option Jvm.ClassFile.FieldType)) ∈ LW := LW_mem (mt_8 (List.mem_of_getElem? (i := 87) rfl)) rfl
theorem t8_88 : (Jvm.Cond.methodLink "TrigramReadersModel" (351 : Nat) ({ cls := "TrigramReadersModel", name := "learnAll", desc := "([III)I" } : Jvm.MethodName)) ∈ LW := LW_mem (mt_8 (List.mem_of_getElem? (i := 88) rfl)) rfl
theorem t8_90 : (Jvm.Cond.instanceMethod ({ cls := "TrigramReadersModel", name := "learnAll", desc := "([III)I" } : Jvm.MethodName)) ∈ LW := LW_mem (mt_8 (List.mem_of_getElem? (i := 90) rfl)) rfl
theorem t8_91 : (Jvm.Cond.code ({ cls := "TrigramReadersModel", name := "learnAll", desc := "([III)I" } : Jvm.MethodName) prog_11_method_102_code (6 : Nat) (Option.some Jvm.ClassFile.FieldType.int)) ∈ LW := LW_mem (mt_8 (List.mem_of_getElem? (i := 91) rfl)) rfl
theorem t8_92 : (Jvm.Cond.methodLink "TrigramReadersLaw" (317 : Nat) ({ cls := "TrigramReadersModel", name := "firstGuessHits", desc := "(II)I" } : Jvm.MethodName)) ∈ LW := LW_mem (mt_8 (List.mem_of_getElem? (i := 92) rfl)) rfl
theorem t8_93 : (Jvm.Cond.instanceMethod ({ cls := "TrigramReadersModel", name := "firstGuessHits", desc := "(II)I" } : Jvm.MethodName)) ∈ LW := LW_mem (mt_8 (List.mem_of_getElem? (i := 93) rfl)) rfl
theorem t8_94 : (Jvm.Cond.selects "TrigramReadersModel" ({ cls := "TrigramReadersModel", name := "firstGuessHits", desc := "(II)I" } : Jvm.MethodName) ({ cls := "TrigramReadersModel", name := "firstGuessHits", desc := "(II)I" } : Jvm.MethodName)) ∈ LW := LW_mem (mt_8 (List.mem_of_getElem? (i := 94) rfl)) rfl
theorem t8_95 : (Jvm.Cond.code ({ cls := "TrigramReadersModel", name := "firstGuessHits", desc := "(II)I" } : Jvm.MethodName) prog_11_method_106_code (3 : Nat) (Option.some Jvm.ClassFile.FieldType.int)) ∈ LW := LW_mem (mt_8 (List.mem_of_getElem? (i := 95) rfl)) rfl
theorem t8_96 : (Jvm.Cond.methodLink "TrigramReadersModel" (354 : Nat) ({ cls := "TrigramReadersModel", name := "hits", desc := "(II)I" } : Jvm.MethodName)) ∈ LW := LW_mem (mt_8 (List.mem_of_getElem? (i := 96) rfl)) rfl
theorem t8_98 : (Jvm.Cond.instanceMethod ({ cls := "TrigramReadersModel", name := "hits", desc := "(II)I" } : Jvm.MethodName)) ∈ LW := LW_mem (mt_8 (List.mem_of_getElem? (i := 98) rfl)) rfl
theorem t8_99 : (Jvm.Cond.code ({ cls := "TrigramReadersModel", name := "hits", desc := "(II)I" } : Jvm.MethodName) prog_11_method_105_code (5 : Nat) (Option.some Jvm.ClassFile.FieldType.int)) ∈ LW := LW_mem (mt_8 (List.mem_of_getElem? (i := 99) rfl)) rfl
theorem t8_100 : (Jvm.Cond.methodLink "TrigramReadersLaw" (320 : Nat) ({ cls := "TrigramReadersModel", name := "unseenSymbols", desc := "(II)I" } : Jvm.MethodName)) ∈ LW := LW_mem (mt_8 (List.mem_of_getElem? (i := 100) rfl)) rfl
theorem t8_101 : (Jvm.Cond.instanceMethod ({ cls := "TrigramReadersModel", name := "unseenSymbols", desc := "(II)I" } : Jvm.MethodName)) ∈ LW := LW_mem (mt_8 (List.mem_of_getElem? (i := 101) rfl)) rfl
theorem t8_102 : (Jvm.Cond.selects "TrigramReadersModel" ({ cls := "TrigramReadersModel", name := "unseenSymbols", desc := "(II)I" } : Jvm.MethodName) ({ cls := "TrigramReadersModel", name := "unseenSymbols", desc := "(II)I" } : Jvm.MethodName)) ∈ LW := LW_mem (mt_8 (List.mem_of_getElem? (i := 102) rfl)) rfl
theorem t8_103 : (Jvm.Cond.code ({ cls := "TrigramReadersModel", name := "unseenSymbols", desc := "(II)I" } : Jvm.MethodName) prog_11_method_107_code (5 : Nat) (Option.some Jvm.ClassFile.FieldType.int)) ∈ LW := LW_mem (mt_8 (List.mem_of_getElem? (i := 103) rfl)) rfl
theorem t8_104 : (Jvm.Cond.methodLink "TrigramReadersLaw" (323 : Nat) ({ cls := "TrigramReadersModel", name := "hardestPosition", desc := "(II)I" } : Jvm.MethodName)) ∈ LW := LW_mem (mt_8 (List.mem_of_getElem? (i := 104) rfl)) rfl
theorem t8_105 : (Jvm.Cond.instanceMethod ({ cls := "TrigramReadersModel", name := "hardestPosition", desc := "(II)I" } : Jvm.MethodName)) ∈ LW := LW_mem (mt_8 (List.mem_of_getElem? (i := 105) rfl)) rfl
theorem t8_106 : (Jvm.Cond.selects "TrigramReadersModel" ({ cls := "TrigramReadersModel", name := "hardestPosition", desc := "(II)I" } : Jvm.MethodName) ({ cls := "TrigramReadersModel", name := "hardestPosition", desc := "(II)I" } : Jvm.MethodName)) ∈ LW := LW_mem (mt_8 (List.mem_of_getElem? (i := 106) rfl)) rfl
theorem t8_107 : (Jvm.Cond.code ({ cls := "TrigramReadersModel", name := "hardestPosition", desc := "(II)I" } : Jvm.MethodName) prog_11_method_108_code (7 : Nat) (Option.some Jvm.ClassFile.FieldType.int)) ∈ LW := LW_mem (mt_8 (List.mem_of_getElem? (i := 107) rfl)) rfl
theorem t8_108 : (Jvm.Cond.methodLink "TrigramReadersLaw" (326 : Nat) ({ cls := "TrigramReadersModel", name := "totalBits", desc := "(II)I" } : Jvm.MethodName)) ∈ LW := LW_mem (mt_8 (List.mem_of_getElem? (i := 108) rfl)) rfl
theorem t8_109 : (Jvm.Cond.instanceMethod ({ cls := "TrigramReadersModel", name := "totalBits", desc := "(II)I" } : Jvm.MethodName)) ∈ LW := LW_mem (mt_8 (List.mem_of_getElem? (i := 109) rfl)) rfl
theorem t8_110 : (Jvm.Cond.selects "TrigramReadersModel" ({ cls := "TrigramReadersModel", name := "totalBits", desc := "(II)I" } : Jvm.MethodName) ({ cls := "TrigramReadersModel", name := "totalBits", desc := "(II)I" } : Jvm.MethodName)) ∈ LW := LW_mem (mt_8 (List.mem_of_getElem? (i := 110) rfl)) rfl
theorem t8_111 : (Jvm.Cond.code ({ cls := "TrigramReadersModel", name := "totalBits", desc := "(II)I" } : Jvm.MethodName) prog_11_method_109_code (5 : Nat) (Option.some Jvm.ClassFile.FieldType.int)) ∈ LW := LW_mem (mt_8 (List.mem_of_getElem? (i := 111) rfl)) rfl
theorem t8_112 : (Jvm.Cond.methodLink "TrigramReadersLaw" (330 : Nat) ({ cls := "TrigramReadersModel", name := "meanGuesses", desc := "(II)D" } : Jvm.MethodName)) ∈ LW := LW_mem (mt_8 (List.mem_of_getElem? (i := 112) rfl)) rfl
theorem t8_113 : (Jvm.Cond.instanceMethod ({ cls := "TrigramReadersModel", name := "meanGuesses", desc := "(II)D" } : Jvm.MethodName)) ∈ LW := LW_mem (mt_8 (List.mem_of_getElem? (i := 113) rfl)) rfl
theorem t8_114 : (Jvm.Cond.selects "TrigramReadersModel" ({ cls := "TrigramReadersModel", name := "meanGuesses", desc := "(II)D" } : Jvm.MethodName) ({ cls := "TrigramReadersModel", name := "meanGuesses", desc := "(II)D" } : Jvm.MethodName)) ∈ LW := LW_mem (mt_8 (List.mem_of_getElem? (i := 114) rfl)) rfl
theorem t8_115 : (Jvm.Cond.code ({ cls := "TrigramReadersModel", name := "meanGuesses", desc := "(II)D" } : Jvm.MethodName) prog_11_method_110_code (3 : Nat) (Option.some Jvm.ClassFile.FieldType.double)) ∈ LW := LW_mem (mt_8 (List.mem_of_getElem? (i := 115) rfl)) rfl
theorem t8_116 : (Jvm.Cond.methodLink "TrigramReadersLaw" (333 : Nat) ({ cls := "TrigramReadersModel", name := "hitShare", desc := "(II)F" } : Jvm.MethodName)) ∈ LW := LW_mem (mt_8 (List.mem_of_getElem? (i := 116) rfl)) rfl
theorem t8_117 : (Jvm.Cond.instanceMethod ({ cls := "TrigramReadersModel", name := "hitShare", desc := "(II)F" } : Jvm.MethodName)) ∈ LW := LW_mem (mt_8 (List.mem_of_getElem? (i := 117) rfl)) rfl
theorem t8_118 : (Jvm.Cond.selects "TrigramReadersModel" ({ cls := "TrigramReadersModel", name := "hitShare", desc := "(II)F" } : Jvm.MethodName) ({ cls := "TrigramReadersModel", name := "hitShare", desc := "(II)F" } : Jvm.MethodName)) ∈ LW := LW_mem (mt_8 (List.mem_of_getElem? (i := 118) rfl)) rfl
theorem t8_119 : (Jvm.Cond.code ({ cls := "TrigramReadersModel", name := "hitShare", desc := "(II)F" } : Jvm.MethodName) prog_11_method_111_code (3 : Nat) (Option.some Jvm.ClassFile.FieldType.float)) ∈ LW := LW_mem (mt_8 (List.mem_of_getElem? (i := 119) rfl)) rfl
theorem t8_120 : (Jvm.Cond.methodLink "TrigramReadersLaw" (336 : Nat) ({ cls := "TrigramReadersModel", name := "bestReader", desc := "(I)I" } : Jvm.MethodName)) ∈ LW := LW_mem (mt_8 (List.mem_of_getElem? (i := 120) rfl)) rfl
theorem t8_121 : (Jvm.Cond.instanceMethod ({ cls := "TrigramReadersModel", name := "bestReader", desc := "(I)I" } : Jvm.MethodName)) ∈ LW := LW_mem (mt_8 (List.mem_of_getElem? (i := 121) rfl)) rfl
theorem t8_122 : (Jvm.Cond.selects "TrigramReadersModel" ({ cls := "TrigramReadersModel", name := "bestReader", desc := "(I)I" } : Jvm.MethodName) ({ cls := "TrigramReadersModel", name := "bestReader", desc := "(I)I" } : Jvm.MethodName)) ∈ LW := LW_mem (mt_8 (List.mem_of_getElem? (i := 122) rfl)) rfl
theorem t8_123 : (Jvm.Cond.code ({ cls := "TrigramReadersModel", name := "bestReader", desc := "(I)I" } : Jvm.MethodName) prog_11_method_112_code (6 : Nat) (Option.some Jvm.ClassFile.FieldType.int)) ∈ LW := LW_mem (mt_8 (List.mem_of_getElem? (i := 123) rfl)) rfl
theorem t8_124 : (Jvm.Cond.methodLink "TrigramReadersLaw" (339 : Nat) ({ cls := "TrigramReadersModel", name := "hardestDocument", desc := "(I)I" } : Jvm.MethodName)) ∈ LW := LW_mem (mt_8 (List.mem_of_getElem? (i := 124) rfl)) rfl
theorem t8_125 : (Jvm.Cond.instanceMethod ({ cls := "TrigramReadersModel", name := "hardestDocument", desc := "(I)I" } : Jvm.MethodName)) ∈ LW := LW_mem (mt_8 (List.mem_of_getElem? (i := 125) rfl)) rfl
theorem t8_126 : (Jvm.Cond.selects "TrigramReadersModel" ({ cls := "TrigramReadersModel", name := "hardestDocument", desc := "(I)I" } : Jvm.MethodName) ({ cls := "TrigramReadersModel", name := "hardestDocument", desc := "(I)I" } : Jvm.MethodName)) ∈ LW := LW_mem (mt_8 (List.mem_of_getElem? (i := 126) rfl)) rfl
theorem t8_127 : (Jvm.Cond.code ({ cls := "TrigramReadersModel", name := "hardestDocument", desc := "(I)I" } : Jvm.MethodName) prog_11_method_113_code (6 : Nat) (Option.some Jvm.ClassFile.FieldType.int)) ∈ LW := LW_mem (mt_8 (List.mem_of_getElem? (i := 127) rfl)) rfl
theorem t8_128 : (Jvm.Cond.methodLink "TrigramReadersLaw" (342 : Nat) ({ cls := "TrigramReadersModel", name := "guessesAfterTraining", desc := "(III)I" } : Jvm.MethodName)) ∈ LW := LW_mem (mt_8 (List.mem_of_getElem? (i := 128) rfl)) rfl
theorem t8_129 : (Jvm.Cond.instanceMethod ({ cls := "TrigramReadersModel", name := "guessesAfterTraining", desc := "(III)I" } : Jvm.MethodName)) ∈ LW := LW_mem (mt_8 (List.mem_of_getElem? (i := 129) rfl)) rfl
theorem t8_130 : (Jvm.Cond.selects "TrigramReadersModel" ({ cls := "TrigramReadersModel", name := "guessesAfterTraining", desc := "(III)I" } : Jvm.MethodName) ({ cls := "TrigramReadersModel", name := "guessesAfterTraining", desc := "(III)I" } : Jvm.MethodName)) ∈ LW := LW_mem (mt_8 (List.mem_of_getElem? (i := 130) rfl)) rfl
theorem t8_131 : (Jvm.Cond.code ({ cls := "TrigramReadersModel", name := "guessesAfterTraining", desc := "(III)I" } : Jvm.MethodName) prog_11_method_114_code (4 : Nat) (Option.some Jvm.ClassFile.FieldType.int)) ∈ LW := LW_mem (mt_8 (List.mem_of_getElem? (i := 131) rfl)) rfl
theorem t8_132 : (Jvm.Cond.methodLink "TrigramReadersLaw" (345 : Nat) ({ cls := "TrigramReadersModel", name := "trainingsNeeded", desc := "(III)I" } : Jvm.MethodName)) ∈ LW := LW_mem (mt_8 (List.mem_of_getElem? (i := 132) rfl)) rfl
theorem t8_133 : (Jvm.Cond.instanceMethod ({ cls := "TrigramReadersModel", name := "trainingsNeeded", desc := "(III)I" } : Jvm.MethodName)) ∈ LW := LW_mem (mt_8 (List.mem_of_getElem? (i := 133) rfl)) rfl
theorem t8_134 : (Jvm.Cond.selects "TrigramReadersModel" ({ cls := "TrigramReadersModel", name := "trainingsNeeded", desc := "(III)I" } : Jvm.MethodName) ({ cls := "TrigramReadersModel", name := "trainingsNeeded", desc := "(III)I" } : Jvm.MethodName)) ∈ LW := LW_mem (mt_8 (List.mem_of_getElem? (i := 134) rfl)) rfl
theorem t8_135 : (Jvm.Cond.code ({ cls := "TrigramReadersModel", name := "trainingsNeeded", desc := "(III)I" } : Jvm.MethodName) prog_11_method_115_code (5 : Nat) (Option.some Jvm.ClassFile.FieldType.int)) ∈ LW := LW_mem (mt_8 (List.mem_of_getElem? (i := 135) rfl)) rfl
theorem t8_136 : (Jvm.Cond.methodLink "TrigramReadersLaw" (348 : Nat) ({ cls := "TrigramReadersModel", name := "yearsToForget", desc := "(I)I" } : Jvm.MethodName)) ∈ LW := LW_mem (mt_8 (List.mem_of_getElem? (i := 136) rfl)) rfl
theorem t8_137 : (Jvm.Cond.instanceMethod ({ cls := "TrigramReadersModel", name := "yearsToForget", desc := "(I)I" } : Jvm.MethodName)) ∈ LW := LW_mem (mt_8 (List.mem_of_getElem? (i := 137) rfl)) rfl
theorem t8_138 : (Jvm.Cond.selects "TrigramReadersModel" ({ cls := "TrigramReadersModel", name := "yearsToForget", desc := "(I)I" } : Jvm.MethodName) ({ cls := "TrigramReadersModel", name := "yearsToForget", desc := "(I)I" } : Jvm.MethodName)) ∈ LW := LW_mem (mt_8 (List.mem_of_getElem? (i := 138) rfl)) rfl
theorem t8_139 : (Jvm.Cond.code ({ cls := "TrigramReadersModel", name := "yearsToForget", desc := "(I)I" } : Jvm.MethodName) prog_11_method_116_code (5 : Nat) (Option.some Jvm.ClassFile.FieldType.int)) ∈ LW := LW_mem (mt_8 (List.mem_of_getElem? (i := 139) rfl)) rfl
theorem t8_140 : (Jvm.Cond.methodLink "TrigramReadersLaw" (351 : Nat) ({ cls := "TrigramReadersModel", name := "agreements", desc := "(II)I" } : Jvm.MethodName)) ∈ LW := LW_mem (mt_8 (List.mem_of_getElem? (i := 140) rfl)) rfl
theorem t8_141 : (Jvm.Cond.instanceMethod ({ cls := "TrigramReadersModel", name := "agreements", desc := "(II)I" } : Jvm.MethodName)) ∈ LW := LW_mem (mt_8 (List.mem_of_getElem? (i := 141) rfl)) rfl
theorem t8_142 : (Jvm.Cond.selects "TrigramReadersModel" ({ cls := "TrigramReadersModel", name := "agreements", desc := "(II)I" } : Jvm.MethodName) ({ cls := "TrigramReadersModel", name := "agreements", desc := "(II)I" } : Jvm.MethodName)) ∈ LW := LW_mem (mt_8 (List.mem_of_getElem? (i := 142) rfl)) rfl
theorem t8_143 : (Jvm.Cond.code ({ cls := "TrigramReadersModel", name := "agreements", desc := "(II)I" } : Jvm.MethodName) prog_11_method_118_code (5 : Nat) (Option.some Jvm.ClassFile.FieldType.int)) ∈ LW := LW_mem (mt_8 (List.mem_of_getElem? (i := 143) rfl)) rfl
theorem t8_144 : (Jvm.Cond.methodLink "TrigramReadersModel" (357 : Nat) ({ cls := "TrigramReadersModel", name := "firstIn", desc := "(III)I" } : Jvm.MethodName)) ∈ LW := LW_mem (mt_8 (List.mem_of_getElem? (i := 144) rfl)) rfl
theorem t8_146 : (Jvm.Cond.instanceMethod ({ cls := "TrigramReadersModel", name := "firstIn", desc := "(III)I" } : Jvm.MethodName)) ∈ LW := LW_mem (mt_8 (List.mem_of_getElem? (i := 146) rfl)) rfl
theorem t8_147 : (Jvm.Cond.code ({ cls := "TrigramReadersModel", name := "firstIn", desc := "(III)I" } : Jvm.MethodName) prog_11_method_117_code (4 : Nat) (Option.some Jvm.ClassFile.FieldType.int)) ∈ LW := LW_mem (mt_8 (List.mem_of_getElem? (i := 147) rfl)) rfl
theorem t8_148 : (Jvm.Cond.methodLink "TrigramReadersLaw" (354 : Nat) ({ cls := "TrigramReadersModel", name := "addReader", desc := "(I)I" } : Jvm.MethodName)) ∈ LW := LW_mem (mt_8 (List.mem_of_getElem? (i := 148) rfl)) rfl
theorem t8_149 : (Jvm.Cond.instanceMethod ({ cls := "TrigramReadersModel", name := "addReader", desc := "(I)I" } : Jvm.MethodName)) ∈ LW := LW_mem (mt_8 (List.mem_of_getElem? (i := 149) rfl)) rfl
theorem t8_150 : (Jvm.Cond.selects "TrigramReadersModel" ({ cls := "TrigramReadersModel", name := "addReader", desc := "(I)I" } : Jvm.MethodName) ({ cls := "TrigramReadersModel", name := "addReader", desc := "(I)I" } : Jvm.MethodName)) ∈ LW := LW_mem (mt_8 (List.mem_of_getElem? (i := 150) rfl)) rfl
theorem t8_151 : (Jvm.Cond.code ({ cls := "TrigramReadersModel", name := "addReader", desc := "(I)I" } : Jvm.MethodName) prog_11_method_119_code (3 : Nat) (Option.some Jvm.ClassFile.FieldType.int)) ∈ LW := LW_mem (mt_8 (List.mem_of_getElem? (i := 151) rfl)) rfl
theorem t8_152 : (Jvm.Cond.methodLink "TrigramReadersLaw" (357 : Nat) ({ cls := "TrigramReadersModel", name := "addDocument", desc := "()I" } : Jvm.MethodName)) ∈ LW := LW_mem (mt_8 (List.mem_of_getElem? (i := 152) rfl)) rfl
theorem t8_153 : (Jvm.Cond.instanceMethod ({ cls := "TrigramReadersModel", name := "addDocument", desc := "()I" } : Jvm.MethodName)) ∈ LW := LW_mem (mt_8 (List.mem_of_getElem? (i := 153) rfl)) rfl
theorem t8_154 : (Jvm.Cond.selects "TrigramReadersModel" ({ cls := "TrigramReadersModel", name := "addDocument", desc := "()I" } : Jvm.MethodName) ({ cls := "TrigramReadersModel", name := "addDocument", desc := "()I" } : Jvm.MethodName)) ∈ LW := LW_mem (mt_8 (List.mem_of_getElem? (i := 154) rfl)) rfl
theorem t8_155 : (Jvm.Cond.code ({ cls := "TrigramReadersModel", name := "addDocument", desc := "()I" } : Jvm.MethodName) prog_11_method_121_code (2 : Nat) (Option.some Jvm.ClassFile.FieldType.int)) ∈ LW := LW_mem (mt_8 (List.mem_of_getElem? (i := 155) rfl)) rfl
theorem t8_156 : (Jvm.Cond.methodLink "TrigramReadersModel" (360 : Nat) ({ cls := "TrigramReadersModel", name := "isDocument", desc := "()Z" } : Jvm.MethodName)) ∈ LW := LW_mem (mt_8 (List.mem_of_getElem? (i := 156) rfl)) rfl
theorem t8_158 : (Jvm.Cond.instanceMethod ({ cls := "TrigramReadersModel", name := "isDocument", desc := "()Z" } : Jvm.MethodName)) ∈ LW := LW_mem (mt_8 (List.mem_of_getElem? (i := 158) rfl)) rfl
theorem t8_159 : (Jvm.Cond.code ({ cls := "TrigramReadersModel", name := "isDocument", desc := "()Z" } : Jvm.MethodName) prog_11_method_120_code (3 : Nat) (Option.some Jvm.ClassFile.FieldType.boolean)) ∈ LW := LW_mem (mt_8 (List.mem_of_getElem? (i := 159) rfl)) rfl
theorem t8_160 : (Jvm.Cond.methodLink "TrigramReadersLaw" (360 : Nat) ({ cls := "TrigramReadersModel", name := "train", desc := "(II)I" } : Jvm.MethodName)) ∈ LW := LW_mem (mt_8 (List.mem_of_getElem? (i := 160) rfl)) rfl
theorem t8_161 : (Jvm.Cond.instanceMethod ({ cls := "TrigramReadersModel", name := "train", desc := "(II)I" } : Jvm.MethodName)) ∈ LW := LW_mem (mt_8 (List.mem_of_getElem? (i := 161) rfl)) rfl
theorem t8_162 : (Jvm.Cond.selects "TrigramReadersModel" ({ cls := "TrigramReadersModel", name := "train", desc := "(II)I" } : Jvm.MethodName) ({ cls := "TrigramReadersModel", name := "train", desc := "(II)I" } : Jvm.MethodName)) ∈ LW := LW_mem (mt_8 (List.mem_of_getElem? (i := 162) rfl)) rfl
theorem t8_163 : (Jvm.Cond.code ({ cls := "TrigramReadersModel", name := "train", desc := "(II)I" } : Jvm.MethodName) prog_11_method_122_code (3 : Nat) (Option.some Jvm.ClassFile.FieldType.int)) ∈ LW := LW_mem (mt_8 (List.mem_of_getElem? (i := 163) rfl)) rfl
theorem t8_164 : (Jvm.Cond.methodLink "TrigramReadersLaw" (363 : Nat) ({ cls := "TrigramReadersModel", name := "learn", desc := "(II)I" } : Jvm.MethodName)) ∈ LW := LW_mem (mt_8 (List.mem_of_getElem? (i := 164) rfl)) rfl
theorem t8_165 : (Jvm.Cond.instanceMethod ({ cls := "TrigramReadersModel", name := "learn", desc := "(II)I" } : Jvm.MethodName)) ∈ LW := LW_mem (mt_8 (List.mem_of_getElem? (i := 165) rfl)) rfl
theorem t8_166 : (Jvm.Cond.selects "TrigramReadersModel" ({ cls := "TrigramReadersModel", name := "learn", desc := "(II)I" } : Jvm.MethodName) ({ cls := "TrigramReadersModel", name := "learn", desc := "(II)I" } : Jvm.MethodName)) ∈ LW := LW_mem (mt_8 (List.mem_of_getElem? (i := 166) rfl)) rfl
theorem t8_167 : (Jvm.Cond.code ({ cls := "TrigramReadersModel", name := "learn", desc := "(II)I" } : Jvm.MethodName) prog_11_method_123_code (3 : Nat) (Option.some Jvm.ClassFile.FieldType.int)) ∈ LW := LW_mem (mt_8 (List.mem_of_getElem? (i := 167) rfl)) rfl
theorem t8_168 : (Jvm.Cond.methodLink "TrigramReadersLaw" (366 : Nat) ({ cls := "TrigramReadersModel", name := "forget", desc := "(I)I" } : Jvm.MethodName)) ∈ LW := LW_mem (mt_8 (List.mem_of_getElem? (i := 168) rfl)) rfl
theorem t8_169 : (Jvm.Cond.instanceMethod ({ cls := "TrigramReadersModel", name := "forget", desc := "(I)I" } : Jvm.MethodName)) ∈ LW := LW_mem (mt_8 (List.mem_of_getElem? (i := 169) rfl)) rfl
theorem t8_170 : (Jvm.Cond.selects "TrigramReadersModel" ({ cls := "TrigramReadersModel", name := "forget", desc := "(I)I" } : Jvm.MethodName) ({ cls := "TrigramReadersModel", name := "forget", desc := "(I)I" } : Jvm.MethodName)) ∈ LW := LW_mem (mt_8 (List.mem_of_getElem? (i := 170) rfl)) rfl
theorem t8_171 : (Jvm.Cond.code ({ cls := "TrigramReadersModel", name := "forget", desc := "(I)I" } : Jvm.MethodName) prog_11_method_124_code (5 : Nat) (Option.some Jvm.ClassFile.FieldType.int)) ∈ LW := LW_mem (mt_8 (List.mem_of_getElem? (i := 171) rfl)) rfl
theorem t8_172 : (Jvm.Cond.methodLink "TrigramReadersLaw" (369 : Nat) ({ cls := "TrigramReadersModel", name := "setEscapeMethod", desc := "(II)I" } : Jvm.MethodName)) ∈ LW := LW_mem (mt_8 (List.mem_of_getElem? (i := 172) rfl)) rfl
theorem t8_173 : (Jvm.Cond.instanceMethod ({ cls := "TrigramReadersModel", name := "setEscapeMethod", desc := "(II)I" } : Jvm.MethodName)) ∈ LW := LW_mem (mt_8 (List.mem_of_getElem? (i := 173) rfl)) rfl
theorem t8_174 : (Jvm.Cond.selects "TrigramReadersModel" ({ cls := "TrigramReadersModel", name := "setEscapeMethod", desc := "(II)I" } : Jvm.MethodName) ({ cls := "TrigramReadersModel", name := "setEscapeMethod", desc := "(II)I" } : Jvm.MethodName)) ∈ LW := LW_mem (mt_8 (List.mem_of_getElem? (i := 174) rfl)) rfl
theorem t8_175 : (Jvm.Cond.code ({ cls := "TrigramReadersModel", name := "setEscapeMethod", desc := "(II)I" } : Jvm.MethodName) prog_11_method_125_code (4 : Nat) (Option.some Jvm.ClassFile.FieldType.int)) ∈ LW := LW_mem (mt_8 (List.mem_of_getElem? (i := 175) rfl)) rfl
theorem t8_176 : (Jvm.Cond.methodLink "TrigramReadersLaw" (373 : Nat) ({ cls := "TrigramReadersModel", name := "endYear", desc := "()I" } : Jvm.MethodName)) ∈ LW := LW_mem (mt_8 (List.mem_of_getElem? (i := 176) rfl)) rfl
theorem t8_177 : (Jvm.Cond.instanceMethod ({ cls := "TrigramReadersModel", name := "endYear", desc := "()I" } : Jvm.MethodName)) ∈ LW := LW_mem (mt_8 (List.mem_of_getElem? (i := 177) rfl)) rfl
theorem t8_178 : (Jvm.Cond.selects "TrigramReadersModel" ({ cls := "TrigramReadersModel", name := "endYear", desc := "()I" } : Jvm.MethodName) ({ cls := "TrigramReadersModel", name := "endYear", desc := "()I" } : Jvm.MethodName)) ∈ LW := LW_mem (mt_8 (List.mem_of_getElem? (i := 178) rfl)) rfl
theorem t8_179 : (Jvm.Cond.code ({ cls := "TrigramReadersModel", name := "endYear", desc := "()I" } : Jvm.MethodName) prog_11_method_126_code (1 : Nat) (Option.some Jvm.ClassFile.FieldType.int)) ∈ LW := LW_mem (mt_8 (List.mem_of_getElem? (i := 179) rfl)) rfl
theorem t8_180 : (Jvm.Cond.methodLink "TrigramReadersLaw" (376 : Nat) ({ cls := "TrigramReadersModel", name := "merge", desc := "(II)I" } : Jvm.MethodName)) ∈ LW := LW_mem (mt_8 (List.mem_of_getElem? (i := 180) rfl)) rfl
theorem t8_181 : (Jvm.Cond.instanceMethod ({ cls := "TrigramReadersModel", name := "merge", desc := "(II)I" } : Jvm.MethodName)) ∈ LW := LW_mem (mt_8 (List.mem_of_getElem? (i := 181) rfl)) rfl
theorem t8_182 : (Jvm.Cond.selects "TrigramReadersModel" ({ cls := "TrigramReadersModel", name := "merge", desc := "(II)I" } : Jvm.MethodName) ({ cls := "TrigramReadersModel", name := "merge", desc := "(II)I" } : Jvm.MethodName)) ∈ LW := LW_mem (mt_8 (List.mem_of_getElem? (i := 182) rfl)) rfl
theorem t8_183 : (Jvm.Cond.code ({ cls := "TrigramReadersModel", name := "merge", desc := "(II)I" } : Jvm.MethodName) prog_11_method_127_code (4 : Nat) (Option.some Jvm.ClassFile.FieldType.int)) ∈ LW := LW_mem (mt_8 (List.mem_of_getElem? (i := 183) rfl)) rfl
theorem t8_184 : (Jvm.Cond.methodLink "TrigramReadersLaw" (379 : Nat) ({ cls := "TrigramReadersModel", name := "encode", desc := "(II)I" } : Jvm.MethodName)) ∈ LW := LW_mem (mt_8 (List.mem_of_getElem? (i := 184) rfl)) rfl
theorem t8_185 : (Jvm.Cond.instanceMethod ({ cls := "TrigramReadersModel", name := "encode", desc := "(II)I" } : Jvm.MethodName)) ∈ LW := LW_mem (mt_8 (List.mem_of_getElem? (i := 185) rfl)) rfl
theorem t8_186 : (Jvm.Cond.selects "TrigramReadersModel" ({ cls := "TrigramReadersModel", name := "encode", desc := "(II)I" } : Jvm.MethodName) ({ cls := "TrigramReadersModel", name := "encode", desc := "(II)I" } : Jvm.MethodName)) ∈ LW := LW_mem (mt_8 (List.mem_of_getElem? (i := 186) rfl)) rfl
theorem t8_187 : (Jvm.Cond.code ({ cls := "TrigramReadersModel", name := "encode", desc := "(II)I" } : Jvm.MethodName) prog_11_method_130_code (5 : Nat) (Option.some Jvm.ClassFile.FieldType.int)) ∈ LW := LW_mem (mt_8 (List.mem_of_getElem? (i := 187) rfl)) rfl
theorem t8_188 : (Jvm.Cond.methodLink "TrigramReadersModel" (367 : Nat) ({ cls := "TrigramReadersModel", name := "print", desc := "(I)V" } : Jvm.MethodName)) ∈ LW := LW_mem (mt_8 (List.mem_of_getElem? (i := 188) rfl)) rfl
theorem t8_190 : (Jvm.Cond.instanceMethod ({ cls := "TrigramReadersModel", name := "print", desc := "(I)V" } : Jvm.MethodName)) ∈ LW := LW_mem (mt_8 (List.mem_of_getElem? (i := 190) rfl)) rfl
theorem t8_191 : (Jvm.Cond.code ({ cls := "TrigramReadersModel", name := "print", desc := "(I)V" } : Jvm.MethodName) prog_11_method_128_code (2 : Nat) (Option.none : Option Jvm.ClassFile.FieldType)) ∈ LW := LW_mem (mt_8 (List.mem_of_getElem? (i := 191) rfl)) rfl
theorem t8_192 : (Jvm.Cond.methodLink "TrigramReadersLaw" (382 : Nat) ({ cls := "TrigramReadersModel", name := "decode", desc := "(I)I" } : Jvm.MethodName)) ∈ LW := LW_mem (mt_8 (List.mem_of_getElem? (i := 192) rfl)) rfl
theorem t8_193 : (Jvm.Cond.instanceMethod ({ cls := "TrigramReadersModel", name := "decode", desc := "(I)I" } : Jvm.MethodName)) ∈ LW := LW_mem (mt_8 (List.mem_of_getElem? (i := 193) rfl)) rfl
theorem t8_194 : (Jvm.Cond.selects "TrigramReadersModel" ({ cls := "TrigramReadersModel", name := "decode", desc := "(I)I" } : Jvm.MethodName) ({ cls := "TrigramReadersModel", name := "decode", desc := "(I)I" } : Jvm.MethodName)) ∈ LW := LW_mem (mt_8 (List.mem_of_getElem? (i := 194) rfl)) rfl
theorem t8_195 : (Jvm.Cond.code ({ cls := "TrigramReadersModel", name := "decode", desc := "(I)I" } : Jvm.MethodName) prog_11_method_134_code (4 : Nat) (Option.some Jvm.ClassFile.FieldType.int)) ∈ LW := LW_mem (mt_8 (List.mem_of_getElem? (i := 195) rfl)) rfl
theorem t8_196 : (Jvm.Cond.methodLink "TrigramReadersModel" (379 : Nat) ({ cls := "TrigramReadersModel", name := "readNumbers", desc := "()I" } : Jvm.MethodName)) ∈ LW := LW_mem (mt_8 (List.mem_of_getElem? (i := 196) rfl)) rfl
theorem t8_198 : (Jvm.Cond.instanceMethod ({ cls := "TrigramReadersModel", name := "readNumbers", desc := "()I" } : Jvm.MethodName)) ∈ LW := LW_mem (mt_8 (List.mem_of_getElem? (i := 198) rfl)) rfl
theorem t8_199 : (Jvm.Cond.code ({ cls := "TrigramReadersModel", name := "readNumbers", desc := "()I" } : Jvm.MethodName) prog_11_method_131_code (6 : Nat) (Option.some Jvm.ClassFile.FieldType.int)) ∈ LW := LW_mem (mt_8 (List.mem_of_getElem? (i := 199) rfl)) rfl
theorem t8_200 : (Jvm.Cond.methodLink "TrigramReadersModel" (382 : Nat) ({ cls := "TrigramReadersModel", name := "begin", desc := "()V" } : Jvm.MethodName)) ∈ LW := LW_mem (mt_8 (List.mem_of_getElem? (i := 200) rfl)) rfl
theorem t8_202 : (Jvm.Cond.instanceMethod ({ cls := "TrigramReadersModel", name := "begin", desc := "()V" } : Jvm.MethodName)) ∈ LW := LW_mem (mt_8 (List.mem_of_getElem? (i := 202) rfl)) rfl
theorem t8_203 : (Jvm.Cond.code ({ cls := "TrigramReadersModel", name := "begin", desc := "()V" } : Jvm.MethodName) prog_11_method_133_code (1 : Nat) (Option.none : Option Jvm.ClassFile.FieldType)) ∈ LW := LW_mem (mt_8 (List.mem_of_getElem? (i := 203) rfl)) rfl
theorem t8_204 : (Jvm.Cond.methodLink "TrigramReadersModel" (385 : Nat) ({ cls := "TrigramReadersModel", name := "write", desc := "(II)V" } : Jvm.MethodName)) ∈ LW := LW_mem (mt_8 (List.mem_of_getElem? (i := 204) rfl)) rfl
theorem t8_206 : (Jvm.Cond.instanceMethod ({ cls := "TrigramReadersModel", name := "write", desc := "(II)V" } : Jvm.MethodName)) ∈ LW := LW_mem (mt_8 (List.mem_of_getElem? (i := 206) rfl)) rfl
theorem t8_207 : (Jvm.Cond.code ({ cls := "TrigramReadersModel", name := "write", desc := "(II)V" } : Jvm.MethodName) prog_11_method_132_code (3 : Nat) (Option.none : Option Jvm.ClassFile.FieldType)) ∈ LW := LW_mem (mt_8 (List.mem_of_getElem? (i := 207) rfl)) rfl
theorem t8_208 : (Jvm.Cond.methodLink "TrigramReadersModel" (376 : Nat) ({ cls := "TrigramReadersModel", name := "printSymbol", desc := "(I)V" } : Jvm.MethodName)) ∈ LW := LW_mem (mt_8 (List.mem_of_getElem? (i := 208) rfl)) rfl
theorem t8_210 : (Jvm.Cond.instanceMethod ({ cls := "TrigramReadersModel", name := "printSymbol", desc := "(I)V" } : Jvm.MethodName)) ∈ LW := LW_mem (mt_8 (List.mem_of_getElem? (i := 210) rfl)) rfl
theorem t8_211 : (Jvm.Cond.code ({ cls := "TrigramReadersModel", name := "printSymbol", desc := "(I)V" } : Jvm.MethodName) prog_11_method_129_code (2 : Nat) (Option.none : Option Jvm.ClassFile.FieldType)) ∈ LW := LW_mem (mt_8 (List.mem_of_getElem? (i := 211) rfl)) rfl
theorem t8_212 : (Jvm.Cond.methodLink "TrigramReadersLaw" (385 : Nat) ({ cls := "TrigramReadersModel", name := "writeExpected", desc := "(II)I" } : Jvm.MethodName)) ∈ LW := LW_mem (mt_8 (List.mem_of_getElem? (i := 212) rfl)) rfl
theorem t8_213 : (Jvm.Cond.instanceMethod ({ cls := "TrigramReadersModel", name := "writeExpected", desc := "(II)I" } : Jvm.MethodName)) ∈ LW := LW_mem (mt_8 (List.mem_of_getElem? (i := 213) rfl)) rfl
theorem t8_214 : (Jvm.Cond.selects "TrigramReadersModel" ({ cls := "TrigramReadersModel", name := "writeExpected", desc := "(II)I" } : Jvm.MethodName) ({ cls := "TrigramReadersModel", name := "writeExpected", desc := "(II)I" } : Jvm.MethodName)) ∈ LW := LW_mem (mt_8 (List.mem_of_getElem? (i := 214) rfl)) rfl
theorem t8_215 : (Jvm.Cond.code ({ cls := "TrigramReadersModel", name := "writeExpected", desc := "(II)I" } : Jvm.MethodName) prog_11_method_135_code (4 : Nat) (Option.some Jvm.ClassFile.FieldType.int)) ∈ LW := LW_mem (mt_8 (List.mem_of_getElem? (i := 215) rfl)) rfl
theorem t8_216 : (Jvm.Cond.methodLink "TrigramReadersLaw" (388 : Nat) ({ cls := "TrigramReadersModel", name := "outputByte", desc := "(I)I" } : Jvm.MethodName)) ∈ LW := LW_mem (mt_8 (List.mem_of_getElem? (i := 216) rfl)) rfl
theorem t8_217 : (Jvm.Cond.instanceMethod ({ cls := "TrigramReadersModel", name := "outputByte", desc := "(I)I" } : Jvm.MethodName)) ∈ LW := LW_mem (mt_8 (List.mem_of_getElem? (i := 217) rfl)) rfl
theorem t8_218 : (Jvm.Cond.selects "TrigramReadersModel" ({ cls := "TrigramReadersModel", name := "outputByte", desc := "(I)I" } : Jvm.MethodName) ({ cls := "TrigramReadersModel", name := "outputByte", desc := "(I)I" } : Jvm.MethodName)) ∈ LW := LW_mem (mt_8 (List.mem_of_getElem? (i := 218) rfl)) rfl
theorem t8_219 : (Jvm.Cond.code ({ cls := "TrigramReadersModel", name := "outputByte", desc := "(I)I" } : Jvm.MethodName) prog_11_method_136_code (2 : Nat) (Option.some Jvm.ClassFile.FieldType.int)) ∈ LW := LW_mem (mt_8 (List.mem_of_getElem? (i := 219) rfl)) rfl
theorem t8_220 : (Jvm.Cond.methodLink "TrigramReadersLaw" (391 : Nat) ({ cls := "TrigramReadersModel", name := "save", desc := "(I)I" } : Jvm.MethodName)) ∈ LW := LW_mem (mt_8 (List.mem_of_getElem? (i := 220) rfl)) rfl
theorem t8_221 : (Jvm.Cond.instanceMethod ({ cls := "TrigramReadersModel", name := "save", desc := "(I)I" } : Jvm.MethodName)) ∈ LW := LW_mem (mt_8 (List.mem_of_getElem? (i := 221) rfl)) rfl
theorem t8_222 : (Jvm.Cond.selects "TrigramReadersModel" ({ cls := "TrigramReadersModel", name := "save", desc := "(I)I" } : Jvm.MethodName) ({ cls := "TrigramReadersModel", name := "save", desc := "(I)I" } : Jvm.MethodName)) ∈ LW := LW_mem (mt_8 (List.mem_of_getElem? (i := 222) rfl)) rfl
theorem t8_223 : (Jvm.Cond.code ({ cls := "TrigramReadersModel", name := "save", desc := "(I)I" } : Jvm.MethodName) prog_11_method_137_code (2 : Nat) (Option.some Jvm.ClassFile.FieldType.int)) ∈ LW := LW_mem (mt_8 (List.mem_of_getElem? (i := 223) rfl)) rfl
theorem t8_224 : (Jvm.Cond.methodLink "TrigramReadersLaw" (394 : Nat) ({ cls := "TrigramReadersModel", name := "restore", desc := "(I)I" } : Jvm.MethodName)) ∈ LW := LW_mem (mt_8 (List.mem_of_getElem? (i := 224) rfl)) rfl
theorem t8_225 : (Jvm.Cond.instanceMethod ({ cls := "TrigramReadersModel", name := "restore", desc := "(I)I" } : Jvm.MethodName)) ∈ LW := LW_mem (mt_8 (List.mem_of_getElem? (i := 225) rfl)) rfl
theorem t8_226 : (Jvm.Cond.selects "TrigramReadersModel" ({ cls := "TrigramReadersModel", name := "restore", desc := "(I)I" } : Jvm.MethodName) ({ cls := "TrigramReadersModel", name := "restore", desc := "(I)I" } : Jvm.MethodName)) ∈ LW := LW_mem (mt_8 (List.mem_of_getElem? (i := 226) rfl)) rfl
theorem t8_227 : (Jvm.Cond.code ({ cls := "TrigramReadersModel", name := "restore", desc := "(I)I" } : Jvm.MethodName) prog_11_method_138_code (2 : Nat) (Option.some Jvm.ClassFile.FieldType.int)) ∈ LW := LW_mem (mt_8 (List.mem_of_getElem? (i := 227) rfl)) rfl
theorem t8_228 : (Jvm.Cond.arrayClass Jvm.ClassFile.FieldType.long) ∈ LW := LW_mem (mt_8 (List.mem_of_getElem? (i := 228) rfl)) rfl
theorem t8_229 : (Jvm.Cond.arrayClass Jvm.ClassFile.FieldType.double) ∈ LW := LW_mem (mt_8 (List.mem_of_getElem? (i := 229) rfl)) rfl
theorem t9_7 : (Jvm.Cond.fieldLink "java/lang/String" (9 : Nat) "java/lang/String" "value" "[B") ∈ LW := LW_mem (mt_9 (List.mem_of_getElem? (i := 7) rfl)) rfl
theorem t9_8 : (Jvm.Cond.fieldLink "java/lang/String" (15 : Nat) "java/lang/String" "coder" "B") ∈ LW := LW_mem (mt_9 (List.mem_of_getElem? (i := 8) rfl)) rfl
theorem ps_0 : Cond.selects "TrigramReaders$Parser" ⟨"TrigramReaders$Parser", "next", "()V"⟩ ⟨"TrigramReaders$Parser", "next", "()V"⟩ ∈ LW := LW_mem (List.mem_append_left _ (List.mem_of_getElem? (i := 0) rfl)) rfl
theorem ps_1 : Cond.selects "TrigramReaders$Parser" ⟨"TrigramReaders$Parser", "isWord", "(Ljava/lang/String;)Z"⟩ ⟨"TrigramReaders$Parser", "isWord", "(Ljava/lang/String;)Z"⟩ ∈ LW := LW_mem (List.mem_append_left _ (List.mem_of_getElem? (i := 1) rfl)) rfl
theorem ps_2 : Cond.selects "TrigramReaders$Parser" ⟨"TrigramReaders$Parser", "parseReader", "()Z"⟩ ⟨"TrigramReaders$Parser", "parseReader", "()Z"⟩ ∈ LW := LW_mem (List.mem_append_left _ (List.mem_of_getElem? (i := 2) rfl)) rfl
theorem ps_3 : Cond.selects "TrigramReaders$Parser" ⟨"TrigramReaders$Parser", "fail", "(I)Z"⟩ ⟨"TrigramReaders$Parser", "fail", "(I)Z"⟩ ∈ LW := LW_mem (List.mem_append_left _ (List.mem_of_getElem? (i := 3) rfl)) rfl
theorem ps_4 : Cond.selects "TrigramReaders$Parser" ⟨"TrigramReaders$Parser", "methodWord", "()I"⟩ ⟨"TrigramReaders$Parser", "methodWord", "()I"⟩ ∈ LW := LW_mem (List.mem_append_left _ (List.mem_of_getElem? (i := 4) rfl)) rfl
theorem ps_5 : Cond.selects "TrigramReaders$Parser" ⟨"TrigramReaders$Parser", "parseSemicolon", "()Z"⟩ ⟨"TrigramReaders$Parser", "parseSemicolon", "()Z"⟩ ∈ LW := LW_mem (List.mem_append_left _ (List.mem_of_getElem? (i := 5) rfl)) rfl
theorem ps_6 : Cond.selects "TrigramReaders$Parser" ⟨"TrigramReaders$Parser", "parseDocument", "()Z"⟩ ⟨"TrigramReaders$Parser", "parseDocument", "()Z"⟩ ∈ LW := LW_mem (List.mem_append_left _ (List.mem_of_getElem? (i := 6) rfl)) rfl
theorem ps_7 : Cond.selects "TrigramReaders$Parser" ⟨"TrigramReaders$Parser", "parseTrain", "()Z"⟩ ⟨"TrigramReaders$Parser", "parseTrain", "()Z"⟩ ∈ LW := LW_mem (List.mem_append_left _ (List.mem_of_getElem? (i := 7) rfl)) rfl
theorem ps_8 : Cond.selects "TrigramReaders$Parser" ⟨"TrigramReaders$Parser", "numberValue", "()I"⟩ ⟨"TrigramReaders$Parser", "numberValue", "()I"⟩ ∈ LW := LW_mem (List.mem_append_left _ (List.mem_of_getElem? (i := 8) rfl)) rfl
theorem ps_9 : Cond.selects "TrigramReaders$Parser" ⟨"TrigramReaders$Parser", "parseYear", "()Z"⟩ ⟨"TrigramReaders$Parser", "parseYear", "()Z"⟩ ∈ LW := LW_mem (List.mem_append_left _ (List.mem_of_getElem? (i := 9) rfl)) rfl
theorem ps_10 : Cond.selects "TrigramReaders" ⟨"TrigramReaders", "remember", "()V"⟩ ⟨"TrigramReaders", "remember", "()V"⟩ ∈ LW := LW_mem (List.mem_append_left _ (List.mem_of_getElem? (i := 10) rfl)) rfl
theorem ps_11 : Cond.selects "java/lang/Throwable" ⟨"java/lang/Throwable", "fillInStackTrace", "(I)Ljava/lang/Throwable;"⟩ ⟨"java/lang/Throwable", "fillInStackTrace", "(I)Ljava/lang/Throwable;"⟩ ∈ LW := LW_mem (List.mem_append_left _ (List.mem_of_getElem? (i := 11) rfl)) rfl
theorem ps_12 : Cond.selects "TrigramReaders" ⟨"TrigramReaders", "existingReader", "(I)LTrigramReaders$Reader;"⟩ ⟨"TrigramReaders", "existingReader", "(I)LTrigramReaders$Reader;"⟩ ∈ LW := LW_mem (List.mem_append_left _ (List.mem_of_getElem? (i := 12) rfl)) rfl
theorem ps_13 : Cond.selects "TrigramReaders" ⟨"TrigramReaders", "existingDocument", "(I)LTrigramReaders$Document;"⟩ ⟨"TrigramReaders", "existingDocument", "(I)LTrigramReaders$Document;"⟩ ∈ LW := LW_mem (List.mem_append_left _ (List.mem_of_getElem? (i := 13) rfl)) rfl
theorem ps_14 : Cond.selects "TrigramReaders" ⟨"TrigramReaders", "guessIn", "(LTrigramReaders$Counts;III)I"⟩ ⟨"TrigramReaders", "guessIn", "(LTrigramReaders$Counts;III)I"⟩ ∈ LW := LW_mem (List.mem_append_left _ (List.mem_of_getElem? (i := 14) rfl)) rfl
theorem ps_15 : Cond.selects "TrigramReaders$Ranking" ⟨"TrigramReaders$Ranking", "appendOrder", "(LTrigramReaders$Counts;I)V"⟩ ⟨"TrigramReaders$Ranking", "appendOrder", "(LTrigramReaders$Counts;I)V"⟩ ∈ LW := LW_mem (List.mem_append_left _ (List.mem_of_getElem? (i := 15) rfl)) rfl
theorem ps_16 : Cond.selects "TrigramReaders$Ranking" ⟨"TrigramReaders$Ranking", "insert", "(III)V"⟩ ⟨"TrigramReaders$Ranking", "insert", "(III)V"⟩ ∈ LW := LW_mem (List.mem_append_left _ (List.mem_of_getElem? (i := 16) rfl)) rfl
theorem ps_17 : Cond.selects "TrigramReaders" ⟨"TrigramReaders", "rankIn", "(LTrigramReaders$Counts;III)I"⟩ ⟨"TrigramReaders", "rankIn", "(LTrigramReaders$Counts;III)I"⟩ ∈ LW := LW_mem (List.mem_append_left _ (List.mem_of_getElem? (i := 17) rfl)) rfl
theorem ps_18 : Cond.selects "TrigramReaders" ⟨"TrigramReaders", "chanceOf", "(IIII)LTrigramReaders$Chance;"⟩ ⟨"TrigramReaders", "chanceOf", "(IIII)LTrigramReaders$Chance;"⟩ ∈ LW := LW_mem (List.mem_append_left _ (List.mem_of_getElem? (i := 18) rfl)) rfl
theorem ps_19 : Cond.selects "TrigramReaders$Chance" ⟨"TrigramReaders$Chance", "visit", "(LTrigramReaders$Counts;III)Z"⟩ ⟨"TrigramReaders$Chance", "visit", "(LTrigramReaders$Counts;III)Z"⟩ ∈ LW := LW_mem (List.mem_append_left _ (List.mem_of_getElem? (i := 19) rfl)) rfl
theorem ps_20 : Cond.selects "TrigramReaders$Chance" ⟨"TrigramReaders$Chance", "reduce", "()V"⟩ ⟨"TrigramReaders$Chance", "reduce", "()V"⟩ ∈ LW := LW_mem (List.mem_append_left _ (List.mem_of_getElem? (i := 20) rfl)) rfl
theorem ps_21 : Cond.selects "TrigramReaders" ⟨"TrigramReaders", "rankOfPosition", "(LTrigramReaders$Counts;LTrigramReaders$Document;I)I"⟩ ⟨"TrigramReaders", "rankOfPosition", "(LTrigramReaders$Counts;LTrigramReaders$Document;I)I"⟩ ∈ LW := LW_mem (List.mem_append_left _ (List.mem_of_getElem? (i := 21) rfl)) rfl
theorem ps_22 : Cond.selects "TrigramReaders" ⟨"TrigramReaders", "guessesFor", "(LTrigramReaders$Counts;LTrigramReaders$Document;)I"⟩ ⟨"TrigramReaders", "guessesFor", "(LTrigramReaders$Counts;LTrigramReaders$Document;)I"⟩ ∈ LW := LW_mem (List.mem_append_left _ (List.mem_of_getElem? (i := 22) rfl)) rfl
theorem ps_23 : Cond.selects "TrigramReaders" ⟨"TrigramReaders", "guessesWhileLearning", "(LTrigramReaders$Counts;LTrigramReaders$Document;)I"⟩ ⟨"TrigramReaders", "guessesWhileLearning", "(LTrigramReaders$Counts;LTrigramReaders$Document;)I"⟩ ∈ LW := LW_mem (List.mem_append_left _ (List.mem_of_getElem? (i := 23) rfl)) rfl
theorem ps_24 : Cond.selects "TrigramReaders" ⟨"TrigramReaders", "hitsFor", "(LTrigramReaders$Counts;LTrigramReaders$Document;)I"⟩ ⟨"TrigramReaders", "hitsFor", "(LTrigramReaders$Counts;LTrigramReaders$Document;)I"⟩ ∈ LW := LW_mem (List.mem_append_left _ (List.mem_of_getElem? (i := 24) rfl)) rfl
theorem ps_25 : Cond.selects "TrigramReaders" ⟨"TrigramReaders", "agreeAfter", "(LTrigramReaders$Counts;LTrigramReaders$Counts;I)Z"⟩ ⟨"TrigramReaders", "agreeAfter", "(LTrigramReaders$Counts;LTrigramReaders$Counts;I)Z"⟩ ∈ LW := LW_mem (List.mem_append_left _ (List.mem_of_getElem? (i := 25) rfl)) rfl
theorem ps_26 : Cond.selects "TrigramReaders" ⟨"TrigramReaders", "readRanks", "()I"⟩ ⟨"TrigramReaders", "readRanks", "()I"⟩ ∈ LW := LW_mem (List.mem_append_left _ (List.mem_of_getElem? (i := 26) rfl)) rfl
theorem ps_27 : Cond.selects "TrigramReaders" ⟨"TrigramReaders", "writeSymbols", "(LTrigramReaders$Counts;[II)V"⟩ ⟨"TrigramReaders", "writeSymbols", "(LTrigramReaders$Counts;[II)V"⟩ ∈ LW := LW_mem (List.mem_append_left _ (List.mem_of_getElem? (i := 27) rfl)) rfl
theorem ps_28 : Cond.selects "TrigramReadersModel" ⟨"TrigramReadersModel", "layInput", "(Ljava/lang/String;)V"⟩ ⟨"TrigramReadersModel", "layInput", "(Ljava/lang/String;)V"⟩ ∈ LW := LW_mem (List.mem_append_left _ (List.mem_of_getElem? (i := 28) rfl)) rfl
theorem ps_29 : Cond.selects "TrigramReadersModel" ⟨"TrigramReadersModel", "read", "()V"⟩ ⟨"TrigramReadersModel", "read", "()V"⟩ ∈ LW := LW_mem (List.mem_append_left _ (List.mem_of_getElem? (i := 29) rfl)) rfl
theorem ps_30 : Cond.selects "TrigramReadersModel" ⟨"TrigramReadersModel", "advance", "()V"⟩ ⟨"TrigramReadersModel", "advance", "()V"⟩ ∈ LW := LW_mem (List.mem_append_left _ (List.mem_of_getElem? (i := 30) rfl)) rfl
theorem ps_31 : Cond.selects "TrigramReadersModel" ⟨"TrigramReadersModel", "byteAt", "(I)I"⟩ ⟨"TrigramReadersModel", "byteAt", "(I)I"⟩ ∈ LW := LW_mem (List.mem_append_left _ (List.mem_of_getElem? (i := 31) rfl)) rfl
theorem ps_32 : Cond.selects "TrigramReadersModel" ⟨"TrigramReadersModel", "is", "(Ljava/lang/String;)Z"⟩ ⟨"TrigramReadersModel", "is", "(Ljava/lang/String;)Z"⟩ ∈ LW := LW_mem (List.mem_append_left _ (List.mem_of_getElem? (i := 32) rfl)) rfl
theorem ps_33 : Cond.selects "TrigramReadersModel" ⟨"TrigramReadersModel", "readReader", "()V"⟩ ⟨"TrigramReadersModel", "readReader", "()V"⟩ ∈ LW := LW_mem (List.mem_append_left _ (List.mem_of_getElem? (i := 33) rfl)) rfl
theorem ps_34 : Cond.selects "TrigramReadersModel" ⟨"TrigramReadersModel", "check", "(ZI)Z"⟩ ⟨"TrigramReadersModel", "check", "(ZI)Z"⟩ ∈ LW := LW_mem (List.mem_append_left _ (List.mem_of_getElem? (i := 34) rfl)) rfl
theorem ps_35 : Cond.selects "TrigramReadersModel" ⟨"TrigramReadersModel", "next", "()V"⟩ ⟨"TrigramReadersModel", "next", "()V"⟩ ∈ LW := LW_mem (List.mem_append_left _ (List.mem_of_getElem? (i := 35) rfl)) rfl
theorem ps_36 : Cond.selects "TrigramReadersModel" ⟨"TrigramReadersModel", "nameFrom", "(II)I"⟩ ⟨"TrigramReadersModel", "nameFrom", "(II)I"⟩ ∈ LW := LW_mem (List.mem_append_left _ (List.mem_of_getElem? (i := 36) rfl)) rfl
theorem ps_37 : Cond.selects "TrigramReadersModel" ⟨"TrigramReadersModel", "finish", "()V"⟩ ⟨"TrigramReadersModel", "finish", "()V"⟩ ∈ LW := LW_mem (List.mem_append_left _ (List.mem_of_getElem? (i := 37) rfl)) rfl
theorem ps_38 : Cond.selects "TrigramReadersModel" ⟨"TrigramReadersModel", "readDocument", "()V"⟩ ⟨"TrigramReadersModel", "readDocument", "()V"⟩ ∈ LW := LW_mem (List.mem_append_left _ (List.mem_of_getElem? (i := 38) rfl)) rfl
theorem ps_39 : Cond.selects "TrigramReadersModel" ⟨"TrigramReadersModel", "layDocument", "([III)I"⟩ ⟨"TrigramReadersModel", "layDocument", "([III)I"⟩ ∈ LW := LW_mem (List.mem_append_left _ (List.mem_of_getElem? (i := 39) rfl)) rfl
theorem ps_40 : Cond.selects "TrigramReadersModel" ⟨"TrigramReadersModel", "readTrain", "()V"⟩ ⟨"TrigramReadersModel", "readTrain", "()V"⟩ ∈ LW := LW_mem (List.mem_append_left _ (List.mem_of_getElem? (i := 40) rfl)) rfl
theorem ps_41 : Cond.selects "TrigramReadersModel" ⟨"TrigramReadersModel", "refuses", "(ZI)Z"⟩ ⟨"TrigramReadersModel", "refuses", "(ZI)Z"⟩ ∈ LW := LW_mem (List.mem_append_left _ (List.mem_of_getElem? (i := 41) rfl)) rfl
theorem ps_42 : Cond.selects "TrigramReadersModel" ⟨"TrigramReadersModel", "appendWord", "(I)V"⟩ ⟨"TrigramReadersModel", "appendWord", "(I)V"⟩ ∈ LW := LW_mem (List.mem_append_left _ (List.mem_of_getElem? (i := 42) rfl)) rfl
theorem ps_43 : Cond.selects "TrigramReadersModel" ⟨"TrigramReadersModel", "noNumber", "(III)Z"⟩ ⟨"TrigramReadersModel", "noNumber", "(III)Z"⟩ ∈ LW := LW_mem (List.mem_append_left _ (List.mem_of_getElem? (i := 43) rfl)) rfl
theorem ps_44 : Cond.selects "TrigramReadersModel" ⟨"TrigramReadersModel", "remember", "()V"⟩ ⟨"TrigramReadersModel", "remember", "()V"⟩ ∈ LW := LW_mem (List.mem_append_left _ (List.mem_of_getElem? (i := 44) rfl)) rfl
theorem ps_45 : Cond.selects "TrigramReadersModel" ⟨"TrigramReadersModel", "noReader", "(I)Z"⟩ ⟨"TrigramReadersModel", "noReader", "(I)Z"⟩ ∈ LW := LW_mem (List.mem_append_left _ (List.mem_of_getElem? (i := 45) rfl)) rfl
theorem ps_46 : Cond.selects "TrigramReadersModel" ⟨"TrigramReadersModel", "out", "(III)Z"⟩ ⟨"TrigramReadersModel", "out", "(III)Z"⟩ ∈ LW := LW_mem (List.mem_append_left _ (List.mem_of_getElem? (i := 46) rfl)) rfl
theorem ps_47 : Cond.selects "TrigramReadersModel" ⟨"TrigramReadersModel", "noDocument", "(I)Z"⟩ ⟨"TrigramReadersModel", "noDocument", "(I)Z"⟩ ∈ LW := LW_mem (List.mem_append_left _ (List.mem_of_getElem? (i := 47) rfl)) rfl
theorem ps_48 : Cond.selects "TrigramReadersModel" ⟨"TrigramReadersModel", "noSymbol", "(I)Z"⟩ ⟨"TrigramReadersModel", "noSymbol", "(I)Z"⟩ ∈ LW := LW_mem (List.mem_append_left _ (List.mem_of_getElem? (i := 48) rfl)) rfl
theorem ps_49 : Cond.selects "TrigramReadersModel" ⟨"TrigramReadersModel", "noContext", "(III)Z"⟩ ⟨"TrigramReadersModel", "noContext", "(III)Z"⟩ ∈ LW := LW_mem (List.mem_append_left _ (List.mem_of_getElem? (i := 49) rfl)) rfl
theorem ps_50 : Cond.selects "TrigramReadersModel" ⟨"TrigramReadersModel", "look", "([IIII)V"⟩ ⟨"TrigramReadersModel", "look", "([IIII)V"⟩ ∈ LW := LW_mem (List.mem_append_left _ (List.mem_of_getElem? (i := 50) rfl)) rfl
theorem ps_51 : Cond.selects "TrigramReadersModel" ⟨"TrigramReadersModel", "clearPairs", "()V"⟩ ⟨"TrigramReadersModel", "clearPairs", "()V"⟩ ∈ LW := LW_mem (List.mem_append_left _ (List.mem_of_getElem? (i := 51) rfl)) rfl
theorem ps_52 : Cond.selects "TrigramReadersModel" ⟨"TrigramReadersModel", "markPairs", "(I)V"⟩ ⟨"TrigramReadersModel", "markPairs", "(I)V"⟩ ∈ LW := LW_mem (List.mem_append_left _ (List.mem_of_getElem? (i := 52) rfl)) rfl
theorem ps_53 : Cond.selects "TrigramReadersModel" ⟨"TrigramReadersModel", "noBoth", "(II)Z"⟩ ⟨"TrigramReadersModel", "noBoth", "(II)Z"⟩ ∈ LW := LW_mem (List.mem_append_left _ (List.mem_of_getElem? (i := 53) rfl)) rfl
theorem ps_54 : Cond.selects "TrigramReadersModel" ⟨"TrigramReadersModel", "rankAll", "([IIII)V"⟩ ⟨"TrigramReadersModel", "rankAll", "([IIII)V"⟩ ∈ LW := LW_mem (List.mem_append_left _ (List.mem_of_getElem? (i := 54) rfl)) rfl
theorem ps_55 : Cond.selects "TrigramReadersModel" ⟨"TrigramReadersModel", "bestOf", "(I)I"⟩ ⟨"TrigramReadersModel", "bestOf", "(I)I"⟩ ∈ LW := LW_mem (List.mem_append_left _ (List.mem_of_getElem? (i := 55) rfl)) rfl
theorem ps_56 : Cond.selects "TrigramReadersModel" ⟨"TrigramReadersModel", "append", "(I)V"⟩ ⟨"TrigramReadersModel", "append", "(I)V"⟩ ∈ LW := LW_mem (List.mem_append_left _ (List.mem_of_getElem? (i := 56) rfl)) rfl
theorem ps_57 : Cond.selects "TrigramReadersModel" ⟨"TrigramReadersModel", "noQuestion", "(IIII)Z"⟩ ⟨"TrigramReadersModel", "noQuestion", "(IIII)Z"⟩ ∈ LW := LW_mem (List.mem_append_left _ (List.mem_of_getElem? (i := 57) rfl)) rfl
theorem ps_58 : Cond.selects "TrigramReadersModel" ⟨"TrigramReadersModel", "found", "([IIIII)I"⟩ ⟨"TrigramReadersModel", "found", "([IIIII)I"⟩ ∈ LW := LW_mem (List.mem_append_left _ (List.mem_of_getElem? (i := 58) rfl)) rfl
theorem ps_59 : Cond.selects "TrigramReadersModel" ⟨"TrigramReadersModel", "reckon", "(IIII)V"⟩ ⟨"TrigramReadersModel", "reckon", "(IIII)V"⟩ ∈ LW := LW_mem (List.mem_append_left _ (List.mem_of_getElem? (i := 59) rfl)) rfl
theorem ps_60 : Cond.selects "TrigramReadersModel" ⟨"TrigramReadersModel", "manyAt", "(I)I"⟩ ⟨"TrigramReadersModel", "manyAt", "(I)I"⟩ ∈ LW := LW_mem (List.mem_append_left _ (List.mem_of_getElem? (i := 60) rfl)) rfl
theorem ps_61 : Cond.selects "TrigramReadersModel" ⟨"TrigramReadersModel", "isThere", "(II)Z"⟩ ⟨"TrigramReadersModel", "isThere", "(II)Z"⟩ ∈ LW := LW_mem (List.mem_append_left _ (List.mem_of_getElem? (i := 61) rfl)) rfl
theorem ps_62 : Cond.selects "TrigramReadersModel" ⟨"TrigramReadersModel", "sumAt", "(I)I"⟩ ⟨"TrigramReadersModel", "sumAt", "(I)I"⟩ ∈ LW := LW_mem (List.mem_append_left _ (List.mem_of_getElem? (i := 62) rfl)) rfl
theorem ps_63 : Cond.selects "TrigramReadersModel" ⟨"TrigramReadersModel", "factor", "(IIII)V"⟩ ⟨"TrigramReadersModel", "factor", "(IIII)V"⟩ ∈ LW := LW_mem (List.mem_append_left _ (List.mem_of_getElem? (i := 63) rfl)) rfl
theorem ps_64 : Cond.selects "TrigramReadersModel" ⟨"TrigramReadersModel", "times", "(JJ)V"⟩ ⟨"TrigramReadersModel", "times", "(JJ)V"⟩ ∈ LW := LW_mem (List.mem_append_left _ (List.mem_of_getElem? (i := 64) rfl)) rfl
theorem ps_65 : Cond.selects "TrigramReadersModel" ⟨"TrigramReadersModel", "exclude", "(I)V"⟩ ⟨"TrigramReadersModel", "exclude", "(I)V"⟩ ∈ LW := LW_mem (List.mem_append_left _ (List.mem_of_getElem? (i := 65) rfl)) rfl
theorem ps_66 : Cond.selects "TrigramReadersModel" ⟨"TrigramReadersModel", "codeBits", "()I"⟩ ⟨"TrigramReadersModel", "codeBits", "()I"⟩ ∈ LW := LW_mem (List.mem_append_left _ (List.mem_of_getElem? (i := 66) rfl)) rfl
theorem ps_67 : Cond.selects "TrigramReadersModel" ⟨"TrigramReadersModel", "rankIn", "([IIII)I"⟩ ⟨"TrigramReadersModel", "rankIn", "([IIII)I"⟩ ∈ LW := LW_mem (List.mem_append_left _ (List.mem_of_getElem? (i := 67) rfl)) rfl
theorem ps_68 : Cond.selects "TrigramReadersModel" ⟨"TrigramReadersModel", "guesses", "([III)I"⟩ ⟨"TrigramReadersModel", "guesses", "([III)I"⟩ ∈ LW := LW_mem (List.mem_append_left _ (List.mem_of_getElem? (i := 68) rfl)) rfl
theorem ps_69 : Cond.selects "TrigramReadersModel" ⟨"TrigramReadersModel", "tries", "()V"⟩ ⟨"TrigramReadersModel", "tries", "()V"⟩ ∈ LW := LW_mem (List.mem_append_left _ (List.mem_of_getElem? (i := 69) rfl)) rfl
theorem ps_70 : Cond.selects "TrigramReadersModel" ⟨"TrigramReadersModel", "learnAll", "([III)I"⟩ ⟨"TrigramReadersModel", "learnAll", "([III)I"⟩ ∈ LW := LW_mem (List.mem_append_left _ (List.mem_of_getElem? (i := 70) rfl)) rfl
theorem ps_71 : Cond.selects "TrigramReadersModel" ⟨"TrigramReadersModel", "hits", "(II)I"⟩ ⟨"TrigramReadersModel", "hits", "(II)I"⟩ ∈ LW := LW_mem (List.mem_append_left _ (List.mem_of_getElem? (i := 71) rfl)) rfl
theorem ps_72 : Cond.selects "TrigramReadersModel" ⟨"TrigramReadersModel", "firstIn", "(III)I"⟩ ⟨"TrigramReadersModel", "firstIn", "(III)I"⟩ ∈ LW := LW_mem (List.mem_append_left _ (List.mem_of_getElem? (i := 72) rfl)) rfl
theorem ps_73 : Cond.selects "TrigramReadersModel" ⟨"TrigramReadersModel", "isDocument", "()Z"⟩ ⟨"TrigramReadersModel", "isDocument", "()Z"⟩ ∈ LW := LW_mem (List.mem_append_left _ (List.mem_of_getElem? (i := 73) rfl)) rfl
theorem ps_74 : Cond.selects "TrigramReadersModel" ⟨"TrigramReadersModel", "print", "(I)V"⟩ ⟨"TrigramReadersModel", "print", "(I)V"⟩ ∈ LW := LW_mem (List.mem_append_left _ (List.mem_of_getElem? (i := 74) rfl)) rfl
theorem ps_75 : Cond.selects "TrigramReadersModel" ⟨"TrigramReadersModel", "readNumbers", "()I"⟩ ⟨"TrigramReadersModel", "readNumbers", "()I"⟩ ∈ LW := LW_mem (List.mem_append_left _ (List.mem_of_getElem? (i := 75) rfl)) rfl
theorem ps_76 : Cond.selects "TrigramReadersModel" ⟨"TrigramReadersModel", "begin", "()V"⟩ ⟨"TrigramReadersModel", "begin", "()V"⟩ ∈ LW := LW_mem (List.mem_append_left _ (List.mem_of_getElem? (i := 76) rfl)) rfl
theorem ps_77 : Cond.selects "TrigramReadersModel" ⟨"TrigramReadersModel", "write", "(II)V"⟩ ⟨"TrigramReadersModel", "write", "(II)V"⟩ ∈ LW := LW_mem (List.mem_append_left _ (List.mem_of_getElem? (i := 77) rfl)) rfl
theorem ps_78 : Cond.selects "TrigramReadersModel" ⟨"TrigramReadersModel", "printSymbol", "(I)V"⟩ ⟨"TrigramReadersModel", "printSymbol", "(I)V"⟩ ∈ LW := LW_mem (List.mem_append_left _ (List.mem_of_getElem? (i := 78) rfl)) rfl
