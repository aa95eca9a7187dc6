def RX0 : String := "AlmanacOffice$Book"
def TX0 : u_T := fun k => match k with
  | 0 => ("AlmanacOffice$Book", "villages", "[I", true)
  | 1 => ("AlmanacOffice$Book", "days", "[I", true)
  | 2 => ("AlmanacOffice$Book", "weathers", "[I", true)
  | 3 => ("AlmanacOffice$Book", "sold", "[I", true)
  | 4 => ("AlmanacOffice$Book", "paid", "[I", true)
  | _ => ("AlmanacOffice$Book", "count", "I", false)
def tyX0 : Nat → FieldType := fun k => match k with
  | 0 => .array .int
  | 1 => .array .int
  | 2 => .array .int
  | 3 => .array .int
  | 4 => .array .int
  | _ => .int
abbrev wsX00 : List Cond := u_ws RX0 TX0 6
theorem nmX0 : ∀ a, a < 6 → ∀ b, b < 6 → a ≠ b → (TX0 a).2.1 ≠ (TX0 b).2.1 := by decide +kernel
theorem tyX0_ok : ∀ k, k < 6 → parseFieldDescriptor (TX0 k).2.2.1 = some (tyX0 k) := by decide +kernel
abbrev cX0_init : ByteArray := prog_2_method_1_code
def yX0_init : MethodName := ⟨RX0, "<init>", "()V"⟩
abbrev cX0_placeOf : ByteArray := prog_2_method_2_code
def yX0_placeOf : MethodName := ⟨RX0, "placeOf", "(II)I"⟩
abbrev cX0_labelAt : ByteArray := prog_2_method_3_code
def yX0_labelAt : MethodName := ⟨RX0, "labelAt", "(I)I"⟩
abbrev cX0_add : ByteArray := prog_2_method_5_code
def yX0_add : MethodName := ⟨RX0, "add", "(III)V"⟩
abbrev cX0_remove : ByteArray := prog_2_method_6_code
def yX0_remove : MethodName := ⟨RX0, "remove", "(II)V"⟩
abbrev cX0_pages : ByteArray := prog_2_method_7_code
def yX0_pages : MethodName := ⟨RX0, "pages", "()I"⟩
abbrev cX0_hasPage : ByteArray := prog_2_method_8_code
def yX0_hasPage : MethodName := ⟨RX0, "hasPage", "(I)Z"⟩
abbrev cX0_startOf : ByteArray := prog_2_method_9_code
def yX0_startOf : MethodName := ⟨RX0, "startOf", "(I)I"⟩
abbrev cX0_endOf : ByteArray := prog_2_method_10_code
def yX0_endOf : MethodName := ⟨RX0, "endOf", "(I)I"⟩
abbrev cX0_paidForPage : ByteArray := prog_2_method_11_code
def yX0_paidForPage : MethodName := ⟨RX0, "paidForPage", "(I)I"⟩
abbrev cX0_copies : ByteArray := prog_2_method_12_code
def yX0_copies : MethodName := ⟨RX0, "copies", "()I"⟩
abbrev cX0_errors : ByteArray := prog_2_method_15_code
def yX0_errors : MethodName := ⟨RX0, "errors", "()I"⟩
abbrev cX0_takeFrom : ByteArray := prog_2_method_16_code
def yX0_takeFrom : MethodName := ⟨RX0, "takeFrom", "(LAlmanacOffice$Book;)V"⟩
def RX1 : String := "AlmanacOffice$Bytes"
def TX1 : u_T := fun k => match k with
  | 0 => ("AlmanacOffice$Bytes", "row", "[B", true)
  | _ => ("AlmanacOffice$Bytes", "length", "I", false)
def tyX1 : Nat → FieldType := fun k => match k with
  | 0 => .array .byte
  | _ => .int
abbrev wsX10 : List Cond := u_ws RX1 TX1 2
theorem nmX1 : ∀ a, a < 2 → ∀ b, b < 2 → a ≠ b → (TX1 a).2.1 ≠ (TX1 b).2.1 := by decide +kernel
theorem tyX1_ok : ∀ k, k < 2 → parseFieldDescriptor (TX1 k).2.2.1 = some (tyX1 k) := by decide +kernel
abbrev cX1_init : ByteArray := prog_3_method_1_code
def yX1_init : MethodName := ⟨RX1, "<init>", "()V"⟩
abbrev cX1_hasRoomFor : ByteArray := prog_3_method_2_code
def yX1_hasRoomFor : MethodName := ⟨RX1, "hasRoomFor", "(I)Z"⟩
abbrev cX1_put : ByteArray := prog_3_method_3_code
def yX1_put : MethodName := ⟨RX1, "put", "(I)V"⟩
abbrev cX1_putFour : ByteArray := prog_3_method_4_code
def yX1_putFour : MethodName := ⟨RX1, "putFour", "(I)V"⟩
abbrev cX1_putText : ByteArray := prog_3_method_5_code
def yX1_putText : MethodName := ⟨RX1, "putText", "(Ljava/lang/String;)V"⟩
abbrev cX1_at : ByteArray := prog_3_method_8_code
def yX1_at : MethodName := ⟨RX1, "at", "(I)I"⟩
abbrev cX1_nameBetween : ByteArray := prog_3_method_9_code
def yX1_nameBetween : MethodName := ⟨RX1, "nameBetween", "(II)I"⟩
def RX2 : String := "AlmanacOffice$Fairs"
def TX2 : u_T := fun k => match k with
  | 0 => ("AlmanacOffice$Fairs", "names", "[I", true)
  | 1 => ("AlmanacOffice$Fairs", "villages", "[I", true)
  | 2 => ("AlmanacOffice$Fairs", "periods", "[I", true)
  | 3 => ("AlmanacOffice$Fairs", "stocks", "[I", true)
  | 4 => ("AlmanacOffice$Fairs", "prices", "[I", true)
  | _ => ("AlmanacOffice$Fairs", "count", "I", false)
def tyX2 : Nat → FieldType := fun k => match k with
  | 0 => .array .int
  | 1 => .array .int
  | 2 => .array .int
  | 3 => .array .int
  | 4 => .array .int
  | _ => .int
abbrev wsX20 : List Cond := u_ws RX2 TX2 6
theorem nmX2 : ∀ a, a < 6 → ∀ b, b < 6 → a ≠ b → (TX2 a).2.1 ≠ (TX2 b).2.1 := by decide +kernel
theorem tyX2_ok : ∀ k, k < 6 → parseFieldDescriptor (TX2 k).2.2.1 = some (tyX2 k) := by decide +kernel
abbrev cX2_init : ByteArray := prog_4_method_1_code
def yX2_init : MethodName := ⟨RX2, "<init>", "()V"⟩
abbrev cX2_numberOf : ByteArray := prog_4_method_3_code
def yX2_numberOf : MethodName := ⟨RX2, "numberOf", "(I)I"⟩
abbrev cX2_add : ByteArray := prog_4_method_4_code
def yX2_add : MethodName := ⟨RX2, "add", "(IIIII)V"⟩
abbrev cX2_isHeld : ByteArray := prog_4_method_6_code
def yX2_isHeld : MethodName := ⟨RX2, "isHeld", "(II)Z"⟩
abbrev cX2_takeFrom : ByteArray := prog_4_method_7_code
def yX2_takeFrom : MethodName := ⟨RX2, "takeFrom", "(LAlmanacOffice$Fairs;)V"⟩
def RX3 : String := "AlmanacOffice$History"
def TX3 : u_T := fun k => match k with
  | 0 => ("AlmanacOffice$History", "past", "[LAlmanacOffice$State;", true)
  | 1 => ("AlmanacOffice$History", "next", "I", false)
  | _ => ("AlmanacOffice$History", "count", "I", false)
def tyX3 : Nat → FieldType := fun k => match k with
  | 0 => .array (.object "AlmanacOffice$State")
  | 1 => .int
  | _ => .int
abbrev wsX30 : List Cond := u_ws RX3 TX3 3
theorem nmX3 : ∀ a, a < 3 → ∀ b, b < 3 → a ≠ b → (TX3 a).2.1 ≠ (TX3 b).2.1 := by decide +kernel
theorem tyX3_ok : ∀ k, k < 3 → parseFieldDescriptor (TX3 k).2.2.1 = some (tyX3 k) := by decide +kernel
abbrev cX3_init : ByteArray := prog_5_method_1_code
def yX3_init : MethodName := ⟨RX3, "<init>", "()V"⟩
abbrev cX3_remember : ByteArray := prog_5_method_2_code
def yX3_remember : MethodName := ⟨RX3, "remember", "(LAlmanacOffice$State;)V"⟩
def RX4 : String := "AlmanacOffice$Memory"
def TX4 : u_T := fun k => match k with
  | 0 => ("AlmanacOffice$Memory", "labels", "[I", true)
  | _ => ("AlmanacOffice$Memory", "count", "I", false)
def tyX4 : Nat → FieldType := fun k => match k with
  | 0 => .array .int
  | _ => .int
abbrev wsX40 : List Cond := u_ws RX4 TX4 2
theorem nmX4 : ∀ a, a < 2 → ∀ b, b < 2 → a ≠ b → (TX4 a).2.1 ≠ (TX4 b).2.1 := by decide +kernel
theorem tyX4_ok : ∀ k, k < 2 → parseFieldDescriptor (TX4 k).2.2.1 = some (tyX4 k) := by decide +kernel
abbrev cX4_init : ByteArray := prog_6_method_1_code
def yX4_init : MethodName := ⟨RX4, "<init>", "()V"⟩
abbrev cX4_add : ByteArray := prog_6_method_2_code
def yX4_add : MethodName := ⟨RX4, "add", "(II)V"⟩
abbrev cX4_takeFrom : ByteArray := prog_6_method_3_code
def yX4_takeFrom : MethodName := ⟨RX4, "takeFrom", "(LAlmanacOffice$Memory;)V"⟩
def RX5 : String := "AlmanacOffice$Parser"
def TX5 : u_T := fun k => match k with
  | 0 => ("AlmanacOffice$Parser", "scanner", "LAlmanacOffice$Scanner;", true)
  | 1 => ("AlmanacOffice$Parser", "state", "LAlmanacOffice$State;", true)
  | 2 => ("AlmanacOffice$Parser", "errorCode", "I", false)
  | _ => ("AlmanacOffice$Parser", "errorPosition", "I", false)
def tyX5 : Nat → FieldType := fun k => match k with
  | 0 => .object "AlmanacOffice$Scanner"
  | 1 => .object "AlmanacOffice$State"
  | 2 => .int
  | _ => .int
abbrev wsX50 : List Cond := u_ws RX5 TX5 4
theorem nmX5 : ∀ a, a < 4 → ∀ b, b < 4 → a ≠ b → (TX5 a).2.1 ≠ (TX5 b).2.1 := by decide +kernel
theorem tyX5_ok : ∀ k, k < 4 → parseFieldDescriptor (TX5 k).2.2.1 = some (tyX5 k) := by decide +kernel
abbrev cX5_init : ByteArray := prog_7_method_1_code
def yX5_init : MethodName := ⟨RX5, "<init>", "(LAlmanacOffice$Bytes;LAlmanacOffice$State;)V"⟩
abbrev cX5_readText : ByteArray := prog_7_method_2_code
def yX5_readText : MethodName := ⟨RX5, "readText", "()Z"⟩
abbrev cX5_readAlmanac : ByteArray := prog_7_method_3_code
def yX5_readAlmanac : MethodName := ⟨RX5, "readAlmanac", "()Z"⟩
abbrev cX5_readStatement : ByteArray := prog_7_method_4_code
def yX5_readStatement : MethodName := ⟨RX5, "readStatement", "()Z"⟩
abbrev cX5_readVillage : ByteArray := prog_7_method_5_code
def yX5_readVillage : MethodName := ⟨RX5, "readVillage", "()Z"⟩
abbrev cX5_readFair : ByteArray := prog_7_method_6_code
def yX5_readFair : MethodName := ⟨RX5, "readFair", "()Z"⟩
abbrev cX5_readSay : ByteArray := prog_7_method_7_code
def yX5_readSay : MethodName := ⟨RX5, "readSay", "()Z"⟩
abbrev cX5_readRetract : ByteArray := prog_7_method_8_code
def yX5_readRetract : MethodName := ⟨RX5, "readRetract", "()Z"⟩
abbrev cX5_readPass : ByteArray := prog_7_method_9_code
def yX5_readPass : MethodName := ⟨RX5, "readPass", "()Z"⟩
abbrev cX5_weatherOfToken : ByteArray := prog_7_method_10_code
def yX5_weatherOfToken : MethodName := ⟨RX5, "weatherOfToken", "()I"⟩
abbrev cX5_readNewName : ByteArray := prog_7_method_11_code
def yX5_readNewName : MethodName := ⟨RX5, "readNewName", "()Z"⟩
abbrev cX5_readKnownVillage : ByteArray := prog_7_method_12_code
def yX5_readKnownVillage : MethodName := ⟨RX5, "readKnownVillage", "()Z"⟩
abbrev cX5_readNumber : ByteArray := prog_7_method_13_code
def yX5_readNumber : MethodName := ⟨RX5, "readNumber", "(II)Z"⟩
abbrev cX5_readSemicolon : ByteArray := prog_7_method_14_code
def yX5_readSemicolon : MethodName := ⟨RX5, "readSemicolon", "()Z"⟩
abbrev cX5_fail : ByteArray := prog_7_method_15_code
def yX5_fail : MethodName := ⟨RX5, "fail", "(I)Z"⟩
def RX6 : String := "AlmanacOffice$Scanner"
def TX6 : u_T := fun k => match k with
  | 0 => ("AlmanacOffice$Scanner", "text", "LAlmanacOffice$Bytes;", true)
  | 1 => ("AlmanacOffice$Scanner", "kind", "I", false)
  | 2 => ("AlmanacOffice$Scanner", "start", "I", false)
  | 3 => ("AlmanacOffice$Scanner", "end", "I", false)
  | _ => ("AlmanacOffice$Scanner", "number", "I", false)
def tyX6 : Nat → FieldType := fun k => match k with
  | 0 => .object "AlmanacOffice$Bytes"
  | 1 => .int
  | 2 => .int
  | 3 => .int
  | _ => .int
abbrev wsX60 : List Cond := u_ws RX6 TX6 5
theorem nmX6 : ∀ a, a < 5 → ∀ b, b < 5 → a ≠ b → (TX6 a).2.1 ≠ (TX6 b).2.1 := by decide +kernel
theorem tyX6_ok : ∀ k, k < 5 → parseFieldDescriptor (TX6 k).2.2.1 = some (tyX6 k) := by decide +kernel
abbrev cX6_init : ByteArray := prog_8_method_1_code
def yX6_init : MethodName := ⟨RX6, "<init>", "(LAlmanacOffice$Bytes;)V"⟩
abbrev cX6_next : ByteArray := prog_8_method_2_code
def yX6_next : MethodName := ⟨RX6, "next", "()V"⟩
abbrev cX6_isBlank : ByteArray := prog_8_method_3_code
def yX6_isBlank : MethodName := ⟨RX6, "isBlank", "(I)Z"⟩
abbrev cX6_readDigits : ByteArray := prog_8_method_4_code
def yX6_readDigits : MethodName := ⟨RX6, "readDigits", "()V"⟩
abbrev cX6_isWord : ByteArray := prog_8_method_5_code
def yX6_isWord : MethodName := ⟨RX6, "isWord", "(Ljava/lang/String;)Z"⟩
abbrev cX6_isSemicolon : ByteArray := prog_8_method_6_code
def yX6_isSemicolon : MethodName := ⟨RX6, "isSemicolon", "()Z"⟩
abbrev cX6_name : ByteArray := prog_8_method_7_code
def yX6_name : MethodName := ⟨RX6, "name", "()I"⟩
def RX7 : String := "AlmanacOffice$Sky"
def TX7 : u_T := fun k => match k with
  | 0 => ("AlmanacOffice$Sky", "odds", "[I", true)
  | 1 => ("AlmanacOffice$Sky", "drawn", "[I", true)
  | _ => ("AlmanacOffice$Sky", "seed", "I", false)
def tyX7 : Nat → FieldType := fun k => match k with
  | 0 => .array .int
  | 1 => .array .int
  | _ => .int
abbrev wsX70 : List Cond := u_ws RX7 TX7 3
theorem nmX7 : ∀ a, a < 3 → ∀ b, b < 3 → a ≠ b → (TX7 a).2.1 ≠ (TX7 b).2.1 := by decide +kernel
theorem tyX7_ok : ∀ k, k < 3 → parseFieldDescriptor (TX7 k).2.2.1 = some (tyX7 k) := by decide +kernel
abbrev cX7_init : ByteArray := prog_9_method_1_code
def yX7_init : MethodName := ⟨RX7, "<init>", "()V"⟩
abbrev cX7_sumOfOdds : ByteArray := prog_9_method_2_code
def yX7_sumOfOdds : MethodName := ⟨RX7, "sumOfOdds", "()I"⟩
abbrev cX7_seedAfter : ByteArray := prog_9_method_3_code
def yX7_seedAfter : MethodName := ⟨RX7, "seedAfter", "(I)I"⟩
abbrev cX7_weatherFor : ByteArray := prog_9_method_4_code
def yX7_weatherFor : MethodName := ⟨RX7, "weatherFor", "(I)I"⟩
abbrev cX7_draw : ByteArray := prog_9_method_5_code
def yX7_draw : MethodName := ⟨RX7, "draw", "()I"⟩
abbrev cX7_firstGreatest : ByteArray := prog_9_method_6_code
def yX7_firstGreatest : MethodName := ⟨RX7, "firstGreatest", "([I)I"⟩
abbrev cX7_lastLeast : ByteArray := prog_9_method_7_code
def yX7_lastLeast : MethodName := ⟨RX7, "lastLeast", "([I)I"⟩
abbrev cX7_closeYear : ByteArray := prog_9_method_8_code
def yX7_closeYear : MethodName := ⟨RX7, "closeYear", "()V"⟩
abbrev cX7_takeFrom : ByteArray := prog_9_method_9_code
def yX7_takeFrom : MethodName := ⟨RX7, "takeFrom", "(LAlmanacOffice$Sky;)V"⟩
def RX8 : String := "AlmanacOffice$State"
def TX8 : u_T := fun k => match k with
  | 0 => ("AlmanacOffice$State", "villages", "LAlmanacOffice$Villages;", true)
  | 1 => ("AlmanacOffice$State", "fairs", "LAlmanacOffice$Fairs;", true)
  | 2 => ("AlmanacOffice$State", "sky", "LAlmanacOffice$Sky;", true)
  | 3 => ("AlmanacOffice$State", "book", "LAlmanacOffice$Book;", true)
  | 4 => ("AlmanacOffice$State", "memory", "LAlmanacOffice$Memory;", true)
  | 5 => ("AlmanacOffice$State", "day", "I", false)
  | 6 => ("AlmanacOffice$State", "coins", "I", false)
  | 7 => ("AlmanacOffice$State", "hits", "I", false)
  | 8 => ("AlmanacOffice$State", "regrets", "I", false)
  | 9 => ("AlmanacOffice$State", "retractions", "I", false)
  | 10 => ("AlmanacOffice$State", "copiesSold", "I", false)
  | 11 => ("AlmanacOffice$State", "copiesGone", "I", false)
  | 12 => ("AlmanacOffice$State", "coinsEarned", "I", false)
  | _ => ("AlmanacOffice$State", "coinsPaidBack", "I", false)
def tyX8 : Nat → FieldType := fun k => match k with
  | 0 => .object "AlmanacOffice$Villages"
  | 1 => .object "AlmanacOffice$Fairs"
  | 2 => .object "AlmanacOffice$Sky"
  | 3 => .object "AlmanacOffice$Book"
  | 4 => .object "AlmanacOffice$Memory"
  | 5 => .int
  | 6 => .int
  | 7 => .int
  | 8 => .int
  | 9 => .int
  | 10 => .int
  | 11 => .int
  | 12 => .int
  | _ => .int
abbrev wsX80 : List Cond := u_ws RX8 TX8 14
theorem nmX8 : ∀ a, a < 14 → ∀ b, b < 14 → a ≠ b → (TX8 a).2.1 ≠ (TX8 b).2.1 := by decide +kernel
theorem tyX8_ok : ∀ k, k < 14 → parseFieldDescriptor (TX8 k).2.2.1 = some (tyX8 k) := by decide +kernel
abbrev cX8_init : ByteArray := prog_10_method_1_code
def yX8_init : MethodName := ⟨RX8, "<init>", "()V"⟩
abbrev cX8_clear : ByteArray := prog_10_method_2_code
def yX8_clear : MethodName := ⟨RX8, "clear", "()V"⟩
abbrev cX8_takeFrom : ByteArray := prog_10_method_3_code
def yX8_takeFrom : MethodName := ⟨RX8, "takeFrom", "(LAlmanacOffice$State;)V"⟩
abbrev cX8_refusalToPrint : ByteArray := prog_10_method_4_code
def yX8_refusalToPrint : MethodName := ⟨RX8, "refusalToPrint", "(II)I"⟩
abbrev cX8_canPayBackPage : ByteArray := prog_10_method_5_code
def yX8_canPayBackPage : MethodName := ⟨RX8, "canPayBackPage", "(I)Z"⟩
abbrev cX8_takeBackPage : ByteArray := prog_10_method_6_code
def yX8_takeBackPage : MethodName := ⟨RX8, "takeBackPage", "(I)I"⟩
abbrev cX8_letDaysPass : ByteArray := prog_10_method_7_code
def yX8_letDaysPass : MethodName := ⟨RX8, "letDaysPass", "(I)V"⟩
abbrev cX8_sellAt : ByteArray := prog_10_method_8_code
def yX8_sellAt : MethodName := ⟨RX8, "sellAt", "(I)V"⟩
abbrev cX8_judge : ByteArray := prog_10_method_9_code
def yX8_judge : MethodName := ⟨RX8, "judge", "(II)V"⟩
abbrev cX8_payBack : ByteArray := prog_10_method_10_code
def yX8_payBack : MethodName := ⟨RX8, "payBack", "(I)V"⟩
def RX9 : String := "AlmanacOffice$Villages"
def TX9 : u_T := fun k => match k with
  | 0 => ("AlmanacOffice$Villages", "names", "[I", true)
  | 1 => ("AlmanacOffice$Villages", "people", "[I", true)
  | 2 => ("AlmanacOffice$Villages", "trusts", "[I", true)
  | _ => ("AlmanacOffice$Villages", "count", "I", false)
def tyX9 : Nat → FieldType := fun k => match k with
  | 0 => .array .int
  | 1 => .array .int
  | 2 => .array .int
  | _ => .int
abbrev wsX90 : List Cond := u_ws RX9 TX9 4
theorem nmX9 : ∀ a, a < 4 → ∀ b, b < 4 → a ≠ b → (TX9 a).2.1 ≠ (TX9 b).2.1 := by decide +kernel
theorem tyX9_ok : ∀ k, k < 4 → parseFieldDescriptor (TX9 k).2.2.1 = some (tyX9 k) := by decide +kernel
abbrev cX9_init : ByteArray := prog_11_method_1_code
def yX9_init : MethodName := ⟨RX9, "<init>", "()V"⟩
abbrev cX9_has : ByteArray := prog_11_method_2_code
def yX9_has : MethodName := ⟨RX9, "has", "(I)Z"⟩
abbrev cX9_numberOf : ByteArray := prog_11_method_3_code
def yX9_numberOf : MethodName := ⟨RX9, "numberOf", "(I)I"⟩
abbrev cX9_add : ByteArray := prog_11_method_4_code
def yX9_add : MethodName := ⟨RX9, "add", "(III)V"⟩
abbrev cX9_changeTrust : ByteArray := prog_11_method_5_code
def yX9_changeTrust : MethodName := ⟨RX9, "changeTrust", "(II)V"⟩
abbrev cX9_wish : ByteArray := prog_11_method_6_code
def yX9_wish : MethodName := ⟨RX9, "wish", "(II)I"⟩
abbrev cX9_takeFrom : ByteArray := prog_11_method_8_code
def yX9_takeFrom : MethodName := ⟨RX9, "takeFrom", "(LAlmanacOffice$Villages;)V"⟩
def RX10 : String := "AlmanacOffice"
def TX10 : u_T := fun k => match k with
  | 0 => ("AlmanacOffice", "input", "LAlmanacOffice$Bytes;", true)
  | 1 => ("AlmanacOffice", "output", "LAlmanacOffice$Bytes;", true)
  | 2 => ("AlmanacOffice", "state", "LAlmanacOffice$State;", true)
  | 3 => ("AlmanacOffice", "draft", "LAlmanacOffice$State;", true)
  | 4 => ("AlmanacOffice", "history", "LAlmanacOffice$History;", true)
  | 5 => ("AlmanacOffice", "slots", "[LAlmanacOffice$State;", true)
  | 6 => ("AlmanacOffice", "slotIsFull", "[Z", true)
  | 7 => ("AlmanacOffice", "errorCode", "I", false)
  | _ => ("AlmanacOffice", "errorPosition", "I", false)
def tyX10 : Nat → FieldType := fun k => match k with
  | 0 => .object "AlmanacOffice$Bytes"
  | 1 => .object "AlmanacOffice$Bytes"
  | 2 => .object "AlmanacOffice$State"
  | 3 => .object "AlmanacOffice$State"
  | 4 => .object "AlmanacOffice$History"
  | 5 => .array (.object "AlmanacOffice$State")
  | 6 => .array .boolean
  | 7 => .int
  | _ => .int
abbrev wsX100 : List Cond := u_ws RX10 TX10 9
theorem nmX10 : ∀ a, a < 9 → ∀ b, b < 9 → a ≠ b → (TX10 a).2.1 ≠ (TX10 b).2.1 := by decide +kernel
theorem tyX10_ok : ∀ k, k < 9 → parseFieldDescriptor (TX10 k).2.2.1 = some (tyX10 k) := by decide +kernel
abbrev cX10_init : ByteArray := prog_1_method_1_code
def yX10_init : MethodName := ⟨RX10, "<init>", "()V"⟩
abbrev cX10_appendInput : ByteArray := prog_1_method_2_code
def yX10_appendInput : MethodName := ⟨RX10, "appendInput", "(IIIII)I"⟩
abbrev cX10_truncateInput : ByteArray := prog_1_method_3_code
def yX10_truncateInput : MethodName := ⟨RX10, "truncateInput", "(I)I"⟩
abbrev cX10_load : ByteArray := prog_1_method_4_code
def yX10_load : MethodName := ⟨RX10, "load", "()I"⟩
abbrev cX10_errorCode : ByteArray := prog_1_method_5_code
def yX10_errorCode : MethodName := ⟨RX10, "errorCode", "()I"⟩
abbrev cX10_day : ByteArray := prog_1_method_7_code
def yX10_day : MethodName := ⟨RX10, "day", "()I"⟩
abbrev cX10_seed : ByteArray := prog_1_method_8_code
def yX10_seed : MethodName := ⟨RX10, "seed", "()I"⟩
abbrev cX10_coins : ByteArray := prog_1_method_9_code
def yX10_coins : MethodName := ⟨RX10, "coins", "()I"⟩
abbrev cX10_fairCount : ByteArray := prog_1_method_11_code
def yX10_fairCount : MethodName := ⟨RX10, "fairCount", "()I"⟩
abbrev cX10_peopleOf : ByteArray := prog_1_method_13_code
def yX10_peopleOf : MethodName := ⟨RX10, "peopleOf", "(I)I"⟩
abbrev cX10_trustOf : ByteArray := prog_1_method_14_code
def yX10_trustOf : MethodName := ⟨RX10, "trustOf", "(I)I"⟩
abbrev cX10_oddsOf : ByteArray := prog_1_method_21_code
def yX10_oddsOf : MethodName := ⟨RX10, "oddsOf", "(I)I"⟩
abbrev cX10_drawnThisYear : ByteArray := prog_1_method_23_code
def yX10_drawnThisYear : MethodName := ⟨RX10, "drawnThisYear", "(I)I"⟩
abbrev cX10_forecastCount : ByteArray := prog_1_method_24_code
def yX10_forecastCount : MethodName := ⟨RX10, "forecastCount", "()I"⟩
abbrev cX10_weatherOf : ByteArray := prog_1_method_26_code
def yX10_weatherOf : MethodName := ⟨RX10, "weatherOf", "(II)I"⟩
abbrev cX10_soldOf : ByteArray := prog_1_method_27_code
def yX10_soldOf : MethodName := ⟨RX10, "soldOf", "(II)I"⟩
abbrev cX10_paidOf : ByteArray := prog_1_method_28_code
def yX10_paidOf : MethodName := ⟨RX10, "paidOf", "(II)I"⟩
abbrev cX10_pageOf : ByteArray := prog_1_method_29_code
def yX10_pageOf : MethodName := ⟨RX10, "pageOf", "(II)I"⟩
abbrev cX10_forecastAt : ByteArray := prog_1_method_30_code
def yX10_forecastAt : MethodName := ⟨RX10, "forecastAt", "(I)I"⟩
abbrev cX10_pageCount : ByteArray := prog_1_method_31_code
def yX10_pageCount : MethodName := ⟨RX10, "pageCount", "()I"⟩
abbrev cX10_regretCount : ByteArray := prog_1_method_37_code
def yX10_regretCount : MethodName := ⟨RX10, "regretCount", "()I"⟩
abbrev cX10_regretAt : ByteArray := prog_1_method_38_code
def yX10_regretAt : MethodName := ⟨RX10, "regretAt", "(I)I"⟩
abbrev cX10_hits : ByteArray := prog_1_method_39_code
def yX10_hits : MethodName := ⟨RX10, "hits", "()I"⟩
abbrev cX10_regrets : ByteArray := prog_1_method_40_code
def yX10_regrets : MethodName := ⟨RX10, "regrets", "()I"⟩
abbrev cX10_retractions : ByteArray := prog_1_method_41_code
def yX10_retractions : MethodName := ⟨RX10, "retractions", "()I"⟩
abbrev cX10_copyDifference : ByteArray := prog_1_method_46_code
def yX10_copyDifference : MethodName := ⟨RX10, "copyDifference", "()I"⟩
abbrev cX10_coinDifference : ByteArray := prog_1_method_47_code
def yX10_coinDifference : MethodName := ⟨RX10, "coinDifference", "()I"⟩
abbrev cX10_bookErrors : ByteArray := prog_1_method_48_code
def yX10_bookErrors : MethodName := ⟨RX10, "bookErrors", "()I"⟩
abbrev cX10_print : ByteArray := prog_1_method_51_code
def yX10_print : MethodName := ⟨RX10, "print", "(III)I"⟩
abbrev cX10_retract : ByteArray := prog_1_method_52_code
def yX10_retract : MethodName := ⟨RX10, "retract", "(I)I"⟩
abbrev cX10_setTrust : ByteArray := prog_1_method_53_code
def yX10_setTrust : MethodName := ⟨RX10, "setTrust", "(II)I"⟩
abbrev cX10_setPeople : ByteArray := prog_1_method_54_code
def yX10_setPeople : MethodName := ⟨RX10, "setPeople", "(II)I"⟩
abbrev cX10_setOdds : ByteArray := prog_1_method_55_code
def yX10_setOdds : MethodName := ⟨RX10, "setOdds", "(II)I"⟩
abbrev cX10_pass : ByteArray := prog_1_method_56_code
def yX10_pass : MethodName := ⟨RX10, "pass", "(I)I"⟩
abbrev cX10_requireVillage : ByteArray := prog_1_method_62_code
def yX10_requireVillage : MethodName := ⟨RX10, "requireVillage", "(I)V"⟩
abbrev cX10_requirePage : ByteArray := prog_1_method_64_code
def yX10_requirePage : MethodName := ⟨RX10, "requirePage", "(I)V"⟩
abbrev cX10_requireRange : ByteArray := prog_1_method_66_code
def yX10_requireRange : MethodName := ⟨RX10, "requireRange", "(III)V"⟩
abbrev cX10_requireForecast : ByteArray := prog_1_method_67_code
def yX10_requireForecast : MethodName := ⟨RX10, "requireForecast", "(II)I"⟩
abbrev cX10_isBetween : ByteArray := prog_1_method_70_code
def yX10_isBetween : MethodName := ⟨RX10, "isBetween", "(III)Z"⟩
abbrev cX10_isLetter : ByteArray := prog_1_method_71_code
def yX10_isLetter : MethodName := ⟨RX10, "isLetter", "(I)Z"⟩
abbrev cX10_isDigit : ByteArray := prog_1_method_72_code
def yX10_isDigit : MethodName := ⟨RX10, "isDigit", "(I)Z"⟩
abbrev cX10_placeIn : ByteArray := prog_1_method_73_code
def yX10_placeIn : MethodName := ⟨RX10, "placeIn", "([III)I"⟩
abbrev cX10_labelOf : ByteArray := prog_1_method_74_code
def yX10_labelOf : MethodName := ⟨RX10, "labelOf", "(II)I"⟩
def RX11 : String := "AlmanacOfficeLaw$Hand"
def TX11 : u_T := fun k => match k with
  | 0 => ("AlmanacOfficeLaw$Hand", "people", "[I", true)
  | 1 => ("AlmanacOfficeLaw$Hand", "trust", "[I", true)
  | 2 => ("AlmanacOfficeLaw$Hand", "odds", "[I", true)
  | 3 => ("AlmanacOfficeLaw$Hand", "drawn", "[I", true)
  | 4 => ("AlmanacOfficeLaw$Hand", "where", "[I", true)
  | 5 => ("AlmanacOfficeLaw$Hand", "period", "[I", true)
  | 6 => ("AlmanacOfficeLaw$Hand", "stock", "[I", true)
  | 7 => ("AlmanacOfficeLaw$Hand", "price", "[I", true)
  | 8 => ("AlmanacOfficeLaw$Hand", "book", "[[I", false)
  | 9 => ("AlmanacOfficeLaw$Hand", "regrets", "[I", false)
  | 10 => ("AlmanacOfficeLaw$Hand", "seed", "I", false)
  | 11 => ("AlmanacOfficeLaw$Hand", "day", "I", false)
  | 12 => ("AlmanacOfficeLaw$Hand", "coins", "I", false)
  | 13 => ("AlmanacOfficeLaw$Hand", "hits", "I", false)
  | 14 => ("AlmanacOfficeLaw$Hand", "misses", "I", false)
  | _ => ("AlmanacOfficeLaw$Hand", "retracted", "I", false)
def tyX11 : Nat → FieldType := fun k => match k with
  | 0 => .array .int
  | 1 => .array .int
  | 2 => .array .int
  | 3 => .array .int
  | 4 => .array .int
  | 5 => .array .int
  | 6 => .array .int
  | 7 => .array .int
  | 8 => .array (.array .int)
  | 9 => .array .int
  | 10 => .int
  | 11 => .int
  | 12 => .int
  | 13 => .int
  | 14 => .int
  | _ => .int
abbrev wsX110 : List Cond := u_ws RX11 TX11 16
theorem nmX11 : ∀ a, a < 16 → ∀ b, b < 16 → a ≠ b → (TX11 a).2.1 ≠ (TX11 b).2.1 := by decide +kernel
theorem tyX11_ok : ∀ k, k < 16 → parseFieldDescriptor (TX11 k).2.2.1 = some (tyX11 k) := by decide +kernel
abbrev cX11_init : ByteArray := prog_13_method_1_code
def yX11_init : MethodName := ⟨RX11, "<init>", "([I)V"⟩
abbrev cX11_with : ByteArray := prog_13_method_2_code
def yX11_with : MethodName := ⟨RX11, "with", "([[I[I)[[I"⟩
abbrev cX11_without : ByteArray := prog_13_method_3_code
def yX11_without : MethodName := ⟨RX11, "without", "([[II)[[I"⟩
abbrev cX11_find : ByteArray := prog_13_method_4_code
def yX11_find : MethodName := ⟨RX11, "find", "(II)I"⟩
abbrev cX11_remembers : ByteArray := prog_13_method_5_code
def yX11_remembers : MethodName := ⟨RX11, "remembers", "(I)V"⟩
abbrev cX11_fair : ByteArray := prog_13_method_6_code
def yX11_fair : MethodName := ⟨RX11, "fair", "(I)V"⟩
abbrev cX11_weather : ByteArray := prog_13_method_7_code
def yX11_weather : MethodName := ⟨RX11, "weather", "(I)V"⟩
abbrev cX11_passes : ByteArray := prog_13_method_8_code
def yX11_passes : MethodName := ⟨RX11, "passes", "()V"⟩
abbrev cX11_retracts : ByteArray := prog_13_method_9_code
def yX11_retracts : MethodName := ⟨RX11, "retracts", "(I)I"⟩
abbrev cX11_acts : ByteArray := prog_13_method_10_code
def yX11_acts : MethodName := ⟨RX11, "acts", "(I)I"⟩
abbrev cX11_agrees : ByteArray := prog_13_method_11_code
def yX11_agrees : MethodName := ⟨RX11, "agrees", "(LAlmanacOffice;)Z"⟩
def RX12 : String := "AlmanacOfficeModel"
def TX12 : u_T := fun k => match k with
  | _ => ("", "", "", false)
def tyX12 : Nat → FieldType := fun k => match k with
  | _ => .int
abbrev wsX120 : List Cond := u_ws RX12 TX12 0
theorem nmX12 : ∀ a, a < 0 → ∀ b, b < 0 → a ≠ b → (TX12 a).2.1 ≠ (TX12 b).2.1 := by decide +kernel
theorem tyX12_ok : ∀ k, k < 0 → parseFieldDescriptor (TX12 k).2.2.1 = some (tyX12 k) := by decide +kernel
def RJx145de : String := "java/io/Serializable"
def TJx145de : u_T := fun k => match k with
  | _ => ("", "", "", false)
def tyJx145de : Nat → FieldType := fun k => match k with
  | _ => .int
abbrev wsJx145de0 : List Cond := u_ws RJx145de TJx145de 0
theorem nmJx145de : ∀ a, a < 0 → ∀ b, b < 0 → a ≠ b → (TJx145de a).2.1 ≠ (TJx145de b).2.1 := by decide +kernel
theorem tyJx145de_ok : ∀ k, k < 0 → parseFieldDescriptor (TJx145de k).2.2.1 = some (tyJx145de k) := by decide +kernel
def RJ5 : String := "java/lang/AbstractStringBuilder"
def TJ5 : u_T := fun k => match k with
  | _ => ("", "", "", false)
def tyJ5 : Nat → FieldType := fun k => match k with
  | _ => .int
abbrev wsJ50 : List Cond := u_ws RJ5 TJ5 0
theorem nmJ5 : ∀ a, a < 0 → ∀ b, b < 0 → a ≠ b → (TJ5 a).2.1 ≠ (TJ5 b).2.1 := by decide +kernel
theorem tyJ5_ok : ∀ k, k < 0 → parseFieldDescriptor (TJ5 k).2.2.1 = some (tyJ5 k) := by decide +kernel
abbrev cJ5_init_d00df : ByteArray := prog_16_method_2_code
def yJ5_init_d00df : MethodName := ⟨RJ5, "<init>", "(I)V"⟩
abbrev cJ5_init_a7421 : ByteArray := prog_16_method_3_code
def yJ5_init_a7421 : MethodName := ⟨RJ5, "<init>", "(Ljava/lang/String;)V"⟩
abbrev cJ5_length_8abf5 : ByteArray := prog_16_method_6_code
def yJ5_length_8abf5 : MethodName := ⟨RJ5, "length", "()I"⟩
abbrev cJ5_ensureCapacityInternal_d00df : ByteArray := prog_16_method_9_code
def yJ5_ensureCapacityInternal_d00df : MethodName := ⟨RJ5, "ensureCapacityInternal", "(I)V"⟩
abbrev cJ5_newCapacity_0f7a4 : ByteArray := prog_16_method_10_code
def yJ5_newCapacity_0f7a4 : MethodName := ⟨RJ5, "newCapacity", "(I)I"⟩
abbrev cJ5_inflate_da8c8 : ByteArray := prog_16_method_11_code
def yJ5_inflate_da8c8 : MethodName := ⟨RJ5, "inflate", "()V"⟩
abbrev cJ5_append_cf1ce : ByteArray := prog_16_method_22_code
def yJ5_append_cf1ce : MethodName := ⟨RJ5, "append", "(Ljava/lang/String;)Ljava/lang/AbstractStringBuilder;"⟩
abbrev cJ5_appendNull_278bc : ByteArray := prog_16_method_26_code
def yJ5_appendNull_278bc : MethodName := ⟨RJ5, "appendNull", "()Ljava/lang/AbstractStringBuilder;"⟩
abbrev cJ5_append_3fe6f : ByteArray := prog_16_method_31_code
def yJ5_append_3fe6f : MethodName := ⟨RJ5, "append", "(C)Ljava/lang/AbstractStringBuilder;"⟩
abbrev cJ5_append_c97b9 : ByteArray := prog_16_method_32_code
def yJ5_append_c97b9 : MethodName := ⟨RJ5, "append", "(I)Ljava/lang/AbstractStringBuilder;"⟩
abbrev cJ5_getValue_6d5f1 : ByteArray := prog_16_method_64_code
def yJ5_getValue_6d5f1 : MethodName := ⟨RJ5, "getValue", "()[B"⟩
abbrev cJ5_isLatin1_aae02 : ByteArray := prog_16_method_68_code
def yJ5_isLatin1_aae02 : MethodName := ⟨RJ5, "isLatin1", "()Z"⟩
abbrev cJ5_inflateIfNeededFor_a7421 : ByteArray := prog_16_method_71_code
def yJ5_inflateIfNeededFor_a7421 : MethodName := ⟨RJ5, "inflateIfNeededFor", "(Ljava/lang/String;)V"⟩
abbrev cJ5_putStringAt_47b60 : ByteArray := prog_16_method_73_code
def yJ5_putStringAt_47b60 : MethodName := ⟨RJ5, "putStringAt", "(ILjava/lang/String;)V"⟩
def RJx2cfe8 : String := "java/lang/Appendable"
def TJx2cfe8 : u_T := fun k => match k with
  | _ => ("", "", "", false)
def tyJx2cfe8 : Nat → FieldType := fun k => match k with
  | _ => .int
abbrev wsJx2cfe80 : List Cond := u_ws RJx2cfe8 TJx2cfe8 0
theorem nmJx2cfe8 : ∀ a, a < 0 → ∀ b, b < 0 → a ≠ b → (TJx2cfe8 a).2.1 ≠ (TJx2cfe8 b).2.1 := by decide +kernel
theorem tyJx2cfe8_ok : ∀ k, k < 0 → parseFieldDescriptor (TJx2cfe8 k).2.2.1 = some (tyJx2cfe8 k) := by decide +kernel
def RJx9f9b0 : String := "java/lang/CharSequence"
def TJx9f9b0 : u_T := fun k => match k with
  | _ => ("", "", "", false)
def tyJx9f9b0 : Nat → FieldType := fun k => match k with
  | _ => .int
abbrev wsJx9f9b00 : List Cond := u_ws RJx9f9b0 TJx9f9b0 0
theorem nmJx9f9b0 : ∀ a, a < 0 → ∀ b, b < 0 → a ≠ b → (TJx9f9b0 a).2.1 ≠ (TJx9f9b0 b).2.1 := by decide +kernel
theorem tyJx9f9b0_ok : ∀ k, k < 0 → parseFieldDescriptor (TJx9f9b0 k).2.2.1 = some (tyJx9f9b0 k) := by decide +kernel
def RJx8e188 : String := "java/lang/Cloneable"
def TJx8e188 : u_T := fun k => match k with
  | _ => ("", "", "", false)
def tyJx8e188 : Nat → FieldType := fun k => match k with
  | _ => .int
abbrev wsJx8e1880 : List Cond := u_ws RJx8e188 TJx8e188 0
theorem nmJx8e188 : ∀ a, a < 0 → ∀ b, b < 0 → a ≠ b → (TJx8e188 a).2.1 ≠ (TJx8e188 b).2.1 := by decide +kernel
theorem tyJx8e188_ok : ∀ k, k < 0 → parseFieldDescriptor (TJx8e188 k).2.2.1 = some (tyJx8e188 k) := by decide +kernel
def RJxb160c : String := "java/lang/Comparable"
def TJxb160c : u_T := fun k => match k with
  | _ => ("", "", "", false)
def tyJxb160c : Nat → FieldType := fun k => match k with
  | _ => .int
abbrev wsJxb160c0 : List Cond := u_ws RJxb160c TJxb160c 0
theorem nmJxb160c : ∀ a, a < 0 → ∀ b, b < 0 → a ≠ b → (TJxb160c a).2.1 ≠ (TJxb160c b).2.1 := by decide +kernel
theorem tyJxb160c_ok : ∀ k, k < 0 → parseFieldDescriptor (TJxb160c k).2.2.1 = some (tyJxb160c k) := by decide +kernel
def RJ6 : String := "java/lang/Integer"
def TJ6 : u_T := fun k => match k with
  | _ => ("", "", "", false)
def tyJ6 : Nat → FieldType := fun k => match k with
  | _ => .int
abbrev wsJ60 : List Cond := u_ws RJ6 TJ6 0
theorem nmJ6 : ∀ a, a < 0 → ∀ b, b < 0 → a ≠ b → (TJ6 a).2.1 ≠ (TJ6 b).2.1 := by decide +kernel
theorem tyJ6_ok : ∀ k, k < 0 → parseFieldDescriptor (TJ6 k).2.2.1 = some (tyJ6 k) := by decide +kernel
abbrev cJ6_getChars_ba4f3 : ByteArray := prog_25_method_12_code
def yJ6_getChars_ba4f3 : MethodName := ⟨RJ6, "getChars", "(II[B)I"⟩
abbrev cJ6_stringSize_0f7a4 : ByteArray := prog_25_method_13_code
def yJ6_stringSize_0f7a4 : MethodName := ⟨RJ6, "stringSize", "(I)I"⟩
def RJ9 : String := "java/lang/Math"
def TJ9 : u_T := fun k => match k with
  | _ => ("", "", "", false)
def tyJ9 : Nat → FieldType := fun k => match k with
  | _ => .int
abbrev wsJ90 : List Cond := u_ws RJ9 TJ9 0
theorem nmJ9 : ∀ a, a < 0 → ∀ b, b < 0 → a ≠ b → (TJ9 a).2.1 ≠ (TJ9 b).2.1 := by decide +kernel
theorem tyJ9_ok : ∀ k, k < 0 → parseFieldDescriptor (TJ9 k).2.2.1 = some (tyJ9 k) := by decide +kernel
abbrev cJ9_max_7cf53 : ByteArray := prog_26_method_65_code
def yJ9_max_7cf53 : MethodName := ⟨RJ9, "max", "(II)I"⟩
abbrev cJ9_min_7cf53 : ByteArray := prog_26_method_69_code
def yJ9_min_7cf53 : MethodName := ⟨RJ9, "min", "(II)I"⟩
def RJxd2413 : String := "java/lang/Number"
def TJxd2413 : u_T := fun k => match k with
  | _ => ("", "", "", false)
def tyJxd2413 : Nat → FieldType := fun k => match k with
  | _ => .int
abbrev wsJxd24130 : List Cond := u_ws RJxd2413 TJxd2413 0
theorem nmJxd2413 : ∀ a, a < 0 → ∀ b, b < 0 → a ≠ b → (TJxd2413 a).2.1 ≠ (TJxd2413 b).2.1 := by decide +kernel
theorem tyJxd2413_ok : ∀ k, k < 0 → parseFieldDescriptor (TJxd2413 k).2.2.1 = some (tyJxd2413 k) := by decide +kernel
def RJ0 : String := "java/lang/String"
def TJ0 : u_T := fun k => match k with
  | 0 => ("java/lang/String", "value", "[B", true)
  | 1 => ("java/lang/String", "coder", "B", true)
  | 2 => ("java/lang/String", "hash", "I", false)
  | _ => ("java/lang/String", "hashIsZero", "Z", false)
def tyJ0 : Nat → FieldType := fun k => match k with
  | 0 => .array .byte
  | 1 => .byte
  | 2 => .int
  | _ => .boolean
abbrev wsJ00 : List Cond := u_ws RJ0 TJ0 4
theorem nmJ0 : ∀ a, a < 4 → ∀ b, b < 4 → a ≠ b → (TJ0 a).2.1 ≠ (TJ0 b).2.1 := by decide +kernel
theorem tyJ0_ok : ∀ k, k < 4 → parseFieldDescriptor (TJ0 k).2.2.1 = some (tyJ0 k) := by decide +kernel
abbrev cJ0_init_81219 : ByteArray := prog_29_method_53_code
def yJ0_init_81219 : MethodName := ⟨RJ0, "<init>", "(Ljava/lang/StringBuilder;)V"⟩
abbrev cJ0_length_8abf5 : ByteArray := prog_29_method_54_code
def yJ0_length_8abf5 : MethodName := ⟨RJ0, "length", "()I"⟩
abbrev cJ0_charAt_5068e : ByteArray := prog_29_method_56_code
def yJ0_charAt_5068e : MethodName := ⟨RJ0, "charAt", "(I)C"⟩
abbrev cJ0_getBytes_840e7 : ByteArray := prog_29_method_147_code
def yJ0_getBytes_840e7 : MethodName := ⟨RJ0, "getBytes", "([BIB)V"⟩
abbrev cJ0_init_db425 : ByteArray := prog_29_method_150_code
def yJ0_init_db425 : MethodName := ⟨RJ0, "<init>", "(Ljava/lang/AbstractStringBuilder;Ljava/lang/Void;)V"⟩
abbrev cJ0_coder_7d493 : ByteArray := prog_29_method_152_code
def yJ0_coder_7d493 : MethodName := ⟨RJ0, "coder", "()B"⟩
abbrev cJ0_isLatin1_aae02 : ByteArray := prog_29_method_154_code
def yJ0_isLatin1_aae02 : MethodName := ⟨RJ0, "isLatin1", "()Z"⟩
abbrev cJ0_checkIndex_df160 : ByteArray := prog_29_method_155_code
def yJ0_checkIndex_df160 : MethodName := ⟨RJ0, "checkIndex", "(II)V"⟩
abbrev cJ0_checkBoundsOffCount_cabcc : ByteArray := prog_29_method_157_code
def yJ0_checkBoundsOffCount_cabcc : MethodName := ⟨RJ0, "checkBoundsOffCount", "(III)I"⟩
abbrev cJ0_checkBoundsBeginEnd_23922 : ByteArray := prog_29_method_158_code
def yJ0_checkBoundsBeginEnd_23922 : MethodName := ⟨RJ0, "checkBoundsBeginEnd", "(III)V"⟩
def RJ4 : String := "java/lang/StringBuilder"
def TJ4 : u_T := fun k => match k with
  | 0 => ("java/lang/AbstractStringBuilder", "value", "[B", false)
  | 1 => ("java/lang/AbstractStringBuilder", "coder", "B", false)
  | 2 => ("java/lang/AbstractStringBuilder", "maybeLatin1", "Z", false)
  | _ => ("java/lang/AbstractStringBuilder", "count", "I", false)
def tyJ4 : Nat → FieldType := fun k => match k with
  | 0 => .array .byte
  | 1 => .byte
  | 2 => .boolean
  | _ => .int
abbrev wsJ40 : List Cond := u_ws RJ4 TJ4 4
theorem nmJ4 : ∀ a, a < 4 → ∀ b, b < 4 → a ≠ b → (TJ4 a).2.1 ≠ (TJ4 b).2.1 := by decide +kernel
theorem tyJ4_ok : ∀ k, k < 4 → parseFieldDescriptor (TJ4 k).2.2.1 = some (tyJ4 k) := by decide +kernel
abbrev cJ4_init_da8c8 : ByteArray := prog_30_method_1_code
def yJ4_init_da8c8 : MethodName := ⟨RJ4, "<init>", "()V"⟩
abbrev cJ4_init_a7421 : ByteArray := prog_30_method_3_code
def yJ4_init_a7421 : MethodName := ⟨RJ4, "<init>", "(Ljava/lang/String;)V"⟩
abbrev cJ4_append_15ec4 : ByteArray := prog_30_method_7_code
def yJ4_append_15ec4 : MethodName := ⟨RJ4, "append", "(Ljava/lang/String;)Ljava/lang/StringBuilder;"⟩
abbrev cJ4_append_cf468 : ByteArray := prog_30_method_14_code
def yJ4_append_cf468 : MethodName := ⟨RJ4, "append", "(C)Ljava/lang/StringBuilder;"⟩
abbrev cJ4_append_bf812 : ByteArray := prog_30_method_15_code
def yJ4_append_bf812 : MethodName := ⟨RJ4, "append", "(I)Ljava/lang/StringBuilder;"⟩
abbrev cJ4_toString_0e30d : ByteArray := prog_30_method_42_code
def yJ4_toString_0e30d : MethodName := ⟨RJ4, "toString", "()Ljava/lang/String;"⟩
abbrev cJ4_append_cf1ce : ByteArray := prog_30_method_80_code
def yJ4_append_cf1ce : MethodName := ⟨RJ4, "append", "(Ljava/lang/String;)Ljava/lang/AbstractStringBuilder;"⟩
abbrev cJ4_length_8abf5 : ByteArray := prog_30_method_93_code
def yJ4_length_8abf5 : MethodName := ⟨RJ4, "length", "()I"⟩
def RJ1 : String := "java/lang/StringLatin1"
def TJ1 : u_T := fun k => match k with
  | _ => ("", "", "", false)
def tyJ1 : Nat → FieldType := fun k => match k with
  | _ => .int
abbrev wsJ10 : List Cond := u_ws RJ1 TJ1 0
theorem nmJ1 : ∀ a, a < 0 → ∀ b, b < 0 → a ≠ b → (TJ1 a).2.1 ≠ (TJ1 b).2.1 := by decide +kernel
theorem tyJ1_ok : ∀ k, k < 0 → parseFieldDescriptor (TJ1 k).2.2.1 = some (tyJ1 k) := by decide +kernel
abbrev cJ1_charAt_3b067 : ByteArray := prog_31_method_2_code
def yJ1_charAt_3b067 : MethodName := ⟨RJ1, "charAt", "([BI)C"⟩
abbrev cJ1_canEncode_fc78d : ByteArray := prog_31_method_3_code
def yJ1_canEncode_fc78d : MethodName := ⟨RJ1, "canEncode", "(C)Z"⟩
abbrev cJ1_inflate_0e8fd : ByteArray := prog_31_method_50_code
def yJ1_inflate_0e8fd : MethodName := ⟨RJ1, "inflate", "([BI[BII)V"⟩
def RJ2 : String := "java/lang/StringUTF16"
def TJ2 : u_T := fun k => match k with
  | _ => ("", "", "", false)
def tyJ2 : Nat → FieldType := fun k => match k with
  | _ => .int
abbrev wsJ20 : List Cond := u_ws RJ2 TJ2 0
theorem nmJ2 : ∀ a, a < 0 → ∀ b, b < 0 → a ≠ b → (TJ2 a).2.1 ≠ (TJ2 b).2.1 := by decide +kernel
theorem tyJ2_ok : ∀ k, k < 0 → parseFieldDescriptor (TJ2 k).2.2.1 = some (tyJ2 k) := by decide +kernel
abbrev cJ2_newBytesFor_77867 : ByteArray := prog_32_method_2_code
def yJ2_newBytesFor_77867 : MethodName := ⟨RJ2, "newBytesFor", "(I)[B"⟩
abbrev cJ2_newBytesLength_0f7a4 : ByteArray := prog_32_method_3_code
def yJ2_newBytesLength_0f7a4 : MethodName := ⟨RJ2, "newBytesLength", "(I)I"⟩
abbrev cJ2_putChar_b72d1 : ByteArray := prog_32_method_4_code
def yJ2_putChar_b72d1 : MethodName := ⟨RJ2, "putChar", "([BII)V"⟩
abbrev cJ2_getChar_3b067 : ByteArray := prog_32_method_5_code
def yJ2_getChar_3b067 : MethodName := ⟨RJ2, "getChar", "([BI)C"⟩
abbrev cJ2_length_9d52b : ByteArray := prog_32_method_6_code
def yJ2_length_9d52b : MethodName := ⟨RJ2, "length", "([B)I"⟩
abbrev cJ2_coderFromArrayLen_85cad : ByteArray := prog_32_method_15_code
def yJ2_coderFromArrayLen_85cad : MethodName := ⟨RJ2, "coderFromArrayLen", "([BI)B"⟩
abbrev cJ2_compress_39247 : ByteArray := prog_32_method_17_code
def yJ2_compress_39247 : MethodName := ⟨RJ2, "compress", "([BII)[B"⟩
abbrev cJ2_compress_5af95 : ByteArray := prog_32_method_22_code
def yJ2_compress_5af95 : MethodName := ⟨RJ2, "compress", "([BI[BII)I"⟩
abbrev cJ2_putCharSB_b72d1 : ByteArray := prog_32_method_71_code
def yJ2_putCharSB_b72d1 : MethodName := ⟨RJ2, "putCharSB", "([BII)V"⟩
abbrev cJ2_getChars_46870 : ByteArray := prog_32_method_77_code
def yJ2_getChars_46870 : MethodName := ⟨RJ2, "getChars", "(III[B)I"⟩
abbrev cJ2_putCharsAt_cd4e5 : ByteArray := prog_32_method_81_code
def yJ2_putCharsAt_cd4e5 : MethodName := ⟨RJ2, "putCharsAt", "([BICCCC)I"⟩
abbrev cJ2_charAt_3b067 : ByteArray := prog_32_method_83_code
def yJ2_charAt_3b067 : MethodName := ⟨RJ2, "charAt", "([BI)C"⟩
abbrev cJ2_inflate_0e8fd : ByteArray := prog_32_method_86_code
def yJ2_inflate_0e8fd : MethodName := ⟨RJ2, "inflate", "([BI[BII)V"⟩
abbrev cJ2_getChars_ba4f3 : ByteArray := prog_32_method_89_code
def yJ2_getChars_ba4f3 : MethodName := ⟨RJ2, "getChars", "(II[B)I"⟩
abbrev cJ2_checkIndex_2214a : ByteArray := prog_32_method_91_code
def yJ2_checkIndex_2214a : MethodName := ⟨RJ2, "checkIndex", "(I[B)V"⟩
abbrev cJ2_checkBoundsBeginEnd_d044e : ByteArray := prog_32_method_93_code
def yJ2_checkBoundsBeginEnd_d044e : MethodName := ⟨RJ2, "checkBoundsBeginEnd", "(II[B)V"⟩
abbrev cJ2_checkBoundsOffCount_d044e : ByteArray := prog_32_method_94_code
def yJ2_checkBoundsOffCount_d044e : MethodName := ⟨RJ2, "checkBoundsOffCount", "(II[B)V"⟩
def RJ10 : String := "java/lang/System"
def TJ10 : u_T := fun k => match k with
  | _ => ("", "", "", false)
def tyJ10 : Nat → FieldType := fun k => match k with
  | _ => .int
abbrev wsJ100 : List Cond := u_ws RJ10 TJ10 0
theorem nmJ10 : ∀ a, a < 0 → ∀ b, b < 0 → a ≠ b → (TJ10 a).2.1 ≠ (TJ10 b).2.1 := by decide +kernel
theorem tyJ10_ok : ∀ k, k < 0 → parseFieldDescriptor (TJ10 k).2.2.1 = some (tyJ10 k) := by decide +kernel
def RJxfd54e : String := "java/lang/constant/Constable"
def TJxfd54e : u_T := fun k => match k with
  | _ => ("", "", "", false)
def tyJxfd54e : Nat → FieldType := fun k => match k with
  | _ => .int
abbrev wsJxfd54e0 : List Cond := u_ws RJxfd54e TJxfd54e 0
theorem nmJxfd54e : ∀ a, a < 0 → ∀ b, b < 0 → a ≠ b → (TJxfd54e a).2.1 ≠ (TJxfd54e b).2.1 := by decide +kernel
theorem tyJxfd54e_ok : ∀ k, k < 0 → parseFieldDescriptor (TJxfd54e k).2.2.1 = some (tyJxfd54e k) := by decide +kernel
def RJx3cf43 : String := "java/lang/constant/ConstantDesc"
def TJx3cf43 : u_T := fun k => match k with
  | _ => ("", "", "", false)
def tyJx3cf43 : Nat → FieldType := fun k => match k with
  | _ => .int
abbrev wsJx3cf430 : List Cond := u_ws RJx3cf43 TJx3cf43 0
theorem nmJx3cf43 : ∀ a, a < 0 → ∀ b, b < 0 → a ≠ b → (TJx3cf43 a).2.1 ≠ (TJx3cf43 b).2.1 := by decide +kernel
theorem tyJx3cf43_ok : ∀ k, k < 0 → parseFieldDescriptor (TJx3cf43 k).2.2.1 = some (tyJx3cf43 k) := by decide +kernel
def RJ7 : String := "java/util/Arrays"
def TJ7 : u_T := fun k => match k with
  | _ => ("", "", "", false)
def tyJ7 : Nat → FieldType := fun k => match k with
  | _ => .int
abbrev wsJ70 : List Cond := u_ws RJ7 TJ7 0
theorem nmJ7 : ∀ a, a < 0 → ∀ b, b < 0 → a ≠ b → (TJ7 a).2.1 ≠ (TJ7 b).2.1 := by decide +kernel
theorem tyJ7_ok : ∀ k, k < 0 → parseFieldDescriptor (TJ7 k).2.2.1 = some (tyJ7 k) := by decide +kernel
abbrev cJ7_copyOf_9075b : ByteArray := prog_37_method_121_code
def yJ7_copyOf_9075b : MethodName := ⟨RJ7, "copyOf", "([BI)[B"⟩
abbrev cJ7_checkLength_df160 : ByteArray := prog_37_method_131_code
def yJ7_checkLength_df160 : MethodName := ⟨RJ7, "checkLength", "(II)V"⟩
abbrev cJ7_copyOfRange_39247 : ByteArray := prog_37_method_132_code
def yJ7_copyOfRange_39247 : MethodName := ⟨RJ7, "copyOfRange", "([BII)[B"⟩
abbrev cJ7_copyOfRangeByte_39247 : ByteArray := prog_37_method_133_code
def yJ7_copyOfRangeByte_39247 : MethodName := ⟨RJ7, "copyOfRangeByte", "([BII)[B"⟩
def RJ8 : String := "jdk/internal/util/ArraysSupport"
def TJ8 : u_T := fun k => match k with
  | _ => ("", "", "", false)
def tyJ8 : Nat → FieldType := fun k => match k with
  | _ => .int
abbrev wsJ80 : List Cond := u_ws RJ8 TJ8 0
theorem nmJ8 : ∀ a, a < 0 → ∀ b, b < 0 → a ≠ b → (TJ8 a).2.1 ≠ (TJ8 b).2.1 := by decide +kernel
theorem tyJ8_ok : ∀ k, k < 0 → parseFieldDescriptor (TJ8 k).2.2.1 = some (tyJ8 k) := by decide +kernel
abbrev cJ8_newLength_cabcc : ByteArray := prog_39_method_27_code
def yJ8_newLength_cabcc : MethodName := ⟨RJ8, "newLength", "(III)I"⟩
abbrev cJ8_hugeLength_7cf53 : ByteArray := prog_39_method_28_code
def yJ8_hugeLength_7cf53 : MethodName := ⟨RJ8, "hugeLength", "(II)I"⟩
def RJ3 : String := "jdk/internal/util/Preconditions"
def TJ3 : u_T := fun k => match k with
  | _ => ("", "", "", false)
def tyJ3 : Nat → FieldType := fun k => match k with
  | _ => .int
abbrev wsJ30 : List Cond := u_ws RJ3 TJ3 0
theorem nmJ3 : ∀ a, a < 0 → ∀ b, b < 0 → a ≠ b → (TJ3 a).2.1 ≠ (TJ3 b).2.1 := by decide +kernel
theorem tyJ3_ok : ∀ k, k < 0 → parseFieldDescriptor (TJ3 k).2.2.1 = some (tyJ3 k) := by decide +kernel
abbrev cJ3_checkIndex_8e157 : ByteArray := prog_40_method_11_code
def yJ3_checkIndex_8e157 : MethodName := ⟨RJ3, "checkIndex", "(IILjava/util/function/BiFunction;)I"⟩
abbrev cJ3_checkFromToIndex_8c36e : ByteArray := prog_40_method_12_code
def yJ3_checkFromToIndex_8c36e : MethodName := ⟨RJ3, "checkFromToIndex", "(IIILjava/util/function/BiFunction;)I"⟩
abbrev cJ3_checkFromIndexSize_8c36e : ByteArray := prog_40_method_13_code
def yJ3_checkFromIndexSize_8c36e : MethodName := ⟨RJ3, "checkFromIndexSize", "(IIILjava/util/function/BiFunction;)I"⟩
def RL : String := "AlmanacOfficeLaw"
abbrev cL_cell : ByteArray := method_2_code
def yL_cell : MethodName := ⟨RL, "cell", "([II)I"⟩
abbrev cL_says : ByteArray := method_3_code
def yL_says : MethodName := ⟨RL, "says", "(LAlmanacOffice;Ljava/lang/String;)V"⟩
abbrev cL_loaded : ByteArray := method_4_code
def yL_loaded : MethodName := ⟨RL, "loaded", "(LAlmanacOffice;)I"⟩
abbrev cL_odds : ByteArray := method_5_code
def yL_odds : MethodName := ⟨RL, "odds", "([II)I"⟩
abbrev cL_people : ByteArray := method_6_code
def yL_people : MethodName := ⟨RL, "people", "([II)I"⟩
abbrev cL_trust : ByteArray := method_7_code
def yL_trust : MethodName := ⟨RL, "trust", "([II)I"⟩
abbrev cL_place : ByteArray := method_8_code
def yL_place : MethodName := ⟨RL, "place", "([II)I"⟩
abbrev cL_period : ByteArray := method_9_code
def yL_period : MethodName := ⟨RL, "period", "([II)I"⟩
abbrev cL_stock : ByteArray := method_10_code
def yL_stock : MethodName := ⟨RL, "stock", "([II)I"⟩
abbrev cL_price : ByteArray := method_11_code
def yL_price : MethodName := ⟨RL, "price", "([II)I"⟩
abbrev cL_text : ByteArray := method_12_code
def yL_text : MethodName := ⟨RL, "text", "([I)Ljava/lang/String;"⟩
abbrev cL_acts : ByteArray := method_13_code
def yL_acts : MethodName := ⟨RL, "acts", "(LAlmanacOffice;I)I"⟩
abbrev cL_law : ByteArray := code
def yL_law : MethodName := ⟨RL, "law", "([I)Z"⟩
theorem wsL_law_x0 : ∀ w ∈ (vx_at0 RX10 76 "java/lang/IllegalStateException" ["java/lang/RuntimeException", "java/lang/Exception"]).filter goodWord, w ∈ lw_tbl := by decide +kernel
theorem wsL_law_x1 : ∀ w ∈ (vx_at0 RX10 95 "java/lang/IllegalArgumentException" ["java/lang/RuntimeException", "java/lang/Exception"]).filter goodWord, w ∈ lw_tbl := by decide +kernel
theorem wsL_law_x2 : ∀ w ∈ (vx_at0 RX10 245 "java/lang/IndexOutOfBoundsException" ["java/lang/RuntimeException", "java/lang/Exception"]).filter goodWord, w ∈ lw_tbl := by decide +kernel
theorem wsL_law_x3 : ∀ w ∈ (vx_at0 RX10 207 "java/util/NoSuchElementException" ["java/lang/RuntimeException", "java/lang/Exception"]).filter goodWord, w ∈ lw_tbl := by decide +kernel
abbrev vwCl : List vw_C := [(RX0, TX0, 6), (RX1, TX1, 2), (RX2, TX2, 6), (RX3, TX3, 3), (RX4, TX4, 2), (RX5, TX5, 4), (RX6, TX6, 5), (RX7, TX7, 3), (RX8, TX8, 14), (RX9, TX9, 4), (RX10, TX10, 9), (RX11, TX11, 16), (RJ0, TJ0, 4), (RJ4, TJ4, 4)]
