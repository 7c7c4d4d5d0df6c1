theorem goodIn_app {big a b : List Cond} (ha : GoodIn big a) (hb : GoodIn big b) : GoodIn big (a ++ b) := fun w h => (List.mem_append.mp h).elim (ha w) (hb w)
/-! names, fields, types, code names (out of the printed names) -/
def RX0 : String := "QuarrelWays$History"
def TX0 : u_T := fun k => match k with
  | 0 => ("QuarrelWays$History", "states", "[LQuarrelWays$Town;", true)
  | 1 => ("QuarrelWays$History", "oldest", "I", false)
  | _ => ("QuarrelWays$History", "size", "I", false)
def tyX0 : Nat → FieldType := fun k => match k with
  | 0 => .array (.object "QuarrelWays$Town")
  | 1 => .int
  | _ => .int
abbrev wsX00 : List Cond := u_ws RX0 TX0 3
theorem nmX0 : ∀ a, a < 3 → ∀ b, b < 3 → a ≠ b → (TX0 a).2.1 ≠ (TX0 b).2.1 := by decide +kernel
theorem tyX0_ok : ∀ k, k < 3 → parseFieldDescriptor (TX0 k).2.2.1 = some (tyX0 k) := by decide +kernel
abbrev cX0_init : ByteArray := prog_2_method_1_code
def yX0_init : MethodName := ⟨RX0, "<init>", "()V"⟩
abbrev cX0_note : ByteArray := prog_2_method_2_code
def yX0_note : MethodName := ⟨RX0, "note", "(LQuarrelWays$Town;)V"⟩
abbrev cX0_keepUnlessError : ByteArray := prog_2_method_3_code
def yX0_keepUnlessError : MethodName := ⟨RX0, "keepUnlessError", "(I)I"⟩
abbrev cX0_goBack : ByteArray := prog_2_method_4_code
def yX0_goBack : MethodName := ⟨RX0, "goBack", "(LQuarrelWays$Town;)Z"⟩
abbrev cX0_stateAt : ByteArray := prog_2_method_5_code
def yX0_stateAt : MethodName := ⟨RX0, "stateAt", "(I)LQuarrelWays$Town;"⟩
abbrev cX0_placeOf : ByteArray := prog_2_method_6_code
def yX0_placeOf : MethodName := ⟨RX0, "placeOf", "(I)I"⟩
def RX1 : String := "QuarrelWays$Pad"
def TX1 : u_T := fun k => match k with
  | 0 => ("QuarrelWays$Pad", "signs", "[I", true)
  | 1 => ("QuarrelWays$Pad", "length", "I", false)
  | 2 => ("QuarrelWays$Pad", "at", "I", false)
  | 3 => ("QuarrelWays$Pad", "order", "I", false)
  | 4 => ("QuarrelWays$Pad", "numbers", "[I", true)
  | _ => ("QuarrelWays$Pad", "numbersRead", "I", false)
def tyX1 : Nat → FieldType := fun k => match k with
  | 0 => .array .int
  | 1 => .int
  | 2 => .int
  | 3 => .int
  | 4 => .array .int
  | _ => .int
abbrev wsX10 : List Cond := u_ws RX1 TX1 6
theorem nmX1 : ∀ a, a < 6 → ∀ b, b < 6 → a ≠ b → (TX1 a).2.1 ≠ (TX1 b).2.1 := by decide +kernel
theorem tyX1_ok : ∀ k, k < 6 → parseFieldDescriptor (TX1 k).2.2.1 = some (tyX1 k) := by decide +kernel
abbrev cX1_init : ByteArray := prog_3_method_1_code
def yX1_init : MethodName := ⟨RX1, "<init>", "()V"⟩
abbrev cX1_signsIn : ByteArray := prog_3_method_2_code
def yX1_signsIn : MethodName := ⟨RX1, "signsIn", "(J)I"⟩
abbrev cX1_append : ByteArray := prog_3_method_3_code
def yX1_append : MethodName := ⟨RX1, "append", "(JI)Z"⟩
abbrev cX1_addSign : ByteArray := prog_3_method_4_code
def yX1_addSign : MethodName := ⟨RX1, "addSign", "(I)V"⟩
abbrev cX1_signAt : ByteArray := prog_3_method_5_code
def yX1_signAt : MethodName := ⟨RX1, "signAt", "(I)I"⟩
abbrev cX1_number : ByteArray := prog_3_method_6_code
def yX1_number : MethodName := ⟨RX1, "number", "(I)I"⟩
abbrev cX1_firstFault : ByteArray := prog_3_method_7_code
def yX1_firstFault : MethodName := ⟨RX1, "firstFault", "()I"⟩
abbrev cX1_stepOverSemicolon : ByteArray := prog_3_method_8_code
def yX1_stepOverSemicolon : MethodName := ⟨RX1, "stepOverSemicolon", "()V"⟩
abbrev cX1_formOf : ByteArray := prog_3_method_9_code
def yX1_formOf : MethodName := ⟨RX1, "formOf", "(I)Ljava/lang/String;"⟩
abbrev cX1_readOrder : ByteArray := prog_3_method_10_code
def yX1_readOrder : MethodName := ⟨RX1, "readOrder", "()Z"⟩
abbrev cX1_readPart : ByteArray := prog_3_method_11_code
def yX1_readPart : MethodName := ⟨RX1, "readPart", "(C)Z"⟩
abbrev cX1_readNumber : ByteArray := prog_3_method_12_code
def yX1_readNumber : MethodName := ⟨RX1, "readNumber", "(I)Z"⟩
abbrev cX1_addNumber : ByteArray := prog_3_method_13_code
def yX1_addNumber : MethodName := ⟨RX1, "addNumber", "(I)V"⟩
abbrev cX1_isDigit : ByteArray := prog_3_method_14_code
def yX1_isDigit : MethodName := ⟨RX1, "isDigit", "(I)Z"⟩
def RX2 : String := "QuarrelWays$Town"
def TX2 : u_T := fun k => match k with
  | 0 => ("QuarrelWays$Town", "hour", "I", false)
  | 1 => ("QuarrelWays$Town", "allowed", "I", false)
  | 2 => ("QuarrelWays$Town", "persons", "I", false)
  | 3 => ("QuarrelWays$Town", "quarrels", "I", false)
  | 4 => ("QuarrelWays$Town", "events", "I", false)
  | _ => ("QuarrelWays$Town", "cells", "[I", true)
def tyX2 : Nat → FieldType := fun k => match k with
  | 0 => .int
  | 1 => .int
  | 2 => .int
  | 3 => .int
  | 4 => .int
  | _ => .array .int
abbrev wsX20 : List Cond := u_ws RX2 TX2 6
theorem nmX2 : ∀ a, a < 6 → ∀ b, b < 6 → a ≠ b → (TX2 a).2.1 ≠ (TX2 b).2.1 := by decide +kernel
theorem tyX2_ok : ∀ k, k < 6 → parseFieldDescriptor (TX2 k).2.2.1 = some (tyX2 k) := by decide +kernel
abbrev cX2_init : ByteArray := prog_4_method_1_code
def yX2_init : MethodName := ⟨RX2, "<init>", "()V"⟩
abbrev cX2_read : ByteArray := prog_4_method_2_code
def yX2_read : MethodName := ⟨RX2, "read", "(II)I"⟩
abbrev cX2_write : ByteArray := prog_4_method_3_code
def yX2_write : MethodName := ⟨RX2, "write", "(III)V"⟩
abbrev cX2_become : ByteArray := prog_4_method_4_code
def yX2_become : MethodName := ⟨RX2, "become", "(LQuarrelWays$Town;)V"⟩
abbrev cX2_hasPerson : ByteArray := prog_4_method_5_code
def yX2_hasPerson : MethodName := ⟨RX2, "hasPerson", "(I)Z"⟩
abbrev cX2_hasQuarrel : ByteArray := prog_4_method_6_code
def yX2_hasQuarrel : MethodName := ⟨RX2, "hasQuarrel", "(I)Z"⟩
abbrev cX2_isOpen : ByteArray := prog_4_method_7_code
def yX2_isOpen : MethodName := ⟨RX2, "isOpen", "(I)Z"⟩
abbrev cX2_allows : ByteArray := prog_4_method_8_code
def yX2_allows : MethodName := ⟨RX2, "allows", "(I)Z"⟩
abbrev cX2_hoursSince : ByteArray := prog_4_method_9_code
def yX2_hoursSince : MethodName := ⟨RX2, "hoursSince", "(I)I"⟩
abbrev cX2_oathLeft : ByteArray := prog_4_method_10_code
def yX2_oathLeft : MethodName := ⟨RX2, "oathLeft", "(I)I"⟩
abbrev cX2_isPoints : ByteArray := prog_4_method_11_code
def yX2_isPoints : MethodName := ⟨RX2, "isPoints", "(I)Z"⟩
abbrev cX2_isRank : ByteArray := prog_4_method_12_code
def yX2_isRank : MethodName := ⟨RX2, "isRank", "(I)Z"⟩
abbrev cX2_areThese : ByteArray := prog_4_method_13_code
def yX2_areThese : MethodName := ⟨RX2, "areThese", "(IIII)Z"⟩
abbrev cX2_changeSetting : ByteArray := prog_4_method_14_code
def yX2_changeSetting : MethodName := ⟨RX2, "changeSetting", "(II)I"⟩
abbrev cX2_addPerson : ByteArray := prog_4_method_15_code
def yX2_addPerson : MethodName := ⟨RX2, "addPerson", "(II)I"⟩
abbrev cX2_takeSecond : ByteArray := prog_4_method_16_code
def yX2_takeSecond : MethodName := ⟨RX2, "takeSecond", "(II)I"⟩
abbrev cX2_allowOrBar : ByteArray := prog_4_method_17_code
def yX2_allowOrBar : MethodName := ⟨RX2, "allowOrBar", "(I)I"⟩
abbrev cX2_errorOfInsult : ByteArray := prog_4_method_18_code
def yX2_errorOfInsult : MethodName := ⟨RX2, "errorOfInsult", "(III)I"⟩
abbrev cX2_haveOpenQuarrel : ByteArray := prog_4_method_19_code
def yX2_haveOpenQuarrel : MethodName := ⟨RX2, "haveOpenQuarrel", "(II)Z"⟩
abbrev cX2_addQuarrel : ByteArray := prog_4_method_20_code
def yX2_addQuarrel : MethodName := ⟨RX2, "addQuarrel", "(III)I"⟩
abbrev cX2_settleBy : ByteArray := prog_4_method_21_code
def yX2_settleBy : MethodName := ⟨RX2, "settleBy", "(II)I"⟩
abbrev cX2_duel : ByteArray := prog_4_method_22_code
def yX2_duel : MethodName := ⟨RX2, "duel", "(I)I"⟩
abbrev cX2_takeOath : ByteArray := prog_4_method_23_code
def yX2_takeOath : MethodName := ⟨RX2, "takeOath", "(I)I"⟩
abbrev cX2_moveOn : ByteArray := prog_4_method_24_code
def yX2_moveOn : MethodName := ⟨RX2, "moveOn", "(I)I"⟩
abbrev cX2_addPoints : ByteArray := prog_4_method_25_code
def yX2_addPoints : MethodName := ⟨RX2, "addPoints", "(III)V"⟩
abbrev cX2_bindByOath : ByteArray := prog_4_method_26_code
def yX2_bindByOath : MethodName := ⟨RX2, "bindByOath", "(I)V"⟩
abbrev cX2_addEvent : ByteArray := prog_4_method_27_code
def yX2_addEvent : MethodName := ⟨RX2, "addEvent", "(II)V"⟩
abbrev cX2_waysOf : ByteArray := prog_4_method_28_code
def yX2_waysOf : MethodName := ⟨RX2, "waysOf", "(I)I"⟩
abbrev cX2_waysBetween : ByteArray := prog_4_method_29_code
def yX2_waysBetween : MethodName := ⟨RX2, "waysBetween", "(IIII)I"⟩
abbrev cX2_firstOf : ByteArray := prog_4_method_30_code
def yX2_firstOf : MethodName := ⟨RX2, "firstOf", "(I)I"⟩
abbrev cX2_secondsCanSettle : ByteArray := prog_4_method_31_code
def yX2_secondsCanSettle : MethodName := ⟨RX2, "secondsCanSettle", "(III)Z"⟩
abbrev cX2_hoursToCool : ByteArray := prog_4_method_32_code
def yX2_hoursToCool : MethodName := ⟨RX2, "hoursToCool", "(I)I"⟩
abbrev cX2_peaceLeft : ByteArray := prog_4_method_33_code
def yX2_peaceLeft : MethodName := ⟨RX2, "peaceLeft", "(II)I"⟩
abbrev cX2_whyNotDue : ByteArray := prog_4_method_34_code
def yX2_whyNotDue : MethodName := ⟨RX2, "whyNotDue", "(II)I"⟩
abbrev cX2_hoursUntilWay : ByteArray := prog_4_method_35_code
def yX2_hoursUntilWay : MethodName := ⟨RX2, "hoursUntilWay", "(I)I"⟩
abbrev cX2_hoursUntilDuel : ByteArray := prog_4_method_36_code
def yX2_hoursUntilDuel : MethodName := ⟨RX2, "hoursUntilDuel", "(I)I"⟩
abbrev cX2_hoursUntilCool : ByteArray := prog_4_method_37_code
def yX2_hoursUntilCool : MethodName := ⟨RX2, "hoursUntilCool", "(I)I"⟩
abbrev cX2_orNoneIfTooFar : ByteArray := prog_4_method_38_code
def yX2_orNoneIfTooFar : MethodName := ⟨RX2, "orNoneIfTooFar", "(I)I"⟩
abbrev cX2_winnerOf : ByteArray := prog_4_method_39_code
def yX2_winnerOf : MethodName := ⟨RX2, "winnerOf", "(I)I"⟩
abbrev cX2_skillOf : ByteArray := prog_4_method_40_code
def yX2_skillOf : MethodName := ⟨RX2, "skillOf", "(I)I"⟩
abbrev cX2_tellPerson : ByteArray := prog_4_method_41_code
def yX2_tellPerson : MethodName := ⟨RX2, "tellPerson", "(II)I"⟩
abbrev cX2_tellQuarrel : ByteArray := prog_4_method_42_code
def yX2_tellQuarrel : MethodName := ⟨RX2, "tellQuarrel", "(II)I"⟩
abbrev cX2_tellEvent : ByteArray := prog_4_method_43_code
def yX2_tellEvent : MethodName := ⟨RX2, "tellEvent", "(II)I"⟩
abbrev cX2_quarrelThatPresses : ByteArray := prog_4_method_44_code
def yX2_quarrelThatPresses : MethodName := ⟨RX2, "quarrelThatPresses", "(I)I"⟩
abbrev cX2_quarrelsBefore : ByteArray := prog_4_method_45_code
def yX2_quarrelsBefore : MethodName := ⟨RX2, "quarrelsBefore", "(I)I"⟩
abbrev cX2_pressureOf : ByteArray := prog_4_method_46_code
def yX2_pressureOf : MethodName := ⟨RX2, "pressureOf", "(I)I"⟩
abbrev cX2_insultsFrom : ByteArray := prog_4_method_47_code
def yX2_insultsFrom : MethodName := ⟨RX2, "insultsFrom", "(I)I"⟩
abbrev cX2_tellNumber : ByteArray := prog_4_method_48_code
def yX2_tellNumber : MethodName := ⟨RX2, "tellNumber", "(I)I"⟩
abbrev cX2_quarrelsWith : ByteArray := prog_4_method_49_code
def yX2_quarrelsWith : MethodName := ⟨RX2, "quarrelsWith", "(II)I"⟩
abbrev cX2_duelsOf : ByteArray := prog_4_method_50_code
def yX2_duelsOf : MethodName := ⟨RX2, "duelsOf", "(I)I"⟩
abbrev cX2_openQuarrels : ByteArray := prog_4_method_51_code
def yX2_openQuarrels : MethodName := ⟨RX2, "openQuarrels", "()I"⟩
abbrev cX2_dueQuarrels : ByteArray := prog_4_method_52_code
def yX2_dueQuarrels : MethodName := ⟨RX2, "dueQuarrels", "()I"⟩
abbrev cX2_personsUnderOath : ByteArray := prog_4_method_53_code
def yX2_personsUnderOath : MethodName := ⟨RX2, "personsUnderOath", "()I"⟩
abbrev cX2_personsWithSecond : ByteArray := prog_4_method_54_code
def yX2_personsWithSecond : MethodName := ⟨RX2, "personsWithSecond", "(I)I"⟩
def RX3 : String := "QuarrelWays"
def TX3 : u_T := fun k => match k with
  | 0 => ("QuarrelWays", "town", "LQuarrelWays$Town;", true)
  | 1 => ("QuarrelWays", "history", "LQuarrelWays$History;", true)
  | 2 => ("QuarrelWays", "pad", "LQuarrelWays$Pad;", true)
  | _ => ("QuarrelWays", "slots", "[LQuarrelWays$Town;", true)
def tyX3 : Nat → FieldType := fun k => match k with
  | 0 => .object "QuarrelWays$Town"
  | 1 => .object "QuarrelWays$History"
  | 2 => .object "QuarrelWays$Pad"
  | _ => .array (.object "QuarrelWays$Town")
abbrev wsX30 : List Cond := u_ws RX3 TX3 4
theorem nmX3 : ∀ a, a < 4 → ∀ b, b < 4 → a ≠ b → (TX3 a).2.1 ≠ (TX3 b).2.1 := by decide +kernel
theorem tyX3_ok : ∀ k, k < 4 → parseFieldDescriptor (TX3 k).2.2.1 = some (tyX3 k) := by decide +kernel
abbrev cX3_init : ByteArray := prog_1_method_1_code
def yX3_init : MethodName := ⟨RX3, "<init>", "()V"⟩
abbrev cX3_set : ByteArray := prog_1_method_2_code
def yX3_set : MethodName := ⟨RX3, "set", "(II)I"⟩
abbrev cX3_person : ByteArray := prog_1_method_3_code
def yX3_person : MethodName := ⟨RX3, "person", "(II)I"⟩
abbrev cX3_second : ByteArray := prog_1_method_4_code
def yX3_second : MethodName := ⟨RX3, "second", "(II)I"⟩
abbrev cX3_allow : ByteArray := prog_1_method_5_code
def yX3_allow : MethodName := ⟨RX3, "allow", "(I)I"⟩
abbrev cX3_insult : ByteArray := prog_1_method_6_code
def yX3_insult : MethodName := ⟨RX3, "insult", "(III)I"⟩
abbrev cX3_settle : ByteArray := prog_1_method_7_code
def yX3_settle : MethodName := ⟨RX3, "settle", "(II)I"⟩
abbrev cX3_fight : ByteArray := prog_1_method_8_code
def yX3_fight : MethodName := ⟨RX3, "fight", "(I)I"⟩
abbrev cX3_swear : ByteArray := prog_1_method_9_code
def yX3_swear : MethodName := ⟨RX3, "swear", "(I)I"⟩
abbrev cX3_pass : ByteArray := prog_1_method_10_code
def yX3_pass : MethodName := ⟨RX3, "pass", "(I)I"⟩
abbrev cX3_of : ByteArray := prog_1_method_11_code
def yX3_of : MethodName := ⟨RX3, "of", "(II)I"⟩
abbrev cX3_quarrel : ByteArray := prog_1_method_12_code
def yX3_quarrel : MethodName := ⟨RX3, "quarrel", "(II)I"⟩
abbrev cX3_record : ByteArray := prog_1_method_13_code
def yX3_record : MethodName := ⟨RX3, "record", "(II)I"⟩
abbrev cX3_pressing : ByteArray := prog_1_method_14_code
def yX3_pressing : MethodName := ⟨RX3, "pressing", "(I)I"⟩
abbrev cX3_insults : ByteArray := prog_1_method_15_code
def yX3_insults : MethodName := ⟨RX3, "insults", "(I)I"⟩
abbrev cX3_count : ByteArray := prog_1_method_16_code
def yX3_count : MethodName := ⟨RX3, "count", "(I)I"⟩
abbrev cX3_why : ByteArray := prog_1_method_17_code
def yX3_why : MethodName := ⟨RX3, "why", "(I)I"⟩
abbrev cX3_firstWay : ByteArray := prog_1_method_18_code
def yX3_firstWay : MethodName := ⟨RX3, "firstWay", "(I)I"⟩
abbrev cX3_opensIn : ByteArray := prog_1_method_19_code
def yX3_opensIn : MethodName := ⟨RX3, "opensIn", "(I)I"⟩
abbrev cX3_dueIn : ByteArray := prog_1_method_20_code
def yX3_dueIn : MethodName := ⟨RX3, "dueIn", "(I)I"⟩
abbrev cX3_ifInsulted : ByteArray := prog_1_method_21_code
def yX3_ifInsulted : MethodName := ⟨RX3, "ifInsulted", "(III)I"⟩
abbrev cX3_ifFought : ByteArray := prog_1_method_22_code
def yX3_ifFought : MethodName := ⟨RX3, "ifFought", "(I)I"⟩
abbrev cX3_put : ByteArray := prog_1_method_23_code
def yX3_put : MethodName := ⟨RX3, "put", "(J)I"⟩
abbrev cX3_wipe : ByteArray := prog_1_method_24_code
def yX3_wipe : MethodName := ⟨RX3, "wipe", "()I"⟩
abbrev cX3_fault : ByteArray := prog_1_method_25_code
def yX3_fault : MethodName := ⟨RX3, "fault", "()I"⟩
abbrev cX3_carryOut : ByteArray := prog_1_method_26_code
def yX3_carryOut : MethodName := ⟨RX3, "carryOut", "()I"⟩
abbrev cX3_undo : ByteArray := prog_1_method_27_code
def yX3_undo : MethodName := ⟨RX3, "undo", "()I"⟩
abbrev cX3_save : ByteArray := prog_1_method_28_code
def yX3_save : MethodName := ⟨RX3, "save", "(I)I"⟩
abbrev cX3_restore : ByteArray := prog_1_method_29_code
def yX3_restore : MethodName := ⟨RX3, "restore", "(I)I"⟩
abbrev cX3_isSlot : ByteArray := prog_1_method_30_code
def yX3_isSlot : MethodName := ⟨RX3, "isSlot", "(I)Z"⟩
abbrev cX3_isError : ByteArray := prog_1_method_31_code
def yX3_isError : MethodName := ⟨RX3, "isError", "(I)Z"⟩
abbrev cX3_carryOutOrder : ByteArray := prog_1_method_32_code
def yX3_carryOutOrder : MethodName := ⟨RX3, "carryOutOrder", "()I"⟩
def RX4 : String := "QuarrelWaysModel"
def TX4 : u_T := fun k => match k with
  | 0 => ("QuarrelWaysModel", "s", "[I", true)
  | 1 => ("QuarrelWaysModel", "aside", "[I", true)
  | 2 => ("QuarrelWaysModel", "before", "[I", true)
  | 3 => ("QuarrelWaysModel", "known", "I", false)
  | 4 => ("QuarrelWaysModel", "kept", "[I", true)
  | 5 => ("QuarrelWaysModel", "isKept", "[Z", true)
  | 6 => ("QuarrelWaysModel", "pad", "[I", true)
  | 7 => ("QuarrelWaysModel", "length", "I", false)
  | 8 => ("QuarrelWaysModel", "place", "I", false)
  | _ => ("QuarrelWaysModel", "isWrong", "Z", false)
def tyX4 : Nat → FieldType := fun k => match k with
  | 0 => .array .int
  | 1 => .array .int
  | 2 => .array .int
  | 3 => .int
  | 4 => .array .int
  | 5 => .array .boolean
  | 6 => .array .int
  | 7 => .int
  | 8 => .int
  | _ => .boolean
abbrev wsX40 : List Cond := u_ws RX4 TX4 10
theorem nmX4 : ∀ a, a < 10 → ∀ b, b < 10 → a ≠ b → (TX4 a).2.1 ≠ (TX4 b).2.1 := by decide +kernel
theorem tyX4_ok : ∀ k, k < 10 → parseFieldDescriptor (TX4 k).2.2.1 = some (tyX4 k) := by decide +kernel
abbrev cX4_init : ByteArray := prog_6_method_1_code
def yX4_init : MethodName := ⟨RX4, "<init>", "()V"⟩
abbrev cX4_in : ByteArray := prog_6_method_3_code
def yX4_in : MethodName := ⟨RX4, "in", "(III)Z"⟩
abbrev cX4_putAside : ByteArray := prog_6_method_4_code
def yX4_putAside : MethodName := ⟨RX4, "putAside", "()V"⟩
abbrev cX4_end : ByteArray := prog_6_method_5_code
def yX4_end : MethodName := ⟨RX4, "end", "(I)I"⟩
abbrev cX4_isPerson : ByteArray := prog_6_method_6_code
def yX4_isPerson : MethodName := ⟨RX4, "isPerson", "(I)Z"⟩
abbrev cX4_isQuarrel : ByteArray := prog_6_method_7_code
def yX4_isQuarrel : MethodName := ⟨RX4, "isQuarrel", "(I)Z"⟩
abbrev cX4_person0 : ByteArray := prog_6_method_8_code
def yX4_person0 : MethodName := ⟨RX4, "person0", "(II)I"⟩
abbrev cX4_quarrel0 : ByteArray := prog_6_method_9_code
def yX4_quarrel0 : MethodName := ⟨RX4, "quarrel0", "(II)I"⟩
abbrev cX4_isUnderOath : ByteArray := prog_6_method_10_code
def yX4_isUnderOath : MethodName := ⟨RX4, "isUnderOath", "(II)Z"⟩
abbrev cX4_areOfThese : ByteArray := prog_6_method_11_code
def yX4_areOfThese : MethodName := ⟨RX4, "areOfThese", "(III)Z"⟩
abbrev cX4_hasPeace : ByteArray := prog_6_method_12_code
def yX4_hasPeace : MethodName := ⟨RX4, "hasPeace", "(IIII)Z"⟩
abbrev cX4_haveSeconds : ByteArray := prog_6_method_13_code
def yX4_haveSeconds : MethodName := ⟨RX4, "haveSeconds", "(III)Z"⟩
abbrev cX4_waysFor : ByteArray := prog_6_method_14_code
def yX4_waysFor : MethodName := ⟨RX4, "waysFor", "(IIIIII)I"⟩
abbrev cX4_since : ByteArray := prog_6_method_15_code
def yX4_since : MethodName := ⟨RX4, "since", "(I)I"⟩
abbrev cX4_waysOf : ByteArray := prog_6_method_16_code
def yX4_waysOf : MethodName := ⟨RX4, "waysOf", "(II)I"⟩
abbrev cX4_reason : ByteArray := prog_6_method_17_code
def yX4_reason : MethodName := ⟨RX4, "reason", "(II)I"⟩
abbrev cX4_skill : ByteArray := prog_6_method_18_code
def yX4_skill : MethodName := ⟨RX4, "skill", "(I)I"⟩
abbrev cX4_winnerOf : ByteArray := prog_6_method_19_code
def yX4_winnerOf : MethodName := ⟨RX4, "winnerOf", "(I)I"⟩
abbrev cX4_tell : ByteArray := prog_6_method_20_code
def yX4_tell : MethodName := ⟨RX4, "tell", "(II)V"⟩
abbrev cX4_change : ByteArray := prog_6_method_21_code
def yX4_change : MethodName := ⟨RX4, "change", "(III)V"⟩
abbrev cX4_oath : ByteArray := prog_6_method_22_code
def yX4_oath : MethodName := ⟨RX4, "oath", "(I)V"⟩
abbrev cX4_quarrelsThat : ByteArray := prog_6_method_23_code
def yX4_quarrelsThat : MethodName := ⟨RX4, "quarrelsThat", "(I)I"⟩
abbrev cX4_size : ByteArray := prog_6_method_24_code
def yX4_size : MethodName := ⟨RX4, "size", "(I)I"⟩
abbrev cX4_due : ByteArray := prog_6_method_25_code
def yX4_due : MethodName := ⟨RX4, "due", "()I"⟩
abbrev cX4_comes : ByteArray := prog_6_method_26_code
def yX4_comes : MethodName := ⟨RX4, "comes", "(II)I"⟩
abbrev cX4_takes : ByteArray := prog_6_method_27_code
def yX4_takes : MethodName := ⟨RX4, "takes", "(II)I"⟩
abbrev cX4_turns : ByteArray := prog_6_method_28_code
def yX4_turns : MethodName := ⟨RX4, "turns", "(I)I"⟩
abbrev cX4_offends : ByteArray := prog_6_method_29_code
def yX4_offends : MethodName := ⟨RX4, "offends", "(III)I"⟩
abbrev cX4_settles : ByteArray := prog_6_method_30_code
def yX4_settles : MethodName := ⟨RX4, "settles", "(II)I"⟩
abbrev cX4_fights : ByteArray := prog_6_method_31_code
def yX4_fights : MethodName := ⟨RX4, "fights", "(I)I"⟩
abbrev cX4_swears : ByteArray := prog_6_method_32_code
def yX4_swears : MethodName := ⟨RX4, "swears", "(I)I"⟩
abbrev cX4_passes : ByteArray := prog_6_method_33_code
def yX4_passes : MethodName := ⟨RX4, "passes", "(I)I"⟩
abbrev cX4_set : ByteArray := prog_6_method_34_code
def yX4_set : MethodName := ⟨RX4, "set", "(II)I"⟩
abbrev cX4_person : ByteArray := prog_6_method_35_code
def yX4_person : MethodName := ⟨RX4, "person", "(II)I"⟩
abbrev cX4_second : ByteArray := prog_6_method_36_code
def yX4_second : MethodName := ⟨RX4, "second", "(II)I"⟩
abbrev cX4_allow : ByteArray := prog_6_method_37_code
def yX4_allow : MethodName := ⟨RX4, "allow", "(I)I"⟩
abbrev cX4_insult : ByteArray := prog_6_method_38_code
def yX4_insult : MethodName := ⟨RX4, "insult", "(III)I"⟩
abbrev cX4_settle : ByteArray := prog_6_method_39_code
def yX4_settle : MethodName := ⟨RX4, "settle", "(II)I"⟩
abbrev cX4_fight : ByteArray := prog_6_method_40_code
def yX4_fight : MethodName := ⟨RX4, "fight", "(I)I"⟩
abbrev cX4_swear : ByteArray := prog_6_method_41_code
def yX4_swear : MethodName := ⟨RX4, "swear", "(I)I"⟩
abbrev cX4_pass : ByteArray := prog_6_method_42_code
def yX4_pass : MethodName := ⟨RX4, "pass", "(I)I"⟩
abbrev cX4_parts : ByteArray := prog_6_method_43_code
def yX4_parts : MethodName := ⟨RX4, "parts", "(II)I"⟩
abbrev cX4_secondOf : ByteArray := prog_6_method_44_code
def yX4_secondOf : MethodName := ⟨RX4, "secondOf", "(I)I"⟩
abbrev cX4_oathLeft : ByteArray := prog_6_method_45_code
def yX4_oathLeft : MethodName := ⟨RX4, "oathLeft", "(I)I"⟩
abbrev cX4_of : ByteArray := prog_6_method_46_code
def yX4_of : MethodName := ⟨RX4, "of", "(II)I"⟩
abbrev cX4_quarrel : ByteArray := prog_6_method_47_code
def yX4_quarrel : MethodName := ⟨RX4, "quarrel", "(II)I"⟩
abbrev cX4_record : ByteArray := prog_6_method_48_code
def yX4_record : MethodName := ⟨RX4, "record", "(II)I"⟩
abbrev cX4_press : ByteArray := prog_6_method_49_code
def yX4_press : MethodName := ⟨RX4, "press", "(I)I"⟩
abbrev cX4_pressing : ByteArray := prog_6_method_50_code
def yX4_pressing : MethodName := ⟨RX4, "pressing", "(I)I"⟩
abbrev cX4_insults : ByteArray := prog_6_method_51_code
def yX4_insults : MethodName := ⟨RX4, "insults", "(I)I"⟩
abbrev cX4_sworn : ByteArray := prog_6_method_52_code
def yX4_sworn : MethodName := ⟨RX4, "sworn", "()I"⟩
abbrev cX4_count : ByteArray := prog_6_method_53_code
def yX4_count : MethodName := ⟨RX4, "count", "(I)I"⟩
abbrev cX4_why : ByteArray := prog_6_method_54_code
def yX4_why : MethodName := ⟨RX4, "why", "(I)I"⟩
abbrev cX4_firstWay : ByteArray := prog_6_method_55_code
def yX4_firstWay : MethodName := ⟨RX4, "firstWay", "(I)I"⟩
abbrev cX4_opensIn : ByteArray := prog_6_method_56_code
def yX4_opensIn : MethodName := ⟨RX4, "opensIn", "(I)I"⟩
abbrev cX4_dueIn : ByteArray := prog_6_method_57_code
def yX4_dueIn : MethodName := ⟨RX4, "dueIn", "(I)I"⟩
abbrev cX4_ifInsulted : ByteArray := prog_6_method_58_code
def yX4_ifInsulted : MethodName := ⟨RX4, "ifInsulted", "(III)I"⟩
abbrev cX4_ifFought : ByteArray := prog_6_method_59_code
def yX4_ifFought : MethodName := ⟨RX4, "ifFought", "(I)I"⟩
abbrev cX4_code : ByteArray := prog_6_method_60_code
def yX4_code : MethodName := ⟨RX4, "code", "(JI)I"⟩
abbrev cX4_put : ByteArray := prog_6_method_61_code
def yX4_put : MethodName := ⟨RX4, "put", "(J)I"⟩
abbrev cX4_wipe : ByteArray := prog_6_method_62_code
def yX4_wipe : MethodName := ⟨RX4, "wipe", "()I"⟩
abbrev cX4_sign : ByteArray := prog_6_method_63_code
def yX4_sign : MethodName := ⟨RX4, "sign", "(II)I"⟩
abbrev cX4_digit : ByteArray := prog_6_method_64_code
def yX4_digit : MethodName := ⟨RX4, "digit", "()I"⟩
abbrev cX4_number : ByteArray := prog_6_method_65_code
def yX4_number : MethodName := ⟨RX4, "number", "()I"⟩
abbrev cX4_order : ByteArray := prog_6_method_66_code
def yX4_order : MethodName := ⟨RX4, "order", "(Z)I"⟩
abbrev cX4_go : ByteArray := prog_6_method_67_code
def yX4_go : MethodName := ⟨RX4, "go", "(Z)I"⟩
abbrev cX4_fault : ByteArray := prog_6_method_68_code
def yX4_fault : MethodName := ⟨RX4, "fault", "()I"⟩
abbrev cX4_carryOut : ByteArray := prog_6_method_69_code
def yX4_carryOut : MethodName := ⟨RX4, "carryOut", "()I"⟩
abbrev cX4_undo : ByteArray := prog_6_method_70_code
def yX4_undo : MethodName := ⟨RX4, "undo", "()I"⟩
abbrev cX4_save : ByteArray := prog_6_method_71_code
def yX4_save : MethodName := ⟨RX4, "save", "(I)I"⟩
abbrev cX4_restore : ByteArray := prog_6_method_72_code
def yX4_restore : MethodName := ⟨RX4, "restore", "(I)I"⟩
def RJ6 : String := "java/lang/Integer"
def TJ6 : u_T := fun k => match k with
  | _ => ("", "", "", false)
def tyJ6 : Nat → FieldType := fun k => match k with
  | _ => .int
abbrev wsJ60 : List Cond := u_ws RJ6 TJ6 0
theorem nmJ6 : ∀ a, a < 0 → ∀ b, b < 0 → a ≠ b → (TJ6 a).2.1 ≠ (TJ6 b).2.1 := by decide +kernel
theorem tyJ6_ok : ∀ k, k < 0 → parseFieldDescriptor (TJ6 k).2.2.1 = some (tyJ6 k) := by decide +kernel
abbrev cJ6_bitCount_0f7a4 : ByteArray := prog_7_method_49_code
def yJ6_bitCount_0f7a4 : MethodName := ⟨RJ6, "bitCount", "(I)I"⟩
def RJ9 : String := "java/lang/Math"
def TJ9 : u_T := fun k => match k with
  | _ => ("", "", "", false)
def tyJ9 : Nat → FieldType := fun k => match k with
  | _ => .int
abbrev wsJ90 : List Cond := u_ws RJ9 TJ9 0
theorem nmJ9 : ∀ a, a < 0 → ∀ b, b < 0 → a ≠ b → (TJ9 a).2.1 ≠ (TJ9 b).2.1 := by decide +kernel
theorem tyJ9_ok : ∀ k, k < 0 → parseFieldDescriptor (TJ9 k).2.2.1 = some (tyJ9 k) := by decide +kernel
abbrev cJ9_floorMod_7cf53 : ByteArray := prog_8_method_50_code
def yJ9_floorMod_7cf53 : MethodName := ⟨RJ9, "floorMod", "(II)I"⟩
abbrev cJ9_max_7cf53 : ByteArray := prog_8_method_65_code
def yJ9_max_7cf53 : MethodName := ⟨RJ9, "max", "(II)I"⟩
abbrev cJ9_min_7cf53 : ByteArray := prog_8_method_69_code
def yJ9_min_7cf53 : MethodName := ⟨RJ9, "min", "(II)I"⟩
def RJ0 : String := "java/lang/String"
def TJ0 : u_T := fun k => match k with
  | _ => ("", "", "", false)
def tyJ0 : Nat → FieldType := fun k => match k with
  | _ => .int
abbrev wsJ00 : List Cond := u_ws RJ0 TJ0 0
theorem nmJ0 : ∀ a, a < 0 → ∀ b, b < 0 → a ≠ b → (TJ0 a).2.1 ≠ (TJ0 b).2.1 := by decide +kernel
theorem tyJ0_ok : ∀ k, k < 0 → parseFieldDescriptor (TJ0 k).2.2.1 = some (tyJ0 k) := by decide +kernel
abbrev cJ0_length_8abf5 : ByteArray := prog_9_method_54_code
def yJ0_length_8abf5 : MethodName := ⟨RJ0, "length", "()I"⟩
abbrev cJ0_isEmpty_aae02 : ByteArray := prog_9_method_55_code
def yJ0_isEmpty_aae02 : MethodName := ⟨RJ0, "isEmpty", "()Z"⟩
abbrev cJ0_charAt_5068e : ByteArray := prog_9_method_56_code
def yJ0_charAt_5068e : MethodName := ⟨RJ0, "charAt", "(I)C"⟩
abbrev cJ0_coder_7d493 : ByteArray := prog_9_method_152_code
def yJ0_coder_7d493 : MethodName := ⟨RJ0, "coder", "()B"⟩
abbrev cJ0_isLatin1_aae02 : ByteArray := prog_9_method_154_code
def yJ0_isLatin1_aae02 : MethodName := ⟨RJ0, "isLatin1", "()Z"⟩
abbrev cJ0_checkIndex_df160 : ByteArray := prog_9_method_155_code
def yJ0_checkIndex_df160 : MethodName := ⟨RJ0, "checkIndex", "(II)V"⟩
def RJ1 : String := "java/lang/StringLatin1"
def TJ1 : u_T := fun k => match k with
  | _ => ("", "", "", false)
def tyJ1 : Nat → FieldType := fun k => match k with
  | _ => .int
abbrev wsJ10 : List Cond := u_ws RJ1 TJ1 0
theorem nmJ1 : ∀ a, a < 0 → ∀ b, b < 0 → a ≠ b → (TJ1 a).2.1 ≠ (TJ1 b).2.1 := by decide +kernel
theorem tyJ1_ok : ∀ k, k < 0 → parseFieldDescriptor (TJ1 k).2.2.1 = some (tyJ1 k) := by decide +kernel
abbrev cJ1_charAt_3b067 : ByteArray := prog_10_method_2_code
def yJ1_charAt_3b067 : MethodName := ⟨RJ1, "charAt", "([BI)C"⟩
def RJ2 : String := "java/lang/StringUTF16"
def TJ2 : u_T := fun k => match k with
  | _ => ("", "", "", false)
def tyJ2 : Nat → FieldType := fun k => match k with
  | _ => .int
abbrev wsJ20 : List Cond := u_ws RJ2 TJ2 0
theorem nmJ2 : ∀ a, a < 0 → ∀ b, b < 0 → a ≠ b → (TJ2 a).2.1 ≠ (TJ2 b).2.1 := by decide +kernel
theorem tyJ2_ok : ∀ k, k < 0 → parseFieldDescriptor (TJ2 k).2.2.1 = some (tyJ2 k) := by decide +kernel
abbrev cJ2_getChar_3b067 : ByteArray := prog_11_method_5_code
def yJ2_getChar_3b067 : MethodName := ⟨RJ2, "getChar", "([BI)C"⟩
abbrev cJ2_length_9d52b : ByteArray := prog_11_method_6_code
def yJ2_length_9d52b : MethodName := ⟨RJ2, "length", "([B)I"⟩
abbrev cJ2_charAt_3b067 : ByteArray := prog_11_method_83_code
def yJ2_charAt_3b067 : MethodName := ⟨RJ2, "charAt", "([BI)C"⟩
abbrev cJ2_checkIndex_2214a : ByteArray := prog_11_method_91_code
def yJ2_checkIndex_2214a : MethodName := ⟨RJ2, "checkIndex", "(I[B)V"⟩
def RJ10 : String := "java/lang/System"
def TJ10 : u_T := fun k => match k with
  | _ => ("", "", "", false)
def tyJ10 : Nat → FieldType := fun k => match k with
  | _ => .int
abbrev wsJ100 : List Cond := u_ws RJ10 TJ10 0
theorem nmJ10 : ∀ a, a < 0 → ∀ b, b < 0 → a ≠ b → (TJ10 a).2.1 ≠ (TJ10 b).2.1 := by decide +kernel
theorem tyJ10_ok : ∀ k, k < 0 → parseFieldDescriptor (TJ10 k).2.2.1 = some (tyJ10 k) := by decide +kernel
def RJ3 : String := "jdk/internal/util/Preconditions"
def TJ3 : u_T := fun k => match k with
  | _ => ("", "", "", false)
def tyJ3 : Nat → FieldType := fun k => match k with
  | _ => .int
abbrev wsJ30 : List Cond := u_ws RJ3 TJ3 0
theorem nmJ3 : ∀ a, a < 0 → ∀ b, b < 0 → a ≠ b → (TJ3 a).2.1 ≠ (TJ3 b).2.1 := by decide +kernel
theorem tyJ3_ok : ∀ k, k < 0 → parseFieldDescriptor (TJ3 k).2.2.1 = some (tyJ3 k) := by decide +kernel
abbrev cJ3_checkIndex_8e157 : ByteArray := prog_13_method_11_code
def yJ3_checkIndex_8e157 : MethodName := ⟨RJ3, "checkIndex", "(IILjava/util/function/BiFunction;)I"⟩
def RL : String := "QuarrelWaysLaw"
abbrev cL_law : ByteArray := code
def yL_law : MethodName := ⟨RL, "law", "([I)Z"⟩
abbrev vwCl : List vw_C := [(RX0, TX0, 3), (RX1, TX1, 6), (RX2, TX2, 6), (RX3, TX3, 4), (RX4, TX4, 10)]
/-! the words of all methods, one list -/
def B0 : List Cond := [.code yX2_write cX2_write 5 none, .fieldLink RX2 27 "QuarrelWays$Town" "cells" "[I", .code yX2_init cX2_init 1 none, .methodLink RX2 5 objectInit, .instanceMethod objectInit, .code objectInit ⟨#[0xb1]⟩ 1 none, .fieldLink RX2 11 "QuarrelWays$Town" "hour" "I", .fieldLink RX2 15 "QuarrelWays$Town" "allowed" "I", .fieldLink RX2 18 "QuarrelWays$Town" "persons" "I", .fieldLink RX2 21 "QuarrelWays$Town" "quarrels" "I", .fieldLink RX2 24 "QuarrelWays$Town" "events" "I", .arrayClass .int, .methodLink RX2 31 yX2_write, .instanceMethod yX2_write, .selects RX2 yX2_write yX2_write, .initialized RX2, .code yX0_init cX0_init 2 none, .methodLink RX0 3 objectInit, .classLink RX0 9 RX2, .fieldLink RX0 11 "QuarrelWays$History" "states" "[LQuarrelWays$Town;", .fieldLink RX0 15 "QuarrelWays$History" "oldest" "I", .fieldLink RX0 19 "QuarrelWays$History" "size" "I", .instantiable RX2 6, .instanceMethod yX2_init, .code yJ9_floorMod_7cf53 cJ9_floorMod_7cf53 3 (some .int)]
def B1 : List Cond := [.code yX0_placeOf cX0_placeOf 2 (some .int), .methodLink RX0 41 yJ9_floorMod_7cf53, .static yJ9_floorMod_7cf53, .initialized RJ9, .code yX0_stateAt cX0_stateAt 3 (some (.object "QuarrelWays$Town")), .methodLink RX0 37 yX0_placeOf, .instanceMethod yX0_placeOf, .selects RX0 yX0_placeOf yX0_placeOf, .initialized RX0, .code yX2_become cX2_become 2 none, .methodLink RX2 35 Lib.Math.min.name, .static Lib.Math.min.name, .code Lib.Math.min.name Lib.Math.min.code 2 (some .int), .methodLink RX2 41 arraycopyName, .native arraycopyName, .static arraycopyName, .initialized RJ10, .methodLink RX0 23 yX0_stateAt, .instanceMethod yX0_stateAt, .selects RX0 yX0_stateAt yX0_stateAt, .instanceMethod yX2_become, .selects RX2 yX2_become yX2_become, .code yX0_note cX0_note 3 none, .code yX3_isError cX3_isError 1 (some .boolean), .code yX0_keepUnlessError cX0_keepUnlessError 2 (some .int)]
def B2 : List Cond := [.static yX3_isError, .initialized RX3, .code yX0_goBack cX0_goBack 3 (some .boolean), .code yX1_init cX1_init 1 none, .methodLink RX1 3 objectInit, .fieldLink RX1 11 "QuarrelWays$Pad" "signs" "[I", .fieldLink RX1 15 "QuarrelWays$Pad" "length" "I", .fieldLink RX1 19 "QuarrelWays$Pad" "at" "I", .fieldLink RX1 22 "QuarrelWays$Pad" "order" "I", .fieldLink RX1 25 "QuarrelWays$Pad" "numbers" "[I", .fieldLink RX1 28 "QuarrelWays$Pad" "numbersRead" "I", .code yX1_signsIn cX1_signsIn 5 (some .int), .constantLong RX1 31 255, .constantLong RX1 33 33, .constantLong RX1 35 126, .code yX1_addSign cX1_addSign 2 none, .code yX1_append cX1_append 5 (some .boolean), .methodLink RX1 37 yX1_addSign, .instanceMethod yX1_addSign, .selects RX1 yX1_addSign yX1_addSign, .initialized RX1, .code yX1_signAt cX1_signAt 2 (some .int), .code yX1_number cX1_number 2 (some .int), .code yX1_formOf cX1_formOf 1 (some (.object "java/lang/String")), .code yJ0_isEmpty_aae02 cJ0_isEmpty_aae02 1 (some .boolean)]
def B3 : List Cond := [.fieldLink RJ0 9 "java/lang/String" "value" "[B", .code yJ0_coder_7d493 cJ0_coder_7d493 1 (some .byte), .fieldLink RJ0 38 "java/lang/String" "COMPACT_STRINGS" "Z", .fieldLink RJ0 15 "java/lang/String" "coder" "B", .code yJ0_length_8abf5 cJ0_length_8abf5 1 (some .int), .methodLink RJ0 335 yJ0_coder_7d493, .instanceMethod yJ0_coder_7d493, .selects RJ0 yJ0_coder_7d493 yJ0_coder_7d493, .initialized RJ0, .code yJ0_isLatin1_aae02 cJ0_isLatin1_aae02 1 (some .boolean), .code yJ3_checkIndex_8e157 cJ3_checkIndex_8e157 3 (some .int), .code yJ0_checkIndex_df160 cJ0_checkIndex_df160 2 none, .fieldLink RJ0 1053 "jdk/internal/util/Preconditions" "SIOOBE_FORMATTER" "Ljava/util/function/BiFunction;", .methodLink RJ0 1059 yJ3_checkIndex_8e157, .static yJ3_checkIndex_8e157, .initialized RJ3, .code yJ1_charAt_3b067 cJ1_charAt_3b067 2 (some .char), .methodLink RJ1 9 yJ0_checkIndex_df160, .static yJ0_checkIndex_df160, .code yJ2_length_9d52b cJ2_length_9d52b 1 (some .int), .code yJ2_checkIndex_2214a cJ2_checkIndex_2214a 2 none, .methodLink RJ2 48 yJ2_length_9d52b, .static yJ2_length_9d52b, .initialized RJ2, .methodLink RJ2 414 yJ0_checkIndex_df160]
def B4 : List Cond := [.code yJ2_getChar_3b067 cJ2_getChar_3b067 2 (some .char), .fieldLink RJ2 44 "java/lang/StringUTF16" "$assertionsDisabled" "Z", .fieldLink RJ2 59 "java/lang/StringUTF16" "HI_BYTE_SHIFT" "I", .fieldLink RJ2 63 "java/lang/StringUTF16" "LO_BYTE_SHIFT" "I", .code yJ2_charAt_3b067 cJ2_charAt_3b067 2 (some .char), .methodLink RJ2 67 yJ2_checkIndex_2214a, .static yJ2_checkIndex_2214a, .methodLink RJ2 71 yJ2_getChar_3b067, .static yJ2_getChar_3b067, .methodLink RJ0 492 yJ0_isLatin1_aae02, .instanceMethod yJ0_isLatin1_aae02, .selects RJ0 yJ0_isLatin1_aae02 yJ0_isLatin1_aae02, .methodLink RJ0 495 yJ1_charAt_3b067, .static yJ1_charAt_3b067, .initialized RJ1, .methodLink RJ0 498 yJ2_charAt_3b067, .static yJ2_charAt_3b067, .code yJ0_charAt_5068e cJ0_charAt_5068e 2 (some .char), .code yX1_isDigit cX1_isDigit 1 (some .boolean), .code yX1_addNumber cX1_addNumber 2 none, .code yX1_readNumber cX1_readNumber 3 (some .boolean), .methodLink RX1 45 yX1_signAt, .instanceMethod yX1_signAt, .selects RX1 yX1_signAt yX1_signAt, .methodLink RX1 87 yX1_isDigit]
def B5 : List Cond := [.static yX1_isDigit, .methodLink RX1 90 yX1_addNumber, .instanceMethod yX1_addNumber, .selects RX1 yX1_addNumber yX1_addNumber, .code yX1_readPart cX1_readPart 2 (some .boolean), .methodLink RX1 83 yX1_readNumber, .instanceMethod yX1_readNumber, .selects RX1 yX1_readNumber yX1_readNumber, .methodLink RX1 63 yX1_formOf, .static yX1_formOf, .methodLink RX1 67 yJ0_isEmpty_aae02, .instanceMethod yJ0_isEmpty_aae02, .selects RJ0 yJ0_isEmpty_aae02 yJ0_isEmpty_aae02, .methodLink RX1 72 yJ0_length_8abf5, .instanceMethod yJ0_length_8abf5, .selects RJ0 yJ0_length_8abf5 yJ0_length_8abf5, .methodLink RX1 75 yJ0_charAt_5068e, .instanceMethod yJ0_charAt_5068e, .selects RJ0 yJ0_charAt_5068e yJ0_charAt_5068e, .methodLink RX1 79 yX1_readPart, .instanceMethod yX1_readPart, .selects RX1 yX1_readPart yX1_readPart, .code yX1_readOrder cX1_readOrder 3 (some .boolean), .methodLink RX1 41 yX1_readOrder, .instanceMethod yX1_readOrder]
def B6 : List Cond := [.selects RX1 yX1_readOrder yX1_readOrder, .code yX1_firstFault cX1_firstFault 2 (some .int), .code yX1_stepOverSemicolon cX1_stepOverSemicolon 1 none, .code yX2_read cX2_read 4 (some .int), .code yX2_hasPerson cX2_hasPerson 2 (some .boolean), .code yX2_hasQuarrel cX2_hasQuarrel 2 (some .boolean), .code yX2_isOpen cX2_isOpen 2 (some .boolean), .methodLink RX2 47 yX2_read, .instanceMethod yX2_read, .selects RX2 yX2_read yX2_read, .code yX2_allows cX2_allows 2 (some .boolean), .code yX2_hoursSince cX2_hoursSince 2 (some .int), .code yX2_oathLeft cX2_oathLeft 2 (some .int), .methodLink RX2 50 Lib.Math.max.name, .static Lib.Math.max.name, .code Lib.Math.max.name Lib.Math.max.code 2 (some .int), .code yX2_isPoints cX2_isPoints 1 (some .boolean), .code yX2_isRank cX2_isRank 1 (some .boolean), .code yX2_areThese cX2_areThese 4 (some .boolean), .code yX2_changeSetting cX2_changeSetting 4 (some .int), .fieldLink RX2 53 "QuarrelWays$Town" "LOWEST" "[I", .fieldLink RX2 56 "QuarrelWays$Town" "HIGHEST" "[I", .code yX2_addPerson cX2_addPerson 4 (some .int), .methodLink RX2 59 yX2_isPoints, .static yX2_isPoints]
def B7 : List Cond := [.code yX2_takeSecond cX2_takeSecond 4 (some .int), .methodLink RX2 63 yX2_hasPerson, .instanceMethod yX2_hasPerson, .selects RX2 yX2_hasPerson yX2_hasPerson, .code yX2_allowOrBar cX2_allowOrBar 2 (some .int), .code yX2_errorOfInsult cX2_errorOfInsult 4 (some .int), .methodLink RX2 66 yX2_isRank, .static yX2_isRank, .code yX2_haveOpenQuarrel cX2_haveOpenQuarrel 4 (some .boolean), .methodLink RX2 69 yX2_isOpen, .instanceMethod yX2_isOpen, .selects RX2 yX2_isOpen yX2_isOpen, .methodLink RX2 72 yX2_areThese, .static yX2_areThese, .code yX2_addEvent cX2_addEvent 4 none, .methodLink RX2 114 yJ9_floorMod_7cf53, .methodLink RX2 76 yX2_errorOfInsult, .instanceMethod yX2_errorOfInsult, .selects RX2 yX2_errorOfInsult yX2_errorOfInsult, .methodLink RX2 80 yX2_haveOpenQuarrel, .instanceMethod yX2_haveOpenQuarrel, .selects RX2 yX2_haveOpenQuarrel yX2_haveOpenQuarrel, .methodLink RX2 84 yX2_addEvent, .instanceMethod yX2_addEvent, .selects RX2 yX2_addEvent yX2_addEvent]
def B8 : List Cond := [.code yX2_addQuarrel cX2_addQuarrel 6 (some .int), .code yX2_secondsCanSettle cX2_secondsCanSettle 6 (some .boolean), .code yX2_hoursToCool cX2_hoursToCool 2 (some .int), .code yX2_peaceLeft cX2_peaceLeft 5 (some .int), .methodLink RX2 124 yX2_secondsCanSettle, .instanceMethod yX2_secondsCanSettle, .selects RX2 yX2_secondsCanSettle yX2_secondsCanSettle, .methodLink RX2 128 yX2_hoursToCool, .instanceMethod yX2_hoursToCool, .selects RX2 yX2_hoursToCool yX2_hoursToCool, .methodLink RX2 111 yX2_oathLeft, .instanceMethod yX2_oathLeft, .selects RX2 yX2_oathLeft yX2_oathLeft, .methodLink RX2 131 yX2_peaceLeft, .instanceMethod yX2_peaceLeft, .selects RX2 yX2_peaceLeft yX2_peaceLeft, .code yX2_waysBetween cX2_waysBetween 6 (some .int), .methodLink RX2 117 yX2_hoursSince, .instanceMethod yX2_hoursSince, .selects RX2 yX2_hoursSince yX2_hoursSince, .methodLink RX2 120 yX2_waysBetween, .instanceMethod yX2_waysBetween, .selects RX2 yX2_waysBetween yX2_waysBetween, .code yX2_waysOf cX2_waysOf 2 (some .int), .code yX2_addPoints cX2_addPoints 5 none]
def B9 : List Cond := [.code yX2_quarrelsWith cX2_quarrelsWith 5 (some .int), .methodLink RX2 88 yX2_hasQuarrel, .instanceMethod yX2_hasQuarrel, .selects RX2 yX2_hasQuarrel yX2_hasQuarrel, .methodLink RX2 91 yX2_waysOf, .instanceMethod yX2_waysOf, .selects RX2 yX2_waysOf yX2_waysOf, .methodLink RX2 95 yX2_addPoints, .instanceMethod yX2_addPoints, .selects RX2 yX2_addPoints yX2_addPoints, .methodLink RX2 98 yX2_quarrelsWith, .instanceMethod yX2_quarrelsWith, .selects RX2 yX2_quarrelsWith yX2_quarrelsWith, .code yX2_settleBy cX2_settleBy 3 (some .int), .code yX2_whyNotDue cX2_whyNotDue 3 (some .int), .code yX2_skillOf cX2_skillOf 2 (some .int), .code yX2_winnerOf cX2_winnerOf 4 (some .int), .methodLink RX2 143 yX2_skillOf, .instanceMethod yX2_skillOf, .selects RX2 yX2_skillOf yX2_skillOf, .code yX2_bindByOath cX2_bindByOath 3 none, .methodLink RX2 101 yX2_whyNotDue, .instanceMethod yX2_whyNotDue, .selects RX2 yX2_whyNotDue yX2_whyNotDue, .methodLink RX2 104 yX2_winnerOf]
def B10 : List Cond := [.instanceMethod yX2_winnerOf, .selects RX2 yX2_winnerOf yX2_winnerOf, .methodLink RX2 107 yX2_bindByOath, .instanceMethod yX2_bindByOath, .selects RX2 yX2_bindByOath yX2_bindByOath, .code yX2_duel cX2_duel 5 (some .int), .code yX2_takeOath cX2_takeOath 2 (some .int), .code yX2_moveOn cX2_moveOn 3 (some .int), .code yX2_firstOf cX2_firstOf 2 (some .int), .code yX2_hoursUntilCool cX2_hoursUntilCool 2 (some .int), .code yX2_orNoneIfTooFar cX2_orNoneIfTooFar 1 (some .int), .methodLink RX2 134 yX2_allows, .instanceMethod yX2_allows, .selects RX2 yX2_allows yX2_allows, .methodLink RX2 137 yX2_hoursUntilCool, .instanceMethod yX2_hoursUntilCool, .selects RX2 yX2_hoursUntilCool yX2_hoursUntilCool, .methodLink RX2 140 yX2_orNoneIfTooFar, .static yX2_orNoneIfTooFar, .code yX2_hoursUntilWay cX2_hoursUntilWay 2 (some .int), .code yX2_hoursUntilDuel cX2_hoursUntilDuel 5 (some .int), .code yX2_duelsOf cX2_duelsOf 5 (some .int), .code yX2_personsWithSecond cX2_personsWithSecond 4 (some .int), .methodLink RX2 146 yX2_duelsOf, .instanceMethod yX2_duelsOf]
def B11 : List Cond := [.selects RX2 yX2_duelsOf yX2_duelsOf, .methodLink RX2 149 yX2_personsWithSecond, .instanceMethod yX2_personsWithSecond, .selects RX2 yX2_personsWithSecond yX2_personsWithSecond, .code yX2_tellPerson cX2_tellPerson 3 (some .int), .code yX2_tellQuarrel cX2_tellQuarrel 3 (some .int), .code yX2_tellEvent cX2_tellEvent 4 (some .int), .code yX2_pressureOf cX2_pressureOf 2 (some .int), .code yX2_quarrelsBefore cX2_quarrelsBefore 5 (some .int), .methodLink RX2 155 yX2_pressureOf, .instanceMethod yX2_pressureOf, .selects RX2 yX2_pressureOf yX2_pressureOf, .code yX2_quarrelThatPresses cX2_quarrelThatPresses 3 (some .int), .methodLink RX2 152 yX2_quarrelsBefore, .instanceMethod yX2_quarrelsBefore, .selects RX2 yX2_quarrelsBefore yX2_quarrelsBefore, .code yX2_insultsFrom cX2_insultsFrom 4 (some .int), .code yX2_openQuarrels cX2_openQuarrels 3 (some .int), .code yX2_dueQuarrels cX2_dueQuarrels 3 (some .int), .code yX2_personsUnderOath cX2_personsUnderOath 3 (some .int), .methodLink RX2 158 yX2_openQuarrels, .instanceMethod yX2_openQuarrels, .selects RX2 yX2_openQuarrels yX2_openQuarrels, .methodLink RX2 162 yX2_dueQuarrels, .instanceMethod yX2_dueQuarrels]
def B12 : List Cond := [.selects RX2 yX2_dueQuarrels yX2_dueQuarrels, .methodLink RX2 165 yX2_personsUnderOath, .instanceMethod yX2_personsUnderOath, .selects RX2 yX2_personsUnderOath yX2_personsUnderOath, .code yX2_tellNumber cX2_tellNumber 2 (some .int), .methodLink RX3 1 objectInit, .classLink RX3 7 RX2, .fieldLink RX3 10 "QuarrelWays" "town" "LQuarrelWays$Town;", .classLink RX3 16 RX0, .instantiable RX0 3, .fieldLink RX3 19 "QuarrelWays" "history" "LQuarrelWays$History;", .classLink RX3 23 RX1, .instantiable RX1 6, .fieldLink RX3 26 "QuarrelWays" "pad" "LQuarrelWays$Pad;", .fieldLink RX3 30 "QuarrelWays" "slots" "[LQuarrelWays$Town;", .instanceMethod yX0_init, .instanceMethod yX1_init, .code yX3_init cX3_init 1 none, .instanceMethod yX0_note, .selects RX0 yX0_note yX0_note, .instanceMethod yX2_changeSetting, .selects RX2 yX2_changeSetting yX2_changeSetting, .instanceMethod yX0_keepUnlessError, .selects RX0 yX0_keepUnlessError yX0_keepUnlessError, .code yX3_set cX3_set 3 (some .int)]
def B13 : List Cond := [.instanceMethod yX2_addPerson, .selects RX2 yX2_addPerson yX2_addPerson, .code yX3_person cX3_person 3 (some .int), .instanceMethod yX2_takeSecond, .selects RX2 yX2_takeSecond yX2_takeSecond, .code yX3_second cX3_second 3 (some .int), .instanceMethod yX2_allowOrBar, .selects RX2 yX2_allowOrBar yX2_allowOrBar, .code yX3_allow cX3_allow 2 (some .int), .instanceMethod yX2_addQuarrel, .selects RX2 yX2_addQuarrel yX2_addQuarrel, .code yX3_insult cX3_insult 4 (some .int), .instanceMethod yX2_settleBy, .selects RX2 yX2_settleBy yX2_settleBy, .code yX3_settle cX3_settle 3 (some .int), .instanceMethod yX2_duel, .selects RX2 yX2_duel yX2_duel, .code yX3_fight cX3_fight 2 (some .int), .instanceMethod yX2_takeOath, .selects RX2 yX2_takeOath yX2_takeOath, .code yX3_swear cX3_swear 2 (some .int), .code yJ6_bitCount_0f7a4 cJ6_bitCount_0f7a4 1 (some .int), .constant RJ6 265 1431655765, .constant RJ6 266 858993459, .constant RJ6 267 252645135]
def B14 : List Cond := [.instanceMethod yX2_moveOn, .selects RX2 yX2_moveOn yX2_moveOn, .methodLink RX3 71 yX3_isError, .methodLink RX3 79 yJ6_bitCount_0f7a4, .static yJ6_bitCount_0f7a4, .initialized RJ6, .code yX3_pass cX3_pass 3 (some .int), .instanceMethod yX2_tellPerson, .selects RX2 yX2_tellPerson yX2_tellPerson, .code yX3_of cX3_of 3 (some .int), .instanceMethod yX2_tellQuarrel, .selects RX2 yX2_tellQuarrel yX2_tellQuarrel, .code yX3_quarrel cX3_quarrel 3 (some .int), .code yX3_record cX3_record 3 (some .int), .instanceMethod yX2_tellEvent, .selects RX2 yX2_tellEvent yX2_tellEvent, .instanceMethod yX2_quarrelThatPresses, .selects RX2 yX2_quarrelThatPresses yX2_quarrelThatPresses, .code yX3_pressing cX3_pressing 2 (some .int), .code yX3_insults cX3_insults 2 (some .int), .instanceMethod yX2_insultsFrom, .selects RX2 yX2_insultsFrom yX2_insultsFrom, .instanceMethod yX2_tellNumber, .selects RX2 yX2_tellNumber yX2_tellNumber, .code yX3_count cX3_count 2 (some .int)]
def B15 : List Cond := [.code yX3_why cX3_why 2 (some .int), .static yX2_firstOf, .code yX3_firstWay cX3_firstWay 2 (some .int), .instanceMethod yX2_hoursUntilWay, .selects RX2 yX2_hoursUntilWay yX2_hoursUntilWay, .code yX3_opensIn cX3_opensIn 2 (some .int), .instanceMethod yX2_hoursUntilDuel, .selects RX2 yX2_hoursUntilDuel yX2_hoursUntilDuel, .code yX3_dueIn cX3_dueIn 2 (some .int), .code yX3_ifInsulted cX3_ifInsulted 5 (some .int), .code yX3_ifFought cX3_ifFought 2 (some .int), .code yX3_put cX3_put 4 (some .int), .static yX1_signsIn, .instanceMethod yX1_append, .selects RX1 yX1_append yX1_append, .code yX3_wipe cX3_wipe 2 (some .int), .instanceMethod yX1_firstFault, .selects RX1 yX1_firstFault yX1_firstFault, .code yX3_fault cX3_fault 1 (some .int), .instanceMethod yX1_number, .selects RX1 yX1_number yX1_number, .code yX3_carryOutOrder cX3_carryOutOrder 3 (some .int), .methodLink RX3 158 yX3_carryOutOrder, .instanceMethod yX3_carryOutOrder, .selects RX3 yX3_carryOutOrder yX3_carryOutOrder]
def B16 : List Cond := [.instanceMethod yX1_stepOverSemicolon, .selects RX1 yX1_stepOverSemicolon yX1_stepOverSemicolon, .code yX3_carryOut cX3_carryOut 3 (some .int), .instanceMethod yX0_goBack, .selects RX0 yX0_goBack yX0_goBack, .code yX3_undo cX3_undo 1 (some .int), .code yX3_isSlot cX3_isSlot 2 (some .boolean), .methodLink RX3 168 yX3_isSlot, .instanceMethod yX3_isSlot, .selects RX3 yX3_isSlot yX3_isSlot, .code yX3_save cX3_save 3 (some .int), .code yX3_restore cX3_restore 3 (some .int), .code yX4_init cX4_init 1 none, .methodLink RX4 1 objectInit, .fieldLink RX4 7 "QuarrelWaysModel" "s" "[I", .fieldLink RX4 13 "QuarrelWaysModel" "aside" "[I", .fieldLink RX4 16 "QuarrelWaysModel" "before" "[I", .fieldLink RX4 19 "QuarrelWaysModel" "kept" "[I", .arrayClass .boolean, .fieldLink RX4 22 "QuarrelWaysModel" "isKept" "[Z", .fieldLink RX4 26 "QuarrelWaysModel" "pad" "[I", .code yX4_in cX4_in 3 (some .boolean), .code yX4_putAside cX4_putAside 2 none, .code yX4_end cX4_end 3 (some .int), .fieldLink RX4 29 "QuarrelWaysModel" "known" "I"]
def B17 : List Cond := [.code yX4_isPerson cX4_isPerson 2 (some .boolean), .methodLink RX4 33 yX4_in, .static yX4_in, .initialized RX4, .code yX4_isQuarrel cX4_isQuarrel 2 (some .boolean), .code yX4_person0 cX4_person0 3 (some .int), .code yX4_quarrel0 cX4_quarrel0 3 (some .int), .code yX4_isUnderOath cX4_isUnderOath 3 (some .boolean), .methodLink RX4 37 yX4_person0, .instanceMethod yX4_person0, .selects RX4 yX4_person0 yX4_person0, .code yX4_areOfThese cX4_areOfThese 6 (some .boolean), .methodLink RX4 41 yX4_quarrel0, .instanceMethod yX4_quarrel0, .selects RX4 yX4_quarrel0 yX4_quarrel0, .code yX4_hasPeace cX4_hasPeace 8 (some .boolean), .methodLink RX4 44 yX4_areOfThese, .instanceMethod yX4_areOfThese, .selects RX4 yX4_areOfThese yX4_areOfThese, .code yX4_haveSeconds cX4_haveSeconds 7 (some .boolean), .methodLink RX4 47 yX4_haveSeconds, .instanceMethod yX4_haveSeconds, .selects RX4 yX4_haveSeconds yX4_haveSeconds, .methodLink RX4 50 yX4_isUnderOath, .instanceMethod yX4_isUnderOath]
def B18 : List Cond := [.selects RX4 yX4_isUnderOath yX4_isUnderOath, .methodLink RX4 54 yX4_hasPeace, .instanceMethod yX4_hasPeace, .selects RX4 yX4_hasPeace yX4_hasPeace, .code yX4_waysFor cX4_waysFor 8 (some .int), .code yX4_since cX4_since 2 (some .int), .methodLink RX4 58 yX4_since, .instanceMethod yX4_since, .selects RX4 yX4_since yX4_since, .methodLink RX4 62 yX4_waysFor, .instanceMethod yX4_waysFor, .selects RX4 yX4_waysFor yX4_waysFor, .code yX4_waysOf cX4_waysOf 3 (some .int), .methodLink RX4 66 yX4_waysOf, .instanceMethod yX4_waysOf, .selects RX4 yX4_waysOf yX4_waysOf, .code yX4_reason cX4_reason 3 (some .int), .code yX4_skill cX4_skill 2 (some .int), .code yX4_winnerOf cX4_winnerOf 4 (some .int), .methodLink RX4 69 yX4_skill, .instanceMethod yX4_skill, .selects RX4 yX4_skill yX4_skill, .code yX4_tell cX4_tell 4 none, .code yX4_change cX4_change 5 none, .code yX4_oath cX4_oath 3 none]
def B19 : List Cond := [.code yX4_quarrelsThat cX4_quarrelsThat 4 (some .int), .code yX4_size cX4_size 3 (some .int), .methodLink RX4 72 yX4_reason, .instanceMethod yX4_reason, .selects RX4 yX4_reason yX4_reason, .code yX4_due cX4_due 3 (some .int), .code yX4_comes cX4_comes 4 (some .int), .code yX4_takes cX4_takes 4 (some .int), .methodLink RX4 75 yX4_isPerson, .instanceMethod yX4_isPerson, .selects RX4 yX4_isPerson yX4_isPerson, .code yX4_turns cX4_turns 2 (some .int), .code yX4_offends cX4_offends 5 (some .int), .methodLink RX4 79 yX4_tell, .instanceMethod yX4_tell, .selects RX4 yX4_tell yX4_tell, .methodLink RX4 83 yX4_isQuarrel, .instanceMethod yX4_isQuarrel, .selects RX4 yX4_isQuarrel yX4_isQuarrel, .methodLink RX4 86 yX4_change, .instanceMethod yX4_change, .selects RX4 yX4_change yX4_change, .methodLink RX4 90 yX4_quarrelsThat, .instanceMethod yX4_quarrelsThat, .selects RX4 yX4_quarrelsThat yX4_quarrelsThat]
def B20 : List Cond := [.methodLink RX4 93 yX4_size, .static yX4_size, .code yX4_settles cX4_settles 4 (some .int), .methodLink RX4 96 yX4_winnerOf, .instanceMethod yX4_winnerOf, .selects RX4 yX4_winnerOf yX4_winnerOf, .methodLink RX4 99 yX4_oath, .instanceMethod yX4_oath, .selects RX4 yX4_oath yX4_oath, .code yX4_fights cX4_fights 5 (some .int), .code yX4_swears cX4_swears 2 (some .int), .methodLink RX4 103 yX4_due, .instanceMethod yX4_due, .selects RX4 yX4_due yX4_due, .code yX4_passes cX4_passes 2 (some .int), .code yX4_set cX4_set 6 (some .int), .methodLink RX4 107 yX4_putAside, .instanceMethod yX4_putAside, .selects RX4 yX4_putAside yX4_putAside, .methodLink RX4 110 yX4_end, .instanceMethod yX4_end, .selects RX4 yX4_end yX4_end, .code yX4_person cX4_person 3 (some .int), .methodLink RX4 113 yX4_comes, .instanceMethod yX4_comes]
def B21 : List Cond := [.selects RX4 yX4_comes yX4_comes, .methodLink RX4 116 yX4_takes, .instanceMethod yX4_takes, .selects RX4 yX4_takes yX4_takes, .code yX4_second cX4_second 3 (some .int), .code yX4_allow cX4_allow 2 (some .int), .methodLink RX4 119 yX4_turns, .instanceMethod yX4_turns, .selects RX4 yX4_turns yX4_turns, .methodLink RX4 122 yX4_offends, .instanceMethod yX4_offends, .selects RX4 yX4_offends yX4_offends, .code yX4_insult cX4_insult 4 (some .int), .methodLink RX4 126 yX4_settles, .instanceMethod yX4_settles, .selects RX4 yX4_settles yX4_settles, .code yX4_settle cX4_settle 3 (some .int), .methodLink RX4 129 yX4_fights, .instanceMethod yX4_fights, .selects RX4 yX4_fights yX4_fights, .code yX4_fight cX4_fight 2 (some .int), .methodLink RX4 132 yX4_swears, .instanceMethod yX4_swears, .selects RX4 yX4_swears yX4_swears, .code yX4_swear cX4_swear 2 (some .int)]
def B22 : List Cond := [.methodLink RX4 135 yX4_passes, .instanceMethod yX4_passes, .selects RX4 yX4_passes yX4_passes, .code yX4_pass cX4_pass 2 (some .int), .code yX4_parts cX4_parts 7 (some .int), .code yX4_secondOf cX4_secondOf 4 (some .int), .code yX4_oathLeft cX4_oathLeft 3 (some .int), .methodLink RX4 138 yX4_oathLeft, .instanceMethod yX4_oathLeft, .selects RX4 yX4_oathLeft yX4_oathLeft, .methodLink RX4 141 yX4_parts, .instanceMethod yX4_parts, .selects RX4 yX4_parts yX4_parts, .methodLink RX4 144 yX4_secondOf, .instanceMethod yX4_secondOf, .selects RX4 yX4_secondOf yX4_secondOf, .code yX4_of cX4_of 3 (some .int), .code yX4_quarrel cX4_quarrel 3 (some .int), .code yX4_record cX4_record 3 (some .int), .code yX4_press cX4_press 2 (some .int), .code yX4_pressing cX4_pressing 6 (some .int), .methodLink RX4 147 yX4_press, .instanceMethod yX4_press, .selects RX4 yX4_press yX4_press, .code yX4_insults cX4_insults 4 (some .int)]
def B23 : List Cond := [.code yX4_sworn cX4_sworn 3 (some .int), .fieldLink RX4 153 "QuarrelWaysModel" "length" "I", .methodLink RX4 150 yX4_sworn, .instanceMethod yX4_sworn, .selects RX4 yX4_sworn yX4_sworn, .code yX4_count cX4_count 2 (some .int), .code yX4_why cX4_why 2 (some .int), .code yX4_firstWay cX4_firstWay 3 (some .int), .code yX4_opensIn cX4_opensIn 3 (some .int), .code yX4_dueIn cX4_dueIn 3 (some .int), .code yX4_ifInsulted cX4_ifInsulted 4 (some .int), .code yX4_ifFought cX4_ifFought 2 (some .int), .code yX4_code cX4_code 3 (some .int), .constantLong RX4 156 255, .code yX4_put cX4_put 5 (some .int), .methodLink RX4 158 yX4_code, .static yX4_code, .code yX4_wipe cX4_wipe 2 (some .int), .code yX4_sign cX4_sign 4 (some .int), .fieldLink RX4 162 "QuarrelWaysModel" "place" "I", .fieldLink RX4 165 "QuarrelWaysModel" "isWrong" "Z", .code yX4_digit cX4_digit 1 (some .int), .methodLink RX4 169 yX4_sign, .instanceMethod yX4_sign, .selects RX4 yX4_sign yX4_sign]
def B24 : List Cond := [.code yX4_number cX4_number 2 (some .int), .methodLink RX4 172 yX4_digit, .instanceMethod yX4_digit, .selects RX4 yX4_digit yX4_digit, .methodLink RX4 175 yX4_number, .instanceMethod yX4_number, .selects RX4 yX4_number yX4_number, .code yX4_order cX4_order 8 (some .int), .methodLink RX4 178 yX4_order, .instanceMethod yX4_order, .selects RX4 yX4_order yX4_order, .code yX4_go cX4_go 6 (some .int), .methodLink RX4 182 yX4_go, .instanceMethod yX4_go, .selects RX4 yX4_go yX4_go, .code yX4_fault cX4_fault 2 (some .int), .code yX4_carryOut cX4_carryOut 3 (some .int), .code yX4_undo cX4_undo 2 (some .int), .code yX4_save cX4_save 3 (some .int), .code yX4_restore cX4_restore 3 (some .int), .code yJ9_max_7cf53 cJ9_max_7cf53 2 (some .int), .code yJ9_min_7cf53 cJ9_min_7cf53 2 (some .int), .classLink RL 7 RX3, .instantiable RX3 4, .classLink RL 10 RX4]
def B25 : List Cond := [.instantiable RX4 10, .constantLong RL 100 4294967295, .methodLink RL 9 yX3_init, .instanceMethod yX3_init, .methodLink RL 12 yX4_init, .instanceMethod yX4_init, .methodLink RL 13 yX3_set, .instanceMethod yX3_set, .selects RX3 yX3_set yX3_set, .methodLink RL 17 yX4_set, .instanceMethod yX4_set, .selects RX4 yX4_set yX4_set, .methodLink RL 18 yX3_person, .instanceMethod yX3_person, .selects RX3 yX3_person yX3_person, .methodLink RL 21 yX4_person, .instanceMethod yX4_person, .selects RX4 yX4_person yX4_person, .methodLink RL 22 yX3_second, .instanceMethod yX3_second, .selects RX3 yX3_second yX3_second, .methodLink RL 25 yX4_second, .instanceMethod yX4_second, .selects RX4 yX4_second yX4_second, .methodLink RL 26 yX3_allow]
def B26 : List Cond := [.instanceMethod yX3_allow, .selects RX3 yX3_allow yX3_allow, .methodLink RL 30 yX4_allow, .instanceMethod yX4_allow, .selects RX4 yX4_allow yX4_allow, .methodLink RL 31 yX3_insult, .instanceMethod yX3_insult, .selects RX3 yX3_insult yX3_insult, .methodLink RL 35 yX4_insult, .instanceMethod yX4_insult, .selects RX4 yX4_insult yX4_insult, .methodLink RL 36 yX3_settle, .instanceMethod yX3_settle, .selects RX3 yX3_settle yX3_settle, .methodLink RL 39 yX4_settle, .instanceMethod yX4_settle, .selects RX4 yX4_settle yX4_settle, .methodLink RL 40 yX3_fight, .instanceMethod yX3_fight, .selects RX3 yX3_fight yX3_fight, .methodLink RL 43 yX4_fight, .instanceMethod yX4_fight, .selects RX4 yX4_fight yX4_fight, .methodLink RL 44 yX3_swear, .instanceMethod yX3_swear]
def B27 : List Cond := [.selects RX3 yX3_swear yX3_swear, .methodLink RL 47 yX4_swear, .instanceMethod yX4_swear, .selects RX4 yX4_swear yX4_swear, .methodLink RL 48 yX3_pass, .instanceMethod yX3_pass, .selects RX3 yX3_pass yX3_pass, .methodLink RL 51 yX4_pass, .instanceMethod yX4_pass, .selects RX4 yX4_pass yX4_pass, .methodLink RL 52 yX3_of, .instanceMethod yX3_of, .selects RX3 yX3_of yX3_of, .methodLink RL 55 yX4_of, .instanceMethod yX4_of, .selects RX4 yX4_of yX4_of, .methodLink RL 56 yX3_quarrel, .instanceMethod yX3_quarrel, .selects RX3 yX3_quarrel yX3_quarrel, .methodLink RL 59 yX4_quarrel, .instanceMethod yX4_quarrel, .selects RX4 yX4_quarrel yX4_quarrel, .methodLink RL 60 yX3_record, .instanceMethod yX3_record, .selects RX3 yX3_record yX3_record]
def B28 : List Cond := [.methodLink RL 63 yX4_record, .instanceMethod yX4_record, .selects RX4 yX4_record yX4_record, .methodLink RL 64 yX3_pressing, .instanceMethod yX3_pressing, .selects RX3 yX3_pressing yX3_pressing, .methodLink RL 67 yX4_pressing, .instanceMethod yX4_pressing, .selects RX4 yX4_pressing yX4_pressing, .methodLink RL 68 yX3_insults, .instanceMethod yX3_insults, .selects RX3 yX3_insults yX3_insults, .methodLink RL 71 yX4_insults, .instanceMethod yX4_insults, .selects RX4 yX4_insults yX4_insults, .methodLink RL 72 yX3_count, .instanceMethod yX3_count, .selects RX3 yX3_count yX3_count, .methodLink RL 75 yX4_count, .instanceMethod yX4_count, .selects RX4 yX4_count yX4_count, .methodLink RL 76 yX3_why, .instanceMethod yX3_why, .selects RX3 yX3_why yX3_why, .methodLink RL 79 yX4_why]
def B29 : List Cond := [.instanceMethod yX4_why, .selects RX4 yX4_why yX4_why, .methodLink RL 80 yX3_firstWay, .instanceMethod yX3_firstWay, .selects RX3 yX3_firstWay yX3_firstWay, .methodLink RL 83 yX4_firstWay, .instanceMethod yX4_firstWay, .selects RX4 yX4_firstWay yX4_firstWay, .methodLink RL 84 yX3_opensIn, .instanceMethod yX3_opensIn, .selects RX3 yX3_opensIn yX3_opensIn, .methodLink RL 87 yX4_opensIn, .instanceMethod yX4_opensIn, .selects RX4 yX4_opensIn yX4_opensIn, .methodLink RL 88 yX3_dueIn, .instanceMethod yX3_dueIn, .selects RX3 yX3_dueIn yX3_dueIn, .methodLink RL 91 yX4_dueIn, .instanceMethod yX4_dueIn, .selects RX4 yX4_dueIn yX4_dueIn, .methodLink RL 92 yX3_ifInsulted, .instanceMethod yX3_ifInsulted, .selects RX3 yX3_ifInsulted yX3_ifInsulted, .methodLink RL 95 yX4_ifInsulted, .instanceMethod yX4_ifInsulted]
def B30 : List Cond := [.selects RX4 yX4_ifInsulted yX4_ifInsulted, .methodLink RL 96 yX3_ifFought, .instanceMethod yX3_ifFought, .selects RX3 yX3_ifFought yX3_ifFought, .methodLink RL 99 yX4_ifFought, .instanceMethod yX4_ifFought, .selects RX4 yX4_ifFought yX4_ifFought, .methodLink RL 102 yX3_put, .instanceMethod yX3_put, .selects RX3 yX3_put yX3_put, .methodLink RL 106 yX4_put, .instanceMethod yX4_put, .selects RX4 yX4_put yX4_put, .methodLink RL 107 yX3_wipe, .instanceMethod yX3_wipe, .selects RX3 yX3_wipe yX3_wipe, .methodLink RL 111 yX4_wipe, .instanceMethod yX4_wipe, .selects RX4 yX4_wipe yX4_wipe, .methodLink RL 112 yX3_fault, .instanceMethod yX3_fault, .selects RX3 yX3_fault yX3_fault, .methodLink RL 115 yX4_fault, .instanceMethod yX4_fault, .selects RX4 yX4_fault yX4_fault]
def B31 : List Cond := [.methodLink RL 116 yX3_carryOut, .instanceMethod yX3_carryOut, .selects RX3 yX3_carryOut yX3_carryOut, .methodLink RL 119 yX4_carryOut, .instanceMethod yX4_carryOut, .selects RX4 yX4_carryOut yX4_carryOut, .methodLink RL 120 yX3_undo, .instanceMethod yX3_undo, .selects RX3 yX3_undo yX3_undo, .methodLink RL 123 yX4_undo, .instanceMethod yX4_undo, .selects RX4 yX4_undo yX4_undo, .methodLink RL 124 yX3_save, .instanceMethod yX3_save, .selects RX3 yX3_save yX3_save, .methodLink RL 127 yX4_save, .instanceMethod yX4_save, .selects RX4 yX4_save yX4_save, .methodLink RL 128 yX3_restore, .instanceMethod yX3_restore, .selects RX3 yX3_restore yX3_restore, .methodLink RL 131 yX4_restore, .instanceMethod yX4_restore, .selects RX4 yX4_restore yX4_restore]
def BW : List Cond := B0 ++ (B1 ++ (B2 ++ (B3 ++ (B4 ++ (B5 ++ (B6 ++ (B7 ++ (B8 ++ (B9 ++ (B10 ++ (B11 ++ (B12 ++ (B13 ++ (B14 ++ (B15 ++ (B16 ++ (B17 ++ (B18 ++ (B19 ++ (B20 ++ (B21 ++ (B22 ++ (B23 ++ (B24 ++ (B25 ++ (B26 ++ (B27 ++ (B28 ++ (B29 ++ (B30 ++ (B31 ++ (wsX00 ++ (wsX10 ++ (wsX20 ++ (wsX30 ++ (wsX40))))))))))))))))))))))))))))))))))))
theorem mb_0 {w : Cond} (h : w ∈ B0) : w ∈ BW := (List.mem_append_left _ h)
theorem mb_1 {w : Cond} (h : w ∈ B1) : w ∈ BW := (List.mem_append_right _ (List.mem_append_left _ h))
theorem mb_2 {w : Cond} (h : w ∈ B2) : w ∈ BW := (List.mem_append_right _ (List.mem_append_right _ (List.mem_append_left _ h)))
theorem mb_3 {w : Cond} (h : w ∈ B3) : w ∈ BW := (List.mem_append_right _ (List.mem_append_right _ (List.mem_append_right _ (List.mem_append_left _ h))))
theorem mb_4 {w : Cond} (h : w ∈ B4) : w ∈ BW := (List.mem_append_right _ (List.mem_append_right _ (List.mem_append_right _ (List.mem_append_right _ (List.mem_append_left _ h)))))
theorem mb_5 {w : Cond} (h : w ∈ B5) : w ∈ BW := (List.mem_append_right _ (List.mem_append_right _ (List.mem_append_right _ (List.mem_append_right _ (List.mem_append_right _ (List.mem_append_left _ h))))))
theorem mb_6 {w : Cond} (h : w ∈ B6) : w ∈ BW := (List.mem_append_right _ (List.mem_append_right _ (List.mem_append_right _ (List.mem_append_right _ (List.mem_append_right _ (List.mem_append_right _ (List.mem_append_left _ h)))))))
theorem mb_7 {w : Cond} (h : w ∈ B7) : w ∈ BW := (List.mem_append_right _ (List.mem_append_right _ (List.mem_append_right _ (List.mem_append_right _ (List.mem_append_right _ (List.mem_append_right _ (List.mem_append_right _ (List.mem_append_left _ h))))))))
theorem mb_8 {w : Cond} (h : w ∈ B8) : w ∈ BW := (List.mem_append_right _ (List.mem_append_right _ (List.mem_append_right _ (List.mem_append_right _ (List.mem_append_right _ (List.mem_append_right _ (List.mem_append_right _ (List.mem_append_right _ (List.mem_append_left _ h)))))))))
theorem mb_9 {w : Cond} (h : w ∈ B9) : w ∈ BW := (List.mem_append_right _ (List.mem_append_right _ (List.mem_append_right _ (List.mem_append_right _ (List.mem_append_right _ (List.mem_append_right _ (List.mem_append_right _ (List.mem_append_right _ (List.mem_append_right _ (List.mem_append_left _ h))))))))))
theorem mb_10 {w : Cond} (h : w ∈ B10) : w ∈ BW := (List.mem_append_right _ (List.mem_append_right _ (List.mem_append_right _ (List.mem_append_right _ (List.mem_append_right _ (List.mem_append_right _ (List.mem_append_right _ (List.mem_append_right _ (List.mem_append_right _ (List.mem_append_right _ (List.mem_append_left _ h)))))))))))
theorem mb_11 {w : Cond} (h : w ∈ B11) : w ∈ BW := (List.mem_append_right _ (List.mem_append_right _ (List.mem_append_right _ (List.mem_append_right _ (List.mem_append_right _ (List.mem_append_right _ (List.mem_append_right _ (List.mem_append_right _ (List.mem_append_right _ (List.mem_append_right _ (List.mem_append_right _ (List.mem_append_left _ h))))))))))))
theorem mb_12 {w : Cond} (h : w ∈ B12) : w ∈ BW := (List.mem_append_right _ (List.mem_append_right _ (List.mem_append_right _ (List.mem_append_right _ (List.mem_append_right _ (List.mem_append_right _ (List.mem_append_right _ (List.mem_append_right _ (List.mem_append_right _ (List.mem_append_right _ (List.mem_append_right _ (List.mem_append_right _ (List.mem_append_left _ h)))))))))))))
theorem mb_13 {w : Cond} (h : w ∈ B13) : w ∈ BW := (List.mem_append_right _ (List.mem_append_right _ (List.mem_append_right _ (List.mem_append_right _ (List.mem_append_right _ (List.mem_append_right _ (List.mem_append_right _ (List.mem_append_right _ (List.mem_append_right _ (List.mem_append_right _ (List.mem_append_right _ (List.mem_append_right _ (List.mem_append_right _ (List.mem_append_left _ h))))))))))))))
theorem mb_14 {w : Cond} (h : w ∈ B14) : w ∈ BW := (List.mem_append_right _ (List.mem_append_right _ (List.mem_append_right _ (List.mem_append_right _ (List.mem_append_right _ (List.mem_append_right _ (List.mem_append_right _ (List.mem_append_right _ (List.mem_append_right _ (List.mem_append_right _ (List.mem_append_right _ (List.mem_append_right _ (List.mem_append_right _ (List.mem_append_right _ (List.mem_append_left _ h)))))))))))))))
theorem mb_15 {w : Cond} (h : w ∈ B15) : w ∈ BW := (List.mem_append_right _ (List.mem_append_right _ (List.mem_append_right _ (List.mem_append_right _ (List.mem_append_right _ (List.mem_append_right _ (List.mem_append_right _ (List.mem_append_right _ (List.mem_append_right _ (List.mem_append_right _ (List.mem_append_right _ (List.mem_append_right _ (List.mem_append_right _ (List.mem_append_right _ (List.mem_append_right _ (List.mem_append_left _ h))))))))))))))))
theorem mb_16 {w : Cond} (h : w ∈ B16) : w ∈ BW := (List.mem_append_right _ (List.mem_append_right _ (List.mem_append_right _ (List.mem_append_right _ (List.mem_append_right _ (List.mem_append_right _ (List.mem_append_right _ (List.mem_append_right _ (List.mem_append_right _ (List.mem_append_right _ (List.mem_append_right _ (List.mem_append_right _ (List.mem_append_right _ (List.mem_append_right _ (List.mem_append_right _ (List.mem_append_right _ (List.mem_append_left _ h)))))))))))))))))
theorem mb_17 {w : Cond} (h : w ∈ B17) : w ∈ BW := (List.mem_append_right _ (List.mem_append_right _ (List.mem_append_right _ (List.mem_append_right _ (List.mem_append_right _ (List.mem_append_right _ (List.mem_append_right _ (List.mem_append_right _ (List.mem_append_right _ (List.mem_append_right _ (List.mem_append_right _ (List.mem_append_right _ (List.mem_append_right _ (List.mem_append_right _ (List.mem_append_right _ (List.mem_append_right _ (List.mem_append_right _ (List.mem_append_left _ h))))))))))))))))))
theorem mb_18 {w : Cond} (h : w ∈ B18) : w ∈ BW := (List.mem_append_right _ (List.mem_append_right _ (List.mem_append_right _ (List.mem_append_right _ (List.mem_append_right _ (List.mem_append_right _ (List.mem_append_right _ (List.mem_append_right _ (List.mem_append_right _ (List.mem_append_right _ (List.mem_append_right _ (List.mem_append_right _ (List.mem_append_right _ (List.mem_append_right _ (List.mem_append_right _ (List.mem_append_right _ (List.mem_append_right _ (List.mem_append_right _ (List.mem_append_left _ h)))))))))))))))))))
theorem mb_19 {w : Cond} (h : w ∈ B19) : w ∈ BW := (List.mem_append_right _ (List.mem_append_right _ (List.mem_append_right _ (List.mem_append_right _ (List.mem_append_right _ (List.mem_append_right _ (List.mem_append_right _ (List.mem_append_right _ (List.mem_append_right _ (List.mem_append_right _ (List.mem_append_right _ (List.mem_append_right _ (List.mem_append_right _ (List.mem_append_right _ (List.mem_append_right _ (List.mem_append_right _ (List.mem_append_right _ (List.mem_append_right _ (List.mem_append_right _ (List.mem_append_left _ h))))))))))))))))))))
theorem mb_20 {w : Cond} (h : w ∈ B20) : w ∈ BW := (List.mem_append_right _ (List.mem_append_right _ (List.mem_append_right _ (List.mem_append_right _ (List.mem_append_right _ (List.mem_append_right _ (List.mem_append_right _ (List.mem_append_right _ (List.mem_append_right _ (List.mem_append_right _ (List.mem_append_right _ (List.mem_append_right _ (List.mem_append_right _ (List.mem_append_right _ (List.mem_append_right _ (List.mem_append_right _ (List.mem_append_right _ (List.mem_append_right _ (List.mem_append_right _ (List.mem_append_right _ (List.mem_append_left _ h)))))))))))))))))))))
theorem mb_21 {w : Cond} (h : w ∈ B21) : w ∈ BW := (List.mem_append_right _ (List.mem_append_right _ (List.mem_append_right _ (List.mem_append_right _ (List.mem_append_right _ (List.mem_append_right _ (List.mem_append_right _ (List.mem_append_right _ (List.mem_append_right _ (List.mem_append_right _ (List.mem_append_right _ (List.mem_append_right _ (List.mem_append_right _ (List.mem_append_right _ (List.mem_append_right _ (List.mem_append_right _ (List.mem_append_right _ (List.mem_append_right _ (List.mem_append_right _ (List.mem_append_right _ (List.mem_append_right _ (List.mem_append_left _ h))))))))))))))))))))))
theorem mb_22 {w : Cond} (h : w ∈ B22) : w ∈ BW := (List.mem_append_right _ (List.mem_append_right _ (List.mem_append_right _ (List.mem_append_right _ (List.mem_append_right _ (List.mem_append_right _ (List.mem_append_right _ (List.mem_append_right _ (List.mem_append_right _ (List.mem_append_right _ (List.mem_append_right _ (List.mem_append_right _ (List.mem_append_right _ (List.mem_append_right _ (List.mem_append_right _ (List.mem_append_right _ (List.mem_append_right _ (List.mem_append_right _ (List.mem_append_right _ (List.mem_append_right _ (List.mem_append_right _ (List.mem_append_right _ (List.mem_append_left _ h)))))))))))))))))))))))
theorem mb_23 {w : Cond} (h : w ∈ B23) : w ∈ BW := (List.mem_append_right _ (List.mem_append_right _ (List.mem_append_right _ (List.mem_append_right _ (List.mem_append_right _ (List.mem_append_right _ (List.mem_append_right _ (List.mem_append_right _ (List.mem_append_right _ (List.mem_append_right _ (List.mem_append_right _ (List.mem_append_right _ (List.mem_append_right _ (List.mem_append_right _ (List.mem_append_right _ (List.mem_append_right _ (List.mem_append_right _ (List.mem_append_right _ (List.mem_append_right _ (List.mem_append_right _ (List.mem_append_right _ (List.mem_append_right _ (List.mem_append_right _ (List.mem_append_left _ h))))))))))))))))))))))))
theorem mb_24 {w : Cond} (h : w ∈ B24) : w ∈ BW := (List.mem_append_right _ (List.mem_append_right _ (List.mem_append_right _ (List.mem_append_right _ (List.mem_append_right _ (List.mem_append_right _ (List.mem_append_right _ (List.mem_append_right _ (List.mem_append_right _ (List.mem_append_right _ (List.mem_append_right _ (List.mem_append_right _ (List.mem_append_right _ (List.mem_append_right _ (List.mem_append_right _ (List.mem_append_right _ (List.mem_append_right _ (List.mem_append_right _ (List.mem_append_right _ (List.mem_append_right _ (List.mem_append_right _ (List.mem_append_right _ (List.mem_append_right _ (List.mem_append_right _ (List.mem_append_left _ h)))))))))))))))))))))))))
theorem mb_25 {w : Cond} (h : w ∈ B25) : w ∈ BW := (List.mem_append_right _ (List.mem_append_right _ (List.mem_append_right _ (List.mem_append_right _ (List.mem_append_right _ (List.mem_append_right _ (List.mem_append_right _ (List.mem_append_right _ (List.mem_append_right _ (List.mem_append_right _ (List.mem_append_right _ (List.mem_append_right _ (List.mem_append_right _ (List.mem_append_right _ (List.mem_append_right _ (List.mem_append_right _ (List.mem_append_right _ (List.mem_append_right _ (List.mem_append_right _ (List.mem_append_right _ (List.mem_append_right _ (List.mem_append_right _ (List.mem_append_right _ (List.mem_append_right _ (List.mem_append_right _ (List.mem_append_left _ h))))))))))))))))))))))))))
theorem mb_26 {w : Cond} (h : w ∈ B26) : w ∈ BW := (List.mem_append_right _ (List.mem_append_right _ (List.mem_append_right _ (List.mem_append_right _ (List.mem_append_right _ (List.mem_append_right _ (List.mem_append_right _ (List.mem_append_right _ (List.mem_append_right _ (List.mem_append_right _ (List.mem_append_right _ (List.mem_append_right _ (List.mem_append_right _ (List.mem_append_right _ (List.mem_append_right _ (List.mem_append_right _ (List.mem_append_right _ (List.mem_append_right _ (List.mem_append_right _ (List.mem_append_right _ (List.mem_append_right _ (List.mem_append_right _ (List.mem_append_right _ (List.mem_append_right _ (List.mem_append_right _ (List.mem_append_right _ (List.mem_append_left _ h)))))))))))))))))))))))))))
theorem mb_27 {w : Cond} (h : w ∈ B27) : w ∈ BW := (List.mem_append_right _ (List.mem_append_right _ (List.mem_append_right _ (List.mem_append_right _ (List.mem_append_right _ (List.mem_append_right _ (List.mem_append_right _ (List.mem_append_right _ (List.mem_append_right _ (List.mem_append_right _ (List.mem_append_right _ (List.mem_append_right _ (List.mem_append_right _ (List.mem_append_right _ (List.mem_append_right _ (List.mem_append_right _ (List.mem_append_right _ (List.mem_append_right _ (List.mem_append_right _ (List.mem_append_right _ (List.mem_append_right _ (List.mem_append_right _ (List.mem_append_right _ (List.mem_append_right _ (List.mem_append_right _ (List.mem_append_right _ (List.mem_append_right _ (List.mem_append_left _ h))))))))))))))))))))))))))))
theorem mb_28 {w : Cond} (h : w ∈ B28) : w ∈ BW := (List.mem_append_right _ (List.mem_append_right _ (List.mem_append_right _ (List.mem_append_right _ (List.mem_append_right _ (List.mem_append_right _ (List.mem_append_right _ (List.mem_append_right _ (List.mem_append_right _ (List.mem_append_right _ (List.mem_append_right _ (List.mem_append_right _ (List.mem_append_right _ (List.mem_append_right _ (List.mem_append_right _ (List.mem_append_right _ (List.mem_append_right _ (List.mem_append_right _ (List.mem_append_right _ (List.mem_append_right _ (List.mem_append_right _ (List.mem_append_right _ (List.mem_append_right _ (List.mem_append_right _ (List.mem_append_right _ (List.mem_append_right _ (List.mem_append_right _ (List.mem_append_right _ (List.mem_append_left _ h)))))))))))))))))))))))))))))
theorem mb_29 {w : Cond} (h : w ∈ B29) : w ∈ BW := (List.mem_append_right _ (List.mem_append_right _ (List.mem_append_right _ (List.mem_append_right _ (List.mem_append_right _ (List.mem_append_right _ (List.mem_append_right _ (List.mem_append_right _ (List.mem_append_right _ (List.mem_append_right _ (List.mem_append_right _ (List.mem_append_right _ (List.mem_append_right _ (List.mem_append_right _ (List.mem_append_right _ (List.mem_append_right _ (List.mem_append_right _ (List.mem_append_right _ (List.mem_append_right _ (List.mem_append_right _ (List.mem_append_right _ (List.mem_append_right _ (List.mem_append_right _ (List.mem_append_right _ (List.mem_append_right _ (List.mem_append_right _ (List.mem_append_right _ (List.mem_append_right _ (List.mem_append_right _ (List.mem_append_left _ h))))))))))))))))))))))))))))))
theorem mb_30 {w : Cond} (h : w ∈ B30) : w ∈ BW := (List.mem_append_right _ (List.mem_append_right _ (List.mem_append_right _ (List.mem_append_right _ (List.mem_append_right _ (List.mem_append_right _ (List.mem_append_right _ (List.mem_append_right _ (List.mem_append_right _ (List.mem_append_right _ (List.mem_append_right _ (List.mem_append_right _ (List.mem_append_right _ (List.mem_append_right _ (List.mem_append_right _ (List.mem_append_right _ (List.mem_append_right _ (List.mem_append_right _ (List.mem_append_right _ (List.mem_append_right _ (List.mem_append_right _ (List.mem_append_right _ (List.mem_append_right _ (List.mem_append_right _ (List.mem_append_right _ (List.mem_append_right _ (List.mem_append_right _ (List.mem_append_right _ (List.mem_append_right _ (List.mem_append_right _ (List.mem_append_left _ h)))))))))))))))))))))))))))))))
theorem mb_31 {w : Cond} (h : w ∈ B31) : w ∈ BW := (List.mem_append_right _ (List.mem_append_right _ (List.mem_append_right _ (List.mem_append_right _ (List.mem_append_right _ (List.mem_append_right _ (List.mem_append_right _ (List.mem_append_right _ (List.mem_append_right _ (List.mem_append_right _ (List.mem_append_right _ (List.mem_append_right _ (List.mem_append_right _ (List.mem_append_right _ (List.mem_append_right _ (List.mem_append_right _ (List.mem_append_right _ (List.mem_append_right _ (List.mem_append_right _ (List.mem_append_right _ (List.mem_append_right _ (List.mem_append_right _ (List.mem_append_right _ (List.mem_append_right _ (List.mem_append_right _ (List.mem_append_right _ (List.mem_append_right _ (List.mem_append_right _ (List.mem_append_right _ (List.mem_append_right _ (List.mem_append_right _ (List.mem_append_left _ h))))))))))))))))))))))))))))))))
theorem mb_32 {w : Cond} (h : w ∈ wsX00) : w ∈ BW := (List.mem_append_right _ (List.mem_append_right _ (List.mem_append_right _ (List.mem_append_right _ (List.mem_append_right _ (List.mem_append_right _ (List.mem_append_right _ (List.mem_append_right _ (List.mem_append_right _ (List.mem_append_right _ (List.mem_append_right _ (List.mem_append_right _ (List.mem_append_right _ (List.mem_append_right _ (List.mem_append_right _ (List.mem_append_right _ (List.mem_append_right _ (List.mem_append_right _ (List.mem_append_right _ (List.mem_append_right _ (List.mem_append_right _ (List.mem_append_right _ (List.mem_append_right _ (List.mem_append_right _ (List.mem_append_right _ (List.mem_append_right _ (List.mem_append_right _ (List.mem_append_right _ (List.mem_append_right _ (List.mem_append_right _ (List.mem_append_right _ (List.mem_append_right _ (List.mem_append_left _ h)))))))))))))))))))))))))))))))))
theorem mb_33 {w : Cond} (h : w ∈ wsX10) : w ∈ BW := (List.mem_append_right _ (List.mem_append_right _ (List.mem_append_right _ (List.mem_append_right _ (List.mem_append_right _ (List.mem_append_right _ (List.mem_append_right _ (List.mem_append_right _ (List.mem_append_right _ (List.mem_append_right _ (List.mem_append_right _ (List.mem_append_right _ (List.mem_append_right _ (List.mem_append_right _ (List.mem_append_right _ (List.mem_append_right _ (List.mem_append_right _ (List.mem_append_right _ (List.mem_append_right _ (List.mem_append_right _ (List.mem_append_right _ (List.mem_append_right _ (List.mem_append_right _ (List.mem_append_right _ (List.mem_append_right _ (List.mem_append_right _ (List.mem_append_right _ (List.mem_append_right _ (List.mem_append_right _ (List.mem_append_right _ (List.mem_append_right _ (List.mem_append_right _ (List.mem_append_right _ (List.mem_append_left _ h))))))))))))))))))))))))))))))))))
theorem mb_34 {w : Cond} (h : w ∈ wsX20) : w ∈ BW := (List.mem_append_right _ (List.mem_append_right _ (List.mem_append_right _ (List.mem_append_right _ (List.mem_append_right _ (List.mem_append_right _ (List.mem_append_right _ (List.mem_append_right _ (List.mem_append_right _ (List.mem_append_right _ (List.mem_append_right _ (List.mem_append_right _ (List.mem_append_right _ (List.mem_append_right _ (List.mem_append_right _ (List.mem_append_right _ (List.mem_append_right _ (List.mem_append_right _ (List.mem_append_right _ (List.mem_append_right _ (List.mem_append_right _ (List.mem_append_right _ (List.mem_append_right _ (List.mem_append_right _ (List.mem_append_right _ (List.mem_append_right _ (List.mem_append_right _ (List.mem_append_right _ (List.mem_append_right _ (List.mem_append_right _ (List.mem_append_right _ (List.mem_append_right _ (List.mem_append_right _ (List.mem_append_right _ (List.mem_append_left _ h)))))))))))))))))))))))))))))))))))
theorem mb_35 {w : Cond} (h : w ∈ wsX30) : w ∈ BW := (List.mem_append_right _ (List.mem_append_right _ (List.mem_append_right _ (List.mem_append_right _ (List.mem_append_right _ (List.mem_append_right _ (List.mem_append_right _ (List.mem_append_right _ (List.mem_append_right _ (List.mem_append_right _ (List.mem_append_right _ (List.mem_append_right _ (List.mem_append_right _ (List.mem_append_right _ (List.mem_append_right _ (List.mem_append_right _ (List.mem_append_right _ (List.mem_append_right _ (List.mem_append_right _ (List.mem_append_right _ (List.mem_append_right _ (List.mem_append_right _ (List.mem_append_right _ (List.mem_append_right _ (List.mem_append_right _ (List.mem_append_right _ (List.mem_append_right _ (List.mem_append_right _ (List.mem_append_right _ (List.mem_append_right _ (List.mem_append_right _ (List.mem_append_right _ (List.mem_append_right _ (List.mem_append_right _ (List.mem_append_right _ (List.mem_append_left _ h))))))))))))))))))))))))))))))))))))
theorem mb_36 {w : Cond} (h : w ∈ wsX40) : w ∈ BW := (List.mem_append_right _ (List.mem_append_right _ (List.mem_append_right _ (List.mem_append_right _ (List.mem_append_right _ (List.mem_append_right _ (List.mem_append_right _ (List.mem_append_right _ (List.mem_append_right _ (List.mem_append_right _ (List.mem_append_right _ (List.mem_append_right _ (List.mem_append_right _ (List.mem_append_right _ (List.mem_append_right _ (List.mem_append_right _ (List.mem_append_right _ (List.mem_append_right _ (List.mem_append_right _ (List.mem_append_right _ (List.mem_append_right _ (List.mem_append_right _ (List.mem_append_right _ (List.mem_append_right _ (List.mem_append_right _ (List.mem_append_right _ (List.mem_append_right _ (List.mem_append_right _ (List.mem_append_right _ (List.mem_append_right _ (List.mem_append_right _ (List.mem_append_right _ (List.mem_append_right _ (List.mem_append_right _ (List.mem_append_right _ (List.mem_append_right _ h))))))))))))))))))))))))))))))))))))
theorem mw_0 : .code yX2_write cX2_write 5 none ∈ BW := mb_0 (List.mem_of_getElem? (i := 0) rfl)
theorem mw_1 : .fieldLink RX2 27 "QuarrelWays$Town" "cells" "[I" ∈ BW := mb_0 (List.mem_of_getElem? (i := 1) rfl)
theorem mw_2 : .code yX2_init cX2_init 1 none ∈ BW := mb_0 (List.mem_of_getElem? (i := 2) rfl)
theorem mw_3 : .methodLink RX2 5 objectInit ∈ BW := mb_0 (List.mem_of_getElem? (i := 3) rfl)
theorem mw_4 : .instanceMethod objectInit ∈ BW := mb_0 (List.mem_of_getElem? (i := 4) rfl)
theorem mw_5 : .code objectInit ⟨#[0xb1]⟩ 1 none ∈ BW := mb_0 (List.mem_of_getElem? (i := 5) rfl)
theorem mw_6 : .fieldLink RX2 11 "QuarrelWays$Town" "hour" "I" ∈ BW := mb_0 (List.mem_of_getElem? (i := 6) rfl)
theorem mw_7 : .fieldLink RX2 15 "QuarrelWays$Town" "allowed" "I" ∈ BW := mb_0 (List.mem_of_getElem? (i := 7) rfl)
theorem mw_8 : .fieldLink RX2 18 "QuarrelWays$Town" "persons" "I" ∈ BW := mb_0 (List.mem_of_getElem? (i := 8) rfl)
theorem mw_9 : .fieldLink RX2 21 "QuarrelWays$Town" "quarrels" "I" ∈ BW := mb_0 (List.mem_of_getElem? (i := 9) rfl)
theorem mw_10 : .fieldLink RX2 24 "QuarrelWays$Town" "events" "I" ∈ BW := mb_0 (List.mem_of_getElem? (i := 10) rfl)
theorem mw_11 : .arrayClass .int ∈ BW := mb_0 (List.mem_of_getElem? (i := 11) rfl)
theorem mw_12 : .methodLink RX2 31 yX2_write ∈ BW := mb_0 (List.mem_of_getElem? (i := 12) rfl)
theorem mw_13 : .instanceMethod yX2_write ∈ BW := mb_0 (List.mem_of_getElem? (i := 13) rfl)
theorem mw_14 : .selects RX2 yX2_write yX2_write ∈ BW := mb_0 (List.mem_of_getElem? (i := 14) rfl)
theorem mw_15 : .initialized RX2 ∈ BW := mb_0 (List.mem_of_getElem? (i := 15) rfl)
theorem mw_16 : .code yX0_init cX0_init 2 none ∈ BW := mb_0 (List.mem_of_getElem? (i := 16) rfl)
theorem mw_17 : .methodLink RX0 3 objectInit ∈ BW := mb_0 (List.mem_of_getElem? (i := 17) rfl)
theorem mw_18 : .classLink RX0 9 RX2 ∈ BW := mb_0 (List.mem_of_getElem? (i := 18) rfl)
theorem mw_19 : .fieldLink RX0 11 "QuarrelWays$History" "states" "[LQuarrelWays$Town;" ∈ BW := mb_0 (List.mem_of_getElem? (i := 19) rfl)
theorem mw_20 : .fieldLink RX0 15 "QuarrelWays$History" "oldest" "I" ∈ BW := mb_0 (List.mem_of_getElem? (i := 20) rfl)
theorem mw_21 : .fieldLink RX0 19 "QuarrelWays$History" "size" "I" ∈ BW := mb_0 (List.mem_of_getElem? (i := 21) rfl)
theorem mw_22 : .instantiable RX2 6 ∈ BW := mb_0 (List.mem_of_getElem? (i := 22) rfl)
theorem mw_23 : .instanceMethod yX2_init ∈ BW := mb_0 (List.mem_of_getElem? (i := 23) rfl)
theorem mw_24 : .code yJ9_floorMod_7cf53 cJ9_floorMod_7cf53 3 (some .int) ∈ BW := mb_0 (List.mem_of_getElem? (i := 24) rfl)
theorem mw_25 : .code yX0_placeOf cX0_placeOf 2 (some .int) ∈ BW := mb_1 (List.mem_of_getElem? (i := 0) rfl)
theorem mw_26 : .methodLink RX0 41 yJ9_floorMod_7cf53 ∈ BW := mb_1 (List.mem_of_getElem? (i := 1) rfl)
theorem mw_27 : .static yJ9_floorMod_7cf53 ∈ BW := mb_1 (List.mem_of_getElem? (i := 2) rfl)
theorem mw_28 : .initialized RJ9 ∈ BW := mb_1 (List.mem_of_getElem? (i := 3) rfl)
theorem mw_29 : .code yX0_stateAt cX0_stateAt 3 (some (.object "QuarrelWays$Town")) ∈ BW := mb_1 (List.mem_of_getElem? (i := 4) rfl)
theorem mw_30 : .methodLink RX0 37 yX0_placeOf ∈ BW := mb_1 (List.mem_of_getElem? (i := 5) rfl)
theorem mw_31 : .instanceMethod yX0_placeOf ∈ BW := mb_1 (List.mem_of_getElem? (i := 6) rfl)
theorem mw_32 : .selects RX0 yX0_placeOf yX0_placeOf ∈ BW := mb_1 (List.mem_of_getElem? (i := 7) rfl)
theorem mw_33 : .initialized RX0 ∈ BW := mb_1 (List.mem_of_getElem? (i := 8) rfl)
theorem mw_34 : .code yX2_become cX2_become 2 none ∈ BW := mb_1 (List.mem_of_getElem? (i := 9) rfl)
theorem mw_35 : .methodLink RX2 35 Lib.Math.min.name ∈ BW := mb_1 (List.mem_of_getElem? (i := 10) rfl)
theorem mw_36 : .static Lib.Math.min.name ∈ BW := mb_1 (List.mem_of_getElem? (i := 11) rfl)
theorem mw_37 : .code Lib.Math.min.name Lib.Math.min.code 2 (some .int) ∈ BW := mb_1 (List.mem_of_getElem? (i := 12) rfl)
theorem mw_38 : .methodLink RX2 41 arraycopyName ∈ BW := mb_1 (List.mem_of_getElem? (i := 13) rfl)
theorem mw_39 : .native arraycopyName ∈ BW := mb_1 (List.mem_of_getElem? (i := 14) rfl)
theorem mw_40 : .static arraycopyName ∈ BW := mb_1 (List.mem_of_getElem? (i := 15) rfl)
theorem mw_41 : .initialized RJ10 ∈ BW := mb_1 (List.mem_of_getElem? (i := 16) rfl)
theorem mw_42 : .methodLink RX0 23 yX0_stateAt ∈ BW := mb_1 (List.mem_of_getElem? (i := 17) rfl)
theorem mw_43 : .instanceMethod yX0_stateAt ∈ BW := mb_1 (List.mem_of_getElem? (i := 18) rfl)
theorem mw_44 : .selects RX0 yX0_stateAt yX0_stateAt ∈ BW := mb_1 (List.mem_of_getElem? (i := 19) rfl)
theorem mw_45 : .instanceMethod yX2_become ∈ BW := mb_1 (List.mem_of_getElem? (i := 20) rfl)
theorem mw_46 : .selects RX2 yX2_become yX2_become ∈ BW := mb_1 (List.mem_of_getElem? (i := 21) rfl)
theorem mw_47 : .code yX0_note cX0_note 3 none ∈ BW := mb_1 (List.mem_of_getElem? (i := 22) rfl)
theorem mw_48 : .code yX3_isError cX3_isError 1 (some .boolean) ∈ BW := mb_1 (List.mem_of_getElem? (i := 23) rfl)
theorem mw_49 : .code yX0_keepUnlessError cX0_keepUnlessError 2 (some .int) ∈ BW := mb_1 (List.mem_of_getElem? (i := 24) rfl)
theorem mw_50 : .static yX3_isError ∈ BW := mb_2 (List.mem_of_getElem? (i := 0) rfl)
theorem mw_51 : .initialized RX3 ∈ BW := mb_2 (List.mem_of_getElem? (i := 1) rfl)
theorem mw_52 : .code yX0_goBack cX0_goBack 3 (some .boolean) ∈ BW := mb_2 (List.mem_of_getElem? (i := 2) rfl)
theorem mw_53 : .code yX1_init cX1_init 1 none ∈ BW := mb_2 (List.mem_of_getElem? (i := 3) rfl)
theorem mw_54 : .methodLink RX1 3 objectInit ∈ BW := mb_2 (List.mem_of_getElem? (i := 4) rfl)
theorem mw_55 : .fieldLink RX1 11 "QuarrelWays$Pad" "signs" "[I" ∈ BW := mb_2 (List.mem_of_getElem? (i := 5) rfl)
theorem mw_56 : .fieldLink RX1 15 "QuarrelWays$Pad" "length" "I" ∈ BW := mb_2 (List.mem_of_getElem? (i := 6) rfl)
theorem mw_57 : .fieldLink RX1 19 "QuarrelWays$Pad" "at" "I" ∈ BW := mb_2 (List.mem_of_getElem? (i := 7) rfl)
theorem mw_58 : .fieldLink RX1 22 "QuarrelWays$Pad" "order" "I" ∈ BW := mb_2 (List.mem_of_getElem? (i := 8) rfl)
theorem mw_59 : .fieldLink RX1 25 "QuarrelWays$Pad" "numbers" "[I" ∈ BW := mb_2 (List.mem_of_getElem? (i := 9) rfl)
theorem mw_60 : .fieldLink RX1 28 "QuarrelWays$Pad" "numbersRead" "I" ∈ BW := mb_2 (List.mem_of_getElem? (i := 10) rfl)
theorem mw_61 : .code yX1_signsIn cX1_signsIn 5 (some .int) ∈ BW := mb_2 (List.mem_of_getElem? (i := 11) rfl)
theorem mw_62 : .constantLong RX1 31 255 ∈ BW := mb_2 (List.mem_of_getElem? (i := 12) rfl)
theorem mw_63 : .constantLong RX1 33 33 ∈ BW := mb_2 (List.mem_of_getElem? (i := 13) rfl)
theorem mw_64 : .constantLong RX1 35 126 ∈ BW := mb_2 (List.mem_of_getElem? (i := 14) rfl)
theorem mw_65 : .code yX1_addSign cX1_addSign 2 none ∈ BW := mb_2 (List.mem_of_getElem? (i := 15) rfl)
theorem mw_66 : .code yX1_append cX1_append 5 (some .boolean) ∈ BW := mb_2 (List.mem_of_getElem? (i := 16) rfl)
theorem mw_67 : .methodLink RX1 37 yX1_addSign ∈ BW := mb_2 (List.mem_of_getElem? (i := 17) rfl)
theorem mw_68 : .instanceMethod yX1_addSign ∈ BW := mb_2 (List.mem_of_getElem? (i := 18) rfl)
theorem mw_69 : .selects RX1 yX1_addSign yX1_addSign ∈ BW := mb_2 (List.mem_of_getElem? (i := 19) rfl)
theorem mw_70 : .initialized RX1 ∈ BW := mb_2 (List.mem_of_getElem? (i := 20) rfl)
theorem mw_71 : .code yX1_signAt cX1_signAt 2 (some .int) ∈ BW := mb_2 (List.mem_of_getElem? (i := 21) rfl)
theorem mw_72 : .code yX1_number cX1_number 2 (some .int) ∈ BW := mb_2 (List.mem_of_getElem? (i := 22) rfl)
theorem mw_73 : .code yX1_formOf cX1_formOf 1 (some (.object "java/lang/String")) ∈ BW := mb_2 (List.mem_of_getElem? (i := 23) rfl)
theorem mw_74 : .code yJ0_isEmpty_aae02 cJ0_isEmpty_aae02 1 (some .boolean) ∈ BW := mb_2 (List.mem_of_getElem? (i := 24) rfl)
theorem mw_75 : .fieldLink RJ0 9 "java/lang/String" "value" "[B" ∈ BW := mb_3 (List.mem_of_getElem? (i := 0) rfl)
theorem mw_76 : .code yJ0_coder_7d493 cJ0_coder_7d493 1 (some .byte) ∈ BW := mb_3 (List.mem_of_getElem? (i := 1) rfl)
theorem mw_77 : .fieldLink RJ0 38 "java/lang/String" "COMPACT_STRINGS" "Z" ∈ BW := mb_3 (List.mem_of_getElem? (i := 2) rfl)
theorem mw_78 : .fieldLink RJ0 15 "java/lang/String" "coder" "B" ∈ BW := mb_3 (List.mem_of_getElem? (i := 3) rfl)
theorem mw_79 : .code yJ0_length_8abf5 cJ0_length_8abf5 1 (some .int) ∈ BW := mb_3 (List.mem_of_getElem? (i := 4) rfl)
theorem mw_80 : .methodLink RJ0 335 yJ0_coder_7d493 ∈ BW := mb_3 (List.mem_of_getElem? (i := 5) rfl)
theorem mw_81 : .instanceMethod yJ0_coder_7d493 ∈ BW := mb_3 (List.mem_of_getElem? (i := 6) rfl)
theorem mw_82 : .selects RJ0 yJ0_coder_7d493 yJ0_coder_7d493 ∈ BW := mb_3 (List.mem_of_getElem? (i := 7) rfl)
theorem mw_83 : .initialized RJ0 ∈ BW := mb_3 (List.mem_of_getElem? (i := 8) rfl)
theorem mw_84 : .code yJ0_isLatin1_aae02 cJ0_isLatin1_aae02 1 (some .boolean) ∈ BW := mb_3 (List.mem_of_getElem? (i := 9) rfl)
theorem mw_85 : .code yJ3_checkIndex_8e157 cJ3_checkIndex_8e157 3 (some .int) ∈ BW := mb_3 (List.mem_of_getElem? (i := 10) rfl)
theorem mw_86 : .code yJ0_checkIndex_df160 cJ0_checkIndex_df160 2 none ∈ BW := mb_3 (List.mem_of_getElem? (i := 11) rfl)
theorem mw_87 : .fieldLink RJ0 1053 "jdk/internal/util/Preconditions" "SIOOBE_FORMATTER" "Ljava/util/function/BiFunction;" ∈ BW := mb_3 (List.mem_of_getElem? (i := 12) rfl)
theorem mw_88 : .methodLink RJ0 1059 yJ3_checkIndex_8e157 ∈ BW := mb_3 (List.mem_of_getElem? (i := 13) rfl)
theorem mw_89 : .static yJ3_checkIndex_8e157 ∈ BW := mb_3 (List.mem_of_getElem? (i := 14) rfl)
theorem mw_90 : .initialized RJ3 ∈ BW := mb_3 (List.mem_of_getElem? (i := 15) rfl)
theorem mw_91 : .code yJ1_charAt_3b067 cJ1_charAt_3b067 2 (some .char) ∈ BW := mb_3 (List.mem_of_getElem? (i := 16) rfl)
theorem mw_92 : .methodLink RJ1 9 yJ0_checkIndex_df160 ∈ BW := mb_3 (List.mem_of_getElem? (i := 17) rfl)
theorem mw_93 : .static yJ0_checkIndex_df160 ∈ BW := mb_3 (List.mem_of_getElem? (i := 18) rfl)
theorem mw_94 : .code yJ2_length_9d52b cJ2_length_9d52b 1 (some .int) ∈ BW := mb_3 (List.mem_of_getElem? (i := 19) rfl)
theorem mw_95 : .code yJ2_checkIndex_2214a cJ2_checkIndex_2214a 2 none ∈ BW := mb_3 (List.mem_of_getElem? (i := 20) rfl)
theorem mw_96 : .methodLink RJ2 48 yJ2_length_9d52b ∈ BW := mb_3 (List.mem_of_getElem? (i := 21) rfl)
theorem mw_97 : .static yJ2_length_9d52b ∈ BW := mb_3 (List.mem_of_getElem? (i := 22) rfl)
theorem mw_98 : .initialized RJ2 ∈ BW := mb_3 (List.mem_of_getElem? (i := 23) rfl)
theorem mw_99 : .methodLink RJ2 414 yJ0_checkIndex_df160 ∈ BW := mb_3 (List.mem_of_getElem? (i := 24) rfl)
theorem mw_100 : .code yJ2_getChar_3b067 cJ2_getChar_3b067 2 (some .char) ∈ BW := mb_4 (List.mem_of_getElem? (i := 0) rfl)
theorem mw_101 : .fieldLink RJ2 44 "java/lang/StringUTF16" "$assertionsDisabled" "Z" ∈ BW := mb_4 (List.mem_of_getElem? (i := 1) rfl)
theorem mw_102 : .fieldLink RJ2 59 "java/lang/StringUTF16" "HI_BYTE_SHIFT" "I" ∈ BW := mb_4 (List.mem_of_getElem? (i := 2) rfl)
theorem mw_103 : .fieldLink RJ2 63 "java/lang/StringUTF16" "LO_BYTE_SHIFT" "I" ∈ BW := mb_4 (List.mem_of_getElem? (i := 3) rfl)
theorem mw_104 : .code yJ2_charAt_3b067 cJ2_charAt_3b067 2 (some .char) ∈ BW := mb_4 (List.mem_of_getElem? (i := 4) rfl)
theorem mw_105 : .methodLink RJ2 67 yJ2_checkIndex_2214a ∈ BW := mb_4 (List.mem_of_getElem? (i := 5) rfl)
theorem mw_106 : .static yJ2_checkIndex_2214a ∈ BW := mb_4 (List.mem_of_getElem? (i := 6) rfl)
theorem mw_107 : .methodLink RJ2 71 yJ2_getChar_3b067 ∈ BW := mb_4 (List.mem_of_getElem? (i := 7) rfl)
theorem mw_108 : .static yJ2_getChar_3b067 ∈ BW := mb_4 (List.mem_of_getElem? (i := 8) rfl)
theorem mw_109 : .methodLink RJ0 492 yJ0_isLatin1_aae02 ∈ BW := mb_4 (List.mem_of_getElem? (i := 9) rfl)
theorem mw_110 : .instanceMethod yJ0_isLatin1_aae02 ∈ BW := mb_4 (List.mem_of_getElem? (i := 10) rfl)
theorem mw_111 : .selects RJ0 yJ0_isLatin1_aae02 yJ0_isLatin1_aae02 ∈ BW := mb_4 (List.mem_of_getElem? (i := 11) rfl)
theorem mw_112 : .methodLink RJ0 495 yJ1_charAt_3b067 ∈ BW := mb_4 (List.mem_of_getElem? (i := 12) rfl)
theorem mw_113 : .static yJ1_charAt_3b067 ∈ BW := mb_4 (List.mem_of_getElem? (i := 13) rfl)
theorem mw_114 : .initialized RJ1 ∈ BW := mb_4 (List.mem_of_getElem? (i := 14) rfl)
theorem mw_115 : .methodLink RJ0 498 yJ2_charAt_3b067 ∈ BW := mb_4 (List.mem_of_getElem? (i := 15) rfl)
theorem mw_116 : .static yJ2_charAt_3b067 ∈ BW := mb_4 (List.mem_of_getElem? (i := 16) rfl)
theorem mw_117 : .code yJ0_charAt_5068e cJ0_charAt_5068e 2 (some .char) ∈ BW := mb_4 (List.mem_of_getElem? (i := 17) rfl)
theorem mw_118 : .code yX1_isDigit cX1_isDigit 1 (some .boolean) ∈ BW := mb_4 (List.mem_of_getElem? (i := 18) rfl)
theorem mw_119 : .code yX1_addNumber cX1_addNumber 2 none ∈ BW := mb_4 (List.mem_of_getElem? (i := 19) rfl)
theorem mw_120 : .code yX1_readNumber cX1_readNumber 3 (some .boolean) ∈ BW := mb_4 (List.mem_of_getElem? (i := 20) rfl)
theorem mw_121 : .methodLink RX1 45 yX1_signAt ∈ BW := mb_4 (List.mem_of_getElem? (i := 21) rfl)
theorem mw_122 : .instanceMethod yX1_signAt ∈ BW := mb_4 (List.mem_of_getElem? (i := 22) rfl)
theorem mw_123 : .selects RX1 yX1_signAt yX1_signAt ∈ BW := mb_4 (List.mem_of_getElem? (i := 23) rfl)
theorem mw_124 : .methodLink RX1 87 yX1_isDigit ∈ BW := mb_4 (List.mem_of_getElem? (i := 24) rfl)
theorem mw_125 : .static yX1_isDigit ∈ BW := mb_5 (List.mem_of_getElem? (i := 0) rfl)
theorem mw_126 : .methodLink RX1 90 yX1_addNumber ∈ BW := mb_5 (List.mem_of_getElem? (i := 1) rfl)
theorem mw_127 : .instanceMethod yX1_addNumber ∈ BW := mb_5 (List.mem_of_getElem? (i := 2) rfl)
theorem mw_128 : .selects RX1 yX1_addNumber yX1_addNumber ∈ BW := mb_5 (List.mem_of_getElem? (i := 3) rfl)
theorem mw_129 : .code yX1_readPart cX1_readPart 2 (some .boolean) ∈ BW := mb_5 (List.mem_of_getElem? (i := 4) rfl)
theorem mw_130 : .methodLink RX1 83 yX1_readNumber ∈ BW := mb_5 (List.mem_of_getElem? (i := 5) rfl)
theorem mw_131 : .instanceMethod yX1_readNumber ∈ BW := mb_5 (List.mem_of_getElem? (i := 6) rfl)
theorem mw_132 : .selects RX1 yX1_readNumber yX1_readNumber ∈ BW := mb_5 (List.mem_of_getElem? (i := 7) rfl)
theorem mw_133 : .methodLink RX1 63 yX1_formOf ∈ BW := mb_5 (List.mem_of_getElem? (i := 8) rfl)
theorem mw_134 : .static yX1_formOf ∈ BW := mb_5 (List.mem_of_getElem? (i := 9) rfl)
theorem mw_135 : .methodLink RX1 67 yJ0_isEmpty_aae02 ∈ BW := mb_5 (List.mem_of_getElem? (i := 10) rfl)
theorem mw_136 : .instanceMethod yJ0_isEmpty_aae02 ∈ BW := mb_5 (List.mem_of_getElem? (i := 11) rfl)
theorem mw_137 : .selects RJ0 yJ0_isEmpty_aae02 yJ0_isEmpty_aae02 ∈ BW := mb_5 (List.mem_of_getElem? (i := 12) rfl)
theorem mw_138 : .methodLink RX1 72 yJ0_length_8abf5 ∈ BW := mb_5 (List.mem_of_getElem? (i := 13) rfl)
theorem mw_139 : .instanceMethod yJ0_length_8abf5 ∈ BW := mb_5 (List.mem_of_getElem? (i := 14) rfl)
theorem mw_140 : .selects RJ0 yJ0_length_8abf5 yJ0_length_8abf5 ∈ BW := mb_5 (List.mem_of_getElem? (i := 15) rfl)
theorem mw_141 : .methodLink RX1 75 yJ0_charAt_5068e ∈ BW := mb_5 (List.mem_of_getElem? (i := 16) rfl)
theorem mw_142 : .instanceMethod yJ0_charAt_5068e ∈ BW := mb_5 (List.mem_of_getElem? (i := 17) rfl)
theorem mw_143 : .selects RJ0 yJ0_charAt_5068e yJ0_charAt_5068e ∈ BW := mb_5 (List.mem_of_getElem? (i := 18) rfl)
theorem mw_144 : .methodLink RX1 79 yX1_readPart ∈ BW := mb_5 (List.mem_of_getElem? (i := 19) rfl)
theorem mw_145 : .instanceMethod yX1_readPart ∈ BW := mb_5 (List.mem_of_getElem? (i := 20) rfl)
theorem mw_146 : .selects RX1 yX1_readPart yX1_readPart ∈ BW := mb_5 (List.mem_of_getElem? (i := 21) rfl)
theorem mw_147 : .code yX1_readOrder cX1_readOrder 3 (some .boolean) ∈ BW := mb_5 (List.mem_of_getElem? (i := 22) rfl)
theorem mw_148 : .methodLink RX1 41 yX1_readOrder ∈ BW := mb_5 (List.mem_of_getElem? (i := 23) rfl)
theorem mw_149 : .instanceMethod yX1_readOrder ∈ BW := mb_5 (List.mem_of_getElem? (i := 24) rfl)
theorem mw_150 : .selects RX1 yX1_readOrder yX1_readOrder ∈ BW := mb_6 (List.mem_of_getElem? (i := 0) rfl)
theorem mw_151 : .code yX1_firstFault cX1_firstFault 2 (some .int) ∈ BW := mb_6 (List.mem_of_getElem? (i := 1) rfl)
theorem mw_152 : .code yX1_stepOverSemicolon cX1_stepOverSemicolon 1 none ∈ BW := mb_6 (List.mem_of_getElem? (i := 2) rfl)
theorem mw_153 : .code yX2_read cX2_read 4 (some .int) ∈ BW := mb_6 (List.mem_of_getElem? (i := 3) rfl)
theorem mw_154 : .code yX2_hasPerson cX2_hasPerson 2 (some .boolean) ∈ BW := mb_6 (List.mem_of_getElem? (i := 4) rfl)
theorem mw_155 : .code yX2_hasQuarrel cX2_hasQuarrel 2 (some .boolean) ∈ BW := mb_6 (List.mem_of_getElem? (i := 5) rfl)
theorem mw_156 : .code yX2_isOpen cX2_isOpen 2 (some .boolean) ∈ BW := mb_6 (List.mem_of_getElem? (i := 6) rfl)
theorem mw_157 : .methodLink RX2 47 yX2_read ∈ BW := mb_6 (List.mem_of_getElem? (i := 7) rfl)
theorem mw_158 : .instanceMethod yX2_read ∈ BW := mb_6 (List.mem_of_getElem? (i := 8) rfl)
theorem mw_159 : .selects RX2 yX2_read yX2_read ∈ BW := mb_6 (List.mem_of_getElem? (i := 9) rfl)
theorem mw_160 : .code yX2_allows cX2_allows 2 (some .boolean) ∈ BW := mb_6 (List.mem_of_getElem? (i := 10) rfl)
theorem mw_161 : .code yX2_hoursSince cX2_hoursSince 2 (some .int) ∈ BW := mb_6 (List.mem_of_getElem? (i := 11) rfl)
theorem mw_162 : .code yX2_oathLeft cX2_oathLeft 2 (some .int) ∈ BW := mb_6 (List.mem_of_getElem? (i := 12) rfl)
theorem mw_163 : .methodLink RX2 50 Lib.Math.max.name ∈ BW := mb_6 (List.mem_of_getElem? (i := 13) rfl)
theorem mw_164 : .static Lib.Math.max.name ∈ BW := mb_6 (List.mem_of_getElem? (i := 14) rfl)
theorem mw_165 : .code Lib.Math.max.name Lib.Math.max.code 2 (some .int) ∈ BW := mb_6 (List.mem_of_getElem? (i := 15) rfl)
theorem mw_166 : .code yX2_isPoints cX2_isPoints 1 (some .boolean) ∈ BW := mb_6 (List.mem_of_getElem? (i := 16) rfl)
theorem mw_167 : .code yX2_isRank cX2_isRank 1 (some .boolean) ∈ BW := mb_6 (List.mem_of_getElem? (i := 17) rfl)
theorem mw_168 : .code yX2_areThese cX2_areThese 4 (some .boolean) ∈ BW := mb_6 (List.mem_of_getElem? (i := 18) rfl)
theorem mw_169 : .code yX2_changeSetting cX2_changeSetting 4 (some .int) ∈ BW := mb_6 (List.mem_of_getElem? (i := 19) rfl)
theorem mw_170 : .fieldLink RX2 53 "QuarrelWays$Town" "LOWEST" "[I" ∈ BW := mb_6 (List.mem_of_getElem? (i := 20) rfl)
theorem mw_171 : .fieldLink RX2 56 "QuarrelWays$Town" "HIGHEST" "[I" ∈ BW := mb_6 (List.mem_of_getElem? (i := 21) rfl)
theorem mw_172 : .code yX2_addPerson cX2_addPerson 4 (some .int) ∈ BW := mb_6 (List.mem_of_getElem? (i := 22) rfl)
theorem mw_173 : .methodLink RX2 59 yX2_isPoints ∈ BW := mb_6 (List.mem_of_getElem? (i := 23) rfl)
theorem mw_174 : .static yX2_isPoints ∈ BW := mb_6 (List.mem_of_getElem? (i := 24) rfl)
theorem mw_175 : .code yX2_takeSecond cX2_takeSecond 4 (some .int) ∈ BW := mb_7 (List.mem_of_getElem? (i := 0) rfl)
theorem mw_176 : .methodLink RX2 63 yX2_hasPerson ∈ BW := mb_7 (List.mem_of_getElem? (i := 1) rfl)
theorem mw_177 : .instanceMethod yX2_hasPerson ∈ BW := mb_7 (List.mem_of_getElem? (i := 2) rfl)
theorem mw_178 : .selects RX2 yX2_hasPerson yX2_hasPerson ∈ BW := mb_7 (List.mem_of_getElem? (i := 3) rfl)
theorem mw_179 : .code yX2_allowOrBar cX2_allowOrBar 2 (some .int) ∈ BW := mb_7 (List.mem_of_getElem? (i := 4) rfl)
theorem mw_180 : .code yX2_errorOfInsult cX2_errorOfInsult 4 (some .int) ∈ BW := mb_7 (List.mem_of_getElem? (i := 5) rfl)
theorem mw_181 : .methodLink RX2 66 yX2_isRank ∈ BW := mb_7 (List.mem_of_getElem? (i := 6) rfl)
theorem mw_182 : .static yX2_isRank ∈ BW := mb_7 (List.mem_of_getElem? (i := 7) rfl)
theorem mw_183 : .code yX2_haveOpenQuarrel cX2_haveOpenQuarrel 4 (some .boolean) ∈ BW := mb_7 (List.mem_of_getElem? (i := 8) rfl)
theorem mw_184 : .methodLink RX2 69 yX2_isOpen ∈ BW := mb_7 (List.mem_of_getElem? (i := 9) rfl)
theorem mw_185 : .instanceMethod yX2_isOpen ∈ BW := mb_7 (List.mem_of_getElem? (i := 10) rfl)
theorem mw_186 : .selects RX2 yX2_isOpen yX2_isOpen ∈ BW := mb_7 (List.mem_of_getElem? (i := 11) rfl)
theorem mw_187 : .methodLink RX2 72 yX2_areThese ∈ BW := mb_7 (List.mem_of_getElem? (i := 12) rfl)
theorem mw_188 : .static yX2_areThese ∈ BW := mb_7 (List.mem_of_getElem? (i := 13) rfl)
theorem mw_189 : .code yX2_addEvent cX2_addEvent 4 none ∈ BW := mb_7 (List.mem_of_getElem? (i := 14) rfl)
theorem mw_190 : .methodLink RX2 114 yJ9_floorMod_7cf53 ∈ BW := mb_7 (List.mem_of_getElem? (i := 15) rfl)
theorem mw_191 : .methodLink RX2 76 yX2_errorOfInsult ∈ BW := mb_7 (List.mem_of_getElem? (i := 16) rfl)
theorem mw_192 : .instanceMethod yX2_errorOfInsult ∈ BW := mb_7 (List.mem_of_getElem? (i := 17) rfl)
theorem mw_193 : .selects RX2 yX2_errorOfInsult yX2_errorOfInsult ∈ BW := mb_7 (List.mem_of_getElem? (i := 18) rfl)
theorem mw_194 : .methodLink RX2 80 yX2_haveOpenQuarrel ∈ BW := mb_7 (List.mem_of_getElem? (i := 19) rfl)
theorem mw_195 : .instanceMethod yX2_haveOpenQuarrel ∈ BW := mb_7 (List.mem_of_getElem? (i := 20) rfl)
theorem mw_196 : .selects RX2 yX2_haveOpenQuarrel yX2_haveOpenQuarrel ∈ BW := mb_7 (List.mem_of_getElem? (i := 21) rfl)
theorem mw_197 : .methodLink RX2 84 yX2_addEvent ∈ BW := mb_7 (List.mem_of_getElem? (i := 22) rfl)
theorem mw_198 : .instanceMethod yX2_addEvent ∈ BW := mb_7 (List.mem_of_getElem? (i := 23) rfl)
theorem mw_199 : .selects RX2 yX2_addEvent yX2_addEvent ∈ BW := mb_7 (List.mem_of_getElem? (i := 24) rfl)
theorem mw_200 : .code yX2_addQuarrel cX2_addQuarrel 6 (some .int) ∈ BW := mb_8 (List.mem_of_getElem? (i := 0) rfl)
theorem mw_201 : .code yX2_secondsCanSettle cX2_secondsCanSettle 6 (some .boolean) ∈ BW := mb_8 (List.mem_of_getElem? (i := 1) rfl)
theorem mw_202 : .code yX2_hoursToCool cX2_hoursToCool 2 (some .int) ∈ BW := mb_8 (List.mem_of_getElem? (i := 2) rfl)
theorem mw_203 : .code yX2_peaceLeft cX2_peaceLeft 5 (some .int) ∈ BW := mb_8 (List.mem_of_getElem? (i := 3) rfl)
theorem mw_204 : .methodLink RX2 124 yX2_secondsCanSettle ∈ BW := mb_8 (List.mem_of_getElem? (i := 4) rfl)
theorem mw_205 : .instanceMethod yX2_secondsCanSettle ∈ BW := mb_8 (List.mem_of_getElem? (i := 5) rfl)
theorem mw_206 : .selects RX2 yX2_secondsCanSettle yX2_secondsCanSettle ∈ BW := mb_8 (List.mem_of_getElem? (i := 6) rfl)
theorem mw_207 : .methodLink RX2 128 yX2_hoursToCool ∈ BW := mb_8 (List.mem_of_getElem? (i := 7) rfl)
theorem mw_208 : .instanceMethod yX2_hoursToCool ∈ BW := mb_8 (List.mem_of_getElem? (i := 8) rfl)
theorem mw_209 : .selects RX2 yX2_hoursToCool yX2_hoursToCool ∈ BW := mb_8 (List.mem_of_getElem? (i := 9) rfl)
theorem mw_210 : .methodLink RX2 111 yX2_oathLeft ∈ BW := mb_8 (List.mem_of_getElem? (i := 10) rfl)
theorem mw_211 : .instanceMethod yX2_oathLeft ∈ BW := mb_8 (List.mem_of_getElem? (i := 11) rfl)
theorem mw_212 : .selects RX2 yX2_oathLeft yX2_oathLeft ∈ BW := mb_8 (List.mem_of_getElem? (i := 12) rfl)
theorem mw_213 : .methodLink RX2 131 yX2_peaceLeft ∈ BW := mb_8 (List.mem_of_getElem? (i := 13) rfl)
theorem mw_214 : .instanceMethod yX2_peaceLeft ∈ BW := mb_8 (List.mem_of_getElem? (i := 14) rfl)
theorem mw_215 : .selects RX2 yX2_peaceLeft yX2_peaceLeft ∈ BW := mb_8 (List.mem_of_getElem? (i := 15) rfl)
theorem mw_216 : .code yX2_waysBetween cX2_waysBetween 6 (some .int) ∈ BW := mb_8 (List.mem_of_getElem? (i := 16) rfl)
theorem mw_217 : .methodLink RX2 117 yX2_hoursSince ∈ BW := mb_8 (List.mem_of_getElem? (i := 17) rfl)
theorem mw_218 : .instanceMethod yX2_hoursSince ∈ BW := mb_8 (List.mem_of_getElem? (i := 18) rfl)
theorem mw_219 : .selects RX2 yX2_hoursSince yX2_hoursSince ∈ BW := mb_8 (List.mem_of_getElem? (i := 19) rfl)
theorem mw_220 : .methodLink RX2 120 yX2_waysBetween ∈ BW := mb_8 (List.mem_of_getElem? (i := 20) rfl)
theorem mw_221 : .instanceMethod yX2_waysBetween ∈ BW := mb_8 (List.mem_of_getElem? (i := 21) rfl)
theorem mw_222 : .selects RX2 yX2_waysBetween yX2_waysBetween ∈ BW := mb_8 (List.mem_of_getElem? (i := 22) rfl)
theorem mw_223 : .code yX2_waysOf cX2_waysOf 2 (some .int) ∈ BW := mb_8 (List.mem_of_getElem? (i := 23) rfl)
theorem mw_224 : .code yX2_addPoints cX2_addPoints 5 none ∈ BW := mb_8 (List.mem_of_getElem? (i := 24) rfl)
theorem mw_225 : .code yX2_quarrelsWith cX2_quarrelsWith 5 (some .int) ∈ BW := mb_9 (List.mem_of_getElem? (i := 0) rfl)
theorem mw_226 : .methodLink RX2 88 yX2_hasQuarrel ∈ BW := mb_9 (List.mem_of_getElem? (i := 1) rfl)
theorem mw_227 : .instanceMethod yX2_hasQuarrel ∈ BW := mb_9 (List.mem_of_getElem? (i := 2) rfl)
theorem mw_228 : .selects RX2 yX2_hasQuarrel yX2_hasQuarrel ∈ BW := mb_9 (List.mem_of_getElem? (i := 3) rfl)
theorem mw_229 : .methodLink RX2 91 yX2_waysOf ∈ BW := mb_9 (List.mem_of_getElem? (i := 4) rfl)
theorem mw_230 : .instanceMethod yX2_waysOf ∈ BW := mb_9 (List.mem_of_getElem? (i := 5) rfl)
theorem mw_231 : .selects RX2 yX2_waysOf yX2_waysOf ∈ BW := mb_9 (List.mem_of_getElem? (i := 6) rfl)
theorem mw_232 : .methodLink RX2 95 yX2_addPoints ∈ BW := mb_9 (List.mem_of_getElem? (i := 7) rfl)
theorem mw_233 : .instanceMethod yX2_addPoints ∈ BW := mb_9 (List.mem_of_getElem? (i := 8) rfl)
theorem mw_234 : .selects RX2 yX2_addPoints yX2_addPoints ∈ BW := mb_9 (List.mem_of_getElem? (i := 9) rfl)
theorem mw_235 : .methodLink RX2 98 yX2_quarrelsWith ∈ BW := mb_9 (List.mem_of_getElem? (i := 10) rfl)
theorem mw_236 : .instanceMethod yX2_quarrelsWith ∈ BW := mb_9 (List.mem_of_getElem? (i := 11) rfl)
theorem mw_237 : .selects RX2 yX2_quarrelsWith yX2_quarrelsWith ∈ BW := mb_9 (List.mem_of_getElem? (i := 12) rfl)
theorem mw_238 : .code yX2_settleBy cX2_settleBy 3 (some .int) ∈ BW := mb_9 (List.mem_of_getElem? (i := 13) rfl)
theorem mw_239 : .code yX2_whyNotDue cX2_whyNotDue 3 (some .int) ∈ BW := mb_9 (List.mem_of_getElem? (i := 14) rfl)
theorem mw_240 : .code yX2_skillOf cX2_skillOf 2 (some .int) ∈ BW := mb_9 (List.mem_of_getElem? (i := 15) rfl)
theorem mw_241 : .code yX2_winnerOf cX2_winnerOf 4 (some .int) ∈ BW := mb_9 (List.mem_of_getElem? (i := 16) rfl)
theorem mw_242 : .methodLink RX2 143 yX2_skillOf ∈ BW := mb_9 (List.mem_of_getElem? (i := 17) rfl)
theorem mw_243 : .instanceMethod yX2_skillOf ∈ BW := mb_9 (List.mem_of_getElem? (i := 18) rfl)
theorem mw_244 : .selects RX2 yX2_skillOf yX2_skillOf ∈ BW := mb_9 (List.mem_of_getElem? (i := 19) rfl)
theorem mw_245 : .code yX2_bindByOath cX2_bindByOath 3 none ∈ BW := mb_9 (List.mem_of_getElem? (i := 20) rfl)
theorem mw_246 : .methodLink RX2 101 yX2_whyNotDue ∈ BW := mb_9 (List.mem_of_getElem? (i := 21) rfl)
theorem mw_247 : .instanceMethod yX2_whyNotDue ∈ BW := mb_9 (List.mem_of_getElem? (i := 22) rfl)
theorem mw_248 : .selects RX2 yX2_whyNotDue yX2_whyNotDue ∈ BW := mb_9 (List.mem_of_getElem? (i := 23) rfl)
theorem mw_249 : .methodLink RX2 104 yX2_winnerOf ∈ BW := mb_9 (List.mem_of_getElem? (i := 24) rfl)
theorem mw_250 : .instanceMethod yX2_winnerOf ∈ BW := mb_10 (List.mem_of_getElem? (i := 0) rfl)
theorem mw_251 : .selects RX2 yX2_winnerOf yX2_winnerOf ∈ BW := mb_10 (List.mem_of_getElem? (i := 1) rfl)
theorem mw_252 : .methodLink RX2 107 yX2_bindByOath ∈ BW := mb_10 (List.mem_of_getElem? (i := 2) rfl)
theorem mw_253 : .instanceMethod yX2_bindByOath ∈ BW := mb_10 (List.mem_of_getElem? (i := 3) rfl)
theorem mw_254 : .selects RX2 yX2_bindByOath yX2_bindByOath ∈ BW := mb_10 (List.mem_of_getElem? (i := 4) rfl)
theorem mw_255 : .code yX2_duel cX2_duel 5 (some .int) ∈ BW := mb_10 (List.mem_of_getElem? (i := 5) rfl)
theorem mw_256 : .code yX2_takeOath cX2_takeOath 2 (some .int) ∈ BW := mb_10 (List.mem_of_getElem? (i := 6) rfl)
theorem mw_257 : .code yX2_moveOn cX2_moveOn 3 (some .int) ∈ BW := mb_10 (List.mem_of_getElem? (i := 7) rfl)
theorem mw_258 : .code yX2_firstOf cX2_firstOf 2 (some .int) ∈ BW := mb_10 (List.mem_of_getElem? (i := 8) rfl)
theorem mw_259 : .code yX2_hoursUntilCool cX2_hoursUntilCool 2 (some .int) ∈ BW := mb_10 (List.mem_of_getElem? (i := 9) rfl)
theorem mw_260 : .code yX2_orNoneIfTooFar cX2_orNoneIfTooFar 1 (some .int) ∈ BW := mb_10 (List.mem_of_getElem? (i := 10) rfl)
theorem mw_261 : .methodLink RX2 134 yX2_allows ∈ BW := mb_10 (List.mem_of_getElem? (i := 11) rfl)
theorem mw_262 : .instanceMethod yX2_allows ∈ BW := mb_10 (List.mem_of_getElem? (i := 12) rfl)
theorem mw_263 : .selects RX2 yX2_allows yX2_allows ∈ BW := mb_10 (List.mem_of_getElem? (i := 13) rfl)
theorem mw_264 : .methodLink RX2 137 yX2_hoursUntilCool ∈ BW := mb_10 (List.mem_of_getElem? (i := 14) rfl)
theorem mw_265 : .instanceMethod yX2_hoursUntilCool ∈ BW := mb_10 (List.mem_of_getElem? (i := 15) rfl)
theorem mw_266 : .selects RX2 yX2_hoursUntilCool yX2_hoursUntilCool ∈ BW := mb_10 (List.mem_of_getElem? (i := 16) rfl)
theorem mw_267 : .methodLink RX2 140 yX2_orNoneIfTooFar ∈ BW := mb_10 (List.mem_of_getElem? (i := 17) rfl)
theorem mw_268 : .static yX2_orNoneIfTooFar ∈ BW := mb_10 (List.mem_of_getElem? (i := 18) rfl)
theorem mw_269 : .code yX2_hoursUntilWay cX2_hoursUntilWay 2 (some .int) ∈ BW := mb_10 (List.mem_of_getElem? (i := 19) rfl)
theorem mw_270 : .code yX2_hoursUntilDuel cX2_hoursUntilDuel 5 (some .int) ∈ BW := mb_10 (List.mem_of_getElem? (i := 20) rfl)
theorem mw_271 : .code yX2_duelsOf cX2_duelsOf 5 (some .int) ∈ BW := mb_10 (List.mem_of_getElem? (i := 21) rfl)
theorem mw_272 : .code yX2_personsWithSecond cX2_personsWithSecond 4 (some .int) ∈ BW := mb_10 (List.mem_of_getElem? (i := 22) rfl)
theorem mw_273 : .methodLink RX2 146 yX2_duelsOf ∈ BW := mb_10 (List.mem_of_getElem? (i := 23) rfl)
theorem mw_274 : .instanceMethod yX2_duelsOf ∈ BW := mb_10 (List.mem_of_getElem? (i := 24) rfl)
theorem mw_275 : .selects RX2 yX2_duelsOf yX2_duelsOf ∈ BW := mb_11 (List.mem_of_getElem? (i := 0) rfl)
theorem mw_276 : .methodLink RX2 149 yX2_personsWithSecond ∈ BW := mb_11 (List.mem_of_getElem? (i := 1) rfl)
theorem mw_277 : .instanceMethod yX2_personsWithSecond ∈ BW := mb_11 (List.mem_of_getElem? (i := 2) rfl)
theorem mw_278 : .selects RX2 yX2_personsWithSecond yX2_personsWithSecond ∈ BW := mb_11 (List.mem_of_getElem? (i := 3) rfl)
theorem mw_279 : .code yX2_tellPerson cX2_tellPerson 3 (some .int) ∈ BW := mb_11 (List.mem_of_getElem? (i := 4) rfl)
theorem mw_280 : .code yX2_tellQuarrel cX2_tellQuarrel 3 (some .int) ∈ BW := mb_11 (List.mem_of_getElem? (i := 5) rfl)
theorem mw_281 : .code yX2_tellEvent cX2_tellEvent 4 (some .int) ∈ BW := mb_11 (List.mem_of_getElem? (i := 6) rfl)
theorem mw_282 : .code yX2_pressureOf cX2_pressureOf 2 (some .int) ∈ BW := mb_11 (List.mem_of_getElem? (i := 7) rfl)
theorem mw_283 : .code yX2_quarrelsBefore cX2_quarrelsBefore 5 (some .int) ∈ BW := mb_11 (List.mem_of_getElem? (i := 8) rfl)
theorem mw_284 : .methodLink RX2 155 yX2_pressureOf ∈ BW := mb_11 (List.mem_of_getElem? (i := 9) rfl)
theorem mw_285 : .instanceMethod yX2_pressureOf ∈ BW := mb_11 (List.mem_of_getElem? (i := 10) rfl)
theorem mw_286 : .selects RX2 yX2_pressureOf yX2_pressureOf ∈ BW := mb_11 (List.mem_of_getElem? (i := 11) rfl)
theorem mw_287 : .code yX2_quarrelThatPresses cX2_quarrelThatPresses 3 (some .int) ∈ BW := mb_11 (List.mem_of_getElem? (i := 12) rfl)
theorem mw_288 : .methodLink RX2 152 yX2_quarrelsBefore ∈ BW := mb_11 (List.mem_of_getElem? (i := 13) rfl)
theorem mw_289 : .instanceMethod yX2_quarrelsBefore ∈ BW := mb_11 (List.mem_of_getElem? (i := 14) rfl)
theorem mw_290 : .selects RX2 yX2_quarrelsBefore yX2_quarrelsBefore ∈ BW := mb_11 (List.mem_of_getElem? (i := 15) rfl)
theorem mw_291 : .code yX2_insultsFrom cX2_insultsFrom 4 (some .int) ∈ BW := mb_11 (List.mem_of_getElem? (i := 16) rfl)
theorem mw_292 : .code yX2_openQuarrels cX2_openQuarrels 3 (some .int) ∈ BW := mb_11 (List.mem_of_getElem? (i := 17) rfl)
theorem mw_293 : .code yX2_dueQuarrels cX2_dueQuarrels 3 (some .int) ∈ BW := mb_11 (List.mem_of_getElem? (i := 18) rfl)
theorem mw_294 : .code yX2_personsUnderOath cX2_personsUnderOath 3 (some .int) ∈ BW := mb_11 (List.mem_of_getElem? (i := 19) rfl)
theorem mw_295 : .methodLink RX2 158 yX2_openQuarrels ∈ BW := mb_11 (List.mem_of_getElem? (i := 20) rfl)
theorem mw_296 : .instanceMethod yX2_openQuarrels ∈ BW := mb_11 (List.mem_of_getElem? (i := 21) rfl)
theorem mw_297 : .selects RX2 yX2_openQuarrels yX2_openQuarrels ∈ BW := mb_11 (List.mem_of_getElem? (i := 22) rfl)
theorem mw_298 : .methodLink RX2 162 yX2_dueQuarrels ∈ BW := mb_11 (List.mem_of_getElem? (i := 23) rfl)
theorem mw_299 : .instanceMethod yX2_dueQuarrels ∈ BW := mb_11 (List.mem_of_getElem? (i := 24) rfl)
theorem mw_300 : .selects RX2 yX2_dueQuarrels yX2_dueQuarrels ∈ BW := mb_12 (List.mem_of_getElem? (i := 0) rfl)
theorem mw_301 : .methodLink RX2 165 yX2_personsUnderOath ∈ BW := mb_12 (List.mem_of_getElem? (i := 1) rfl)
theorem mw_302 : .instanceMethod yX2_personsUnderOath ∈ BW := mb_12 (List.mem_of_getElem? (i := 2) rfl)
theorem mw_303 : .selects RX2 yX2_personsUnderOath yX2_personsUnderOath ∈ BW := mb_12 (List.mem_of_getElem? (i := 3) rfl)
theorem mw_304 : .code yX2_tellNumber cX2_tellNumber 2 (some .int) ∈ BW := mb_12 (List.mem_of_getElem? (i := 4) rfl)
theorem mw_305 : .methodLink RX3 1 objectInit ∈ BW := mb_12 (List.mem_of_getElem? (i := 5) rfl)
theorem mw_306 : .classLink RX3 7 RX2 ∈ BW := mb_12 (List.mem_of_getElem? (i := 6) rfl)
theorem mw_307 : .fieldLink RX3 10 "QuarrelWays" "town" "LQuarrelWays$Town;" ∈ BW := mb_12 (List.mem_of_getElem? (i := 7) rfl)
theorem mw_308 : .classLink RX3 16 RX0 ∈ BW := mb_12 (List.mem_of_getElem? (i := 8) rfl)
theorem mw_309 : .instantiable RX0 3 ∈ BW := mb_12 (List.mem_of_getElem? (i := 9) rfl)
theorem mw_310 : .fieldLink RX3 19 "QuarrelWays" "history" "LQuarrelWays$History;" ∈ BW := mb_12 (List.mem_of_getElem? (i := 10) rfl)
theorem mw_311 : .classLink RX3 23 RX1 ∈ BW := mb_12 (List.mem_of_getElem? (i := 11) rfl)
theorem mw_312 : .instantiable RX1 6 ∈ BW := mb_12 (List.mem_of_getElem? (i := 12) rfl)
theorem mw_313 : .fieldLink RX3 26 "QuarrelWays" "pad" "LQuarrelWays$Pad;" ∈ BW := mb_12 (List.mem_of_getElem? (i := 13) rfl)
theorem mw_314 : .fieldLink RX3 30 "QuarrelWays" "slots" "[LQuarrelWays$Town;" ∈ BW := mb_12 (List.mem_of_getElem? (i := 14) rfl)
theorem mw_315 : .instanceMethod yX0_init ∈ BW := mb_12 (List.mem_of_getElem? (i := 15) rfl)
theorem mw_316 : .instanceMethod yX1_init ∈ BW := mb_12 (List.mem_of_getElem? (i := 16) rfl)
theorem mw_317 : .code yX3_init cX3_init 1 none ∈ BW := mb_12 (List.mem_of_getElem? (i := 17) rfl)
theorem mw_318 : .instanceMethod yX0_note ∈ BW := mb_12 (List.mem_of_getElem? (i := 18) rfl)
theorem mw_319 : .selects RX0 yX0_note yX0_note ∈ BW := mb_12 (List.mem_of_getElem? (i := 19) rfl)
theorem mw_320 : .instanceMethod yX2_changeSetting ∈ BW := mb_12 (List.mem_of_getElem? (i := 20) rfl)
theorem mw_321 : .selects RX2 yX2_changeSetting yX2_changeSetting ∈ BW := mb_12 (List.mem_of_getElem? (i := 21) rfl)
theorem mw_322 : .instanceMethod yX0_keepUnlessError ∈ BW := mb_12 (List.mem_of_getElem? (i := 22) rfl)
theorem mw_323 : .selects RX0 yX0_keepUnlessError yX0_keepUnlessError ∈ BW := mb_12 (List.mem_of_getElem? (i := 23) rfl)
theorem mw_324 : .code yX3_set cX3_set 3 (some .int) ∈ BW := mb_12 (List.mem_of_getElem? (i := 24) rfl)
theorem mw_325 : .instanceMethod yX2_addPerson ∈ BW := mb_13 (List.mem_of_getElem? (i := 0) rfl)
theorem mw_326 : .selects RX2 yX2_addPerson yX2_addPerson ∈ BW := mb_13 (List.mem_of_getElem? (i := 1) rfl)
theorem mw_327 : .code yX3_person cX3_person 3 (some .int) ∈ BW := mb_13 (List.mem_of_getElem? (i := 2) rfl)
theorem mw_328 : .instanceMethod yX2_takeSecond ∈ BW := mb_13 (List.mem_of_getElem? (i := 3) rfl)
theorem mw_329 : .selects RX2 yX2_takeSecond yX2_takeSecond ∈ BW := mb_13 (List.mem_of_getElem? (i := 4) rfl)
theorem mw_330 : .code yX3_second cX3_second 3 (some .int) ∈ BW := mb_13 (List.mem_of_getElem? (i := 5) rfl)
theorem mw_331 : .instanceMethod yX2_allowOrBar ∈ BW := mb_13 (List.mem_of_getElem? (i := 6) rfl)
theorem mw_332 : .selects RX2 yX2_allowOrBar yX2_allowOrBar ∈ BW := mb_13 (List.mem_of_getElem? (i := 7) rfl)
theorem mw_333 : .code yX3_allow cX3_allow 2 (some .int) ∈ BW := mb_13 (List.mem_of_getElem? (i := 8) rfl)
theorem mw_334 : .instanceMethod yX2_addQuarrel ∈ BW := mb_13 (List.mem_of_getElem? (i := 9) rfl)
theorem mw_335 : .selects RX2 yX2_addQuarrel yX2_addQuarrel ∈ BW := mb_13 (List.mem_of_getElem? (i := 10) rfl)
theorem mw_336 : .code yX3_insult cX3_insult 4 (some .int) ∈ BW := mb_13 (List.mem_of_getElem? (i := 11) rfl)
theorem mw_337 : .instanceMethod yX2_settleBy ∈ BW := mb_13 (List.mem_of_getElem? (i := 12) rfl)
theorem mw_338 : .selects RX2 yX2_settleBy yX2_settleBy ∈ BW := mb_13 (List.mem_of_getElem? (i := 13) rfl)
theorem mw_339 : .code yX3_settle cX3_settle 3 (some .int) ∈ BW := mb_13 (List.mem_of_getElem? (i := 14) rfl)
theorem mw_340 : .instanceMethod yX2_duel ∈ BW := mb_13 (List.mem_of_getElem? (i := 15) rfl)
theorem mw_341 : .selects RX2 yX2_duel yX2_duel ∈ BW := mb_13 (List.mem_of_getElem? (i := 16) rfl)
theorem mw_342 : .code yX3_fight cX3_fight 2 (some .int) ∈ BW := mb_13 (List.mem_of_getElem? (i := 17) rfl)
theorem mw_343 : .instanceMethod yX2_takeOath ∈ BW := mb_13 (List.mem_of_getElem? (i := 18) rfl)
theorem mw_344 : .selects RX2 yX2_takeOath yX2_takeOath ∈ BW := mb_13 (List.mem_of_getElem? (i := 19) rfl)
theorem mw_345 : .code yX3_swear cX3_swear 2 (some .int) ∈ BW := mb_13 (List.mem_of_getElem? (i := 20) rfl)
theorem mw_346 : .code yJ6_bitCount_0f7a4 cJ6_bitCount_0f7a4 1 (some .int) ∈ BW := mb_13 (List.mem_of_getElem? (i := 21) rfl)
theorem mw_347 : .constant RJ6 265 1431655765 ∈ BW := mb_13 (List.mem_of_getElem? (i := 22) rfl)
theorem mw_348 : .constant RJ6 266 858993459 ∈ BW := mb_13 (List.mem_of_getElem? (i := 23) rfl)
theorem mw_349 : .constant RJ6 267 252645135 ∈ BW := mb_13 (List.mem_of_getElem? (i := 24) rfl)
theorem mw_350 : .instanceMethod yX2_moveOn ∈ BW := mb_14 (List.mem_of_getElem? (i := 0) rfl)
theorem mw_351 : .selects RX2 yX2_moveOn yX2_moveOn ∈ BW := mb_14 (List.mem_of_getElem? (i := 1) rfl)
theorem mw_352 : .methodLink RX3 71 yX3_isError ∈ BW := mb_14 (List.mem_of_getElem? (i := 2) rfl)
theorem mw_353 : .methodLink RX3 79 yJ6_bitCount_0f7a4 ∈ BW := mb_14 (List.mem_of_getElem? (i := 3) rfl)
theorem mw_354 : .static yJ6_bitCount_0f7a4 ∈ BW := mb_14 (List.mem_of_getElem? (i := 4) rfl)
theorem mw_355 : .initialized RJ6 ∈ BW := mb_14 (List.mem_of_getElem? (i := 5) rfl)
theorem mw_356 : .code yX3_pass cX3_pass 3 (some .int) ∈ BW := mb_14 (List.mem_of_getElem? (i := 6) rfl)
theorem mw_357 : .instanceMethod yX2_tellPerson ∈ BW := mb_14 (List.mem_of_getElem? (i := 7) rfl)
theorem mw_358 : .selects RX2 yX2_tellPerson yX2_tellPerson ∈ BW := mb_14 (List.mem_of_getElem? (i := 8) rfl)
theorem mw_359 : .code yX3_of cX3_of 3 (some .int) ∈ BW := mb_14 (List.mem_of_getElem? (i := 9) rfl)
theorem mw_360 : .instanceMethod yX2_tellQuarrel ∈ BW := mb_14 (List.mem_of_getElem? (i := 10) rfl)
theorem mw_361 : .selects RX2 yX2_tellQuarrel yX2_tellQuarrel ∈ BW := mb_14 (List.mem_of_getElem? (i := 11) rfl)
theorem mw_362 : .code yX3_quarrel cX3_quarrel 3 (some .int) ∈ BW := mb_14 (List.mem_of_getElem? (i := 12) rfl)
theorem mw_363 : .code yX3_record cX3_record 3 (some .int) ∈ BW := mb_14 (List.mem_of_getElem? (i := 13) rfl)
theorem mw_364 : .instanceMethod yX2_tellEvent ∈ BW := mb_14 (List.mem_of_getElem? (i := 14) rfl)
theorem mw_365 : .selects RX2 yX2_tellEvent yX2_tellEvent ∈ BW := mb_14 (List.mem_of_getElem? (i := 15) rfl)
theorem mw_366 : .instanceMethod yX2_quarrelThatPresses ∈ BW := mb_14 (List.mem_of_getElem? (i := 16) rfl)
theorem mw_367 : .selects RX2 yX2_quarrelThatPresses yX2_quarrelThatPresses ∈ BW := mb_14 (List.mem_of_getElem? (i := 17) rfl)
theorem mw_368 : .code yX3_pressing cX3_pressing 2 (some .int) ∈ BW := mb_14 (List.mem_of_getElem? (i := 18) rfl)
theorem mw_369 : .code yX3_insults cX3_insults 2 (some .int) ∈ BW := mb_14 (List.mem_of_getElem? (i := 19) rfl)
theorem mw_370 : .instanceMethod yX2_insultsFrom ∈ BW := mb_14 (List.mem_of_getElem? (i := 20) rfl)
theorem mw_371 : .selects RX2 yX2_insultsFrom yX2_insultsFrom ∈ BW := mb_14 (List.mem_of_getElem? (i := 21) rfl)
theorem mw_372 : .instanceMethod yX2_tellNumber ∈ BW := mb_14 (List.mem_of_getElem? (i := 22) rfl)
theorem mw_373 : .selects RX2 yX2_tellNumber yX2_tellNumber ∈ BW := mb_14 (List.mem_of_getElem? (i := 23) rfl)
theorem mw_374 : .code yX3_count cX3_count 2 (some .int) ∈ BW := mb_14 (List.mem_of_getElem? (i := 24) rfl)
theorem mw_375 : .code yX3_why cX3_why 2 (some .int) ∈ BW := mb_15 (List.mem_of_getElem? (i := 0) rfl)
theorem mw_376 : .static yX2_firstOf ∈ BW := mb_15 (List.mem_of_getElem? (i := 1) rfl)
theorem mw_377 : .code yX3_firstWay cX3_firstWay 2 (some .int) ∈ BW := mb_15 (List.mem_of_getElem? (i := 2) rfl)
theorem mw_378 : .instanceMethod yX2_hoursUntilWay ∈ BW := mb_15 (List.mem_of_getElem? (i := 3) rfl)
theorem mw_379 : .selects RX2 yX2_hoursUntilWay yX2_hoursUntilWay ∈ BW := mb_15 (List.mem_of_getElem? (i := 4) rfl)
theorem mw_380 : .code yX3_opensIn cX3_opensIn 2 (some .int) ∈ BW := mb_15 (List.mem_of_getElem? (i := 5) rfl)
theorem mw_381 : .instanceMethod yX2_hoursUntilDuel ∈ BW := mb_15 (List.mem_of_getElem? (i := 6) rfl)
theorem mw_382 : .selects RX2 yX2_hoursUntilDuel yX2_hoursUntilDuel ∈ BW := mb_15 (List.mem_of_getElem? (i := 7) rfl)
theorem mw_383 : .code yX3_dueIn cX3_dueIn 2 (some .int) ∈ BW := mb_15 (List.mem_of_getElem? (i := 8) rfl)
theorem mw_384 : .code yX3_ifInsulted cX3_ifInsulted 5 (some .int) ∈ BW := mb_15 (List.mem_of_getElem? (i := 9) rfl)
theorem mw_385 : .code yX3_ifFought cX3_ifFought 2 (some .int) ∈ BW := mb_15 (List.mem_of_getElem? (i := 10) rfl)
theorem mw_386 : .code yX3_put cX3_put 4 (some .int) ∈ BW := mb_15 (List.mem_of_getElem? (i := 11) rfl)
theorem mw_387 : .static yX1_signsIn ∈ BW := mb_15 (List.mem_of_getElem? (i := 12) rfl)
theorem mw_388 : .instanceMethod yX1_append ∈ BW := mb_15 (List.mem_of_getElem? (i := 13) rfl)
theorem mw_389 : .selects RX1 yX1_append yX1_append ∈ BW := mb_15 (List.mem_of_getElem? (i := 14) rfl)
theorem mw_390 : .code yX3_wipe cX3_wipe 2 (some .int) ∈ BW := mb_15 (List.mem_of_getElem? (i := 15) rfl)
theorem mw_391 : .instanceMethod yX1_firstFault ∈ BW := mb_15 (List.mem_of_getElem? (i := 16) rfl)
theorem mw_392 : .selects RX1 yX1_firstFault yX1_firstFault ∈ BW := mb_15 (List.mem_of_getElem? (i := 17) rfl)
theorem mw_393 : .code yX3_fault cX3_fault 1 (some .int) ∈ BW := mb_15 (List.mem_of_getElem? (i := 18) rfl)
theorem mw_394 : .instanceMethod yX1_number ∈ BW := mb_15 (List.mem_of_getElem? (i := 19) rfl)
theorem mw_395 : .selects RX1 yX1_number yX1_number ∈ BW := mb_15 (List.mem_of_getElem? (i := 20) rfl)
theorem mw_396 : .code yX3_carryOutOrder cX3_carryOutOrder 3 (some .int) ∈ BW := mb_15 (List.mem_of_getElem? (i := 21) rfl)
theorem mw_397 : .methodLink RX3 158 yX3_carryOutOrder ∈ BW := mb_15 (List.mem_of_getElem? (i := 22) rfl)
theorem mw_398 : .instanceMethod yX3_carryOutOrder ∈ BW := mb_15 (List.mem_of_getElem? (i := 23) rfl)
theorem mw_399 : .selects RX3 yX3_carryOutOrder yX3_carryOutOrder ∈ BW := mb_15 (List.mem_of_getElem? (i := 24) rfl)
theorem mw_400 : .instanceMethod yX1_stepOverSemicolon ∈ BW := mb_16 (List.mem_of_getElem? (i := 0) rfl)
theorem mw_401 : .selects RX1 yX1_stepOverSemicolon yX1_stepOverSemicolon ∈ BW := mb_16 (List.mem_of_getElem? (i := 1) rfl)
theorem mw_402 : .code yX3_carryOut cX3_carryOut 3 (some .int) ∈ BW := mb_16 (List.mem_of_getElem? (i := 2) rfl)
theorem mw_403 : .instanceMethod yX0_goBack ∈ BW := mb_16 (List.mem_of_getElem? (i := 3) rfl)
theorem mw_404 : .selects RX0 yX0_goBack yX0_goBack ∈ BW := mb_16 (List.mem_of_getElem? (i := 4) rfl)
theorem mw_405 : .code yX3_undo cX3_undo 1 (some .int) ∈ BW := mb_16 (List.mem_of_getElem? (i := 5) rfl)
theorem mw_406 : .code yX3_isSlot cX3_isSlot 2 (some .boolean) ∈ BW := mb_16 (List.mem_of_getElem? (i := 6) rfl)
theorem mw_407 : .methodLink RX3 168 yX3_isSlot ∈ BW := mb_16 (List.mem_of_getElem? (i := 7) rfl)
theorem mw_408 : .instanceMethod yX3_isSlot ∈ BW := mb_16 (List.mem_of_getElem? (i := 8) rfl)
theorem mw_409 : .selects RX3 yX3_isSlot yX3_isSlot ∈ BW := mb_16 (List.mem_of_getElem? (i := 9) rfl)
theorem mw_410 : .code yX3_save cX3_save 3 (some .int) ∈ BW := mb_16 (List.mem_of_getElem? (i := 10) rfl)
theorem mw_411 : .code yX3_restore cX3_restore 3 (some .int) ∈ BW := mb_16 (List.mem_of_getElem? (i := 11) rfl)
theorem mw_412 : .code yX4_init cX4_init 1 none ∈ BW := mb_16 (List.mem_of_getElem? (i := 12) rfl)
theorem mw_413 : .methodLink RX4 1 objectInit ∈ BW := mb_16 (List.mem_of_getElem? (i := 13) rfl)
theorem mw_414 : .fieldLink RX4 7 "QuarrelWaysModel" "s" "[I" ∈ BW := mb_16 (List.mem_of_getElem? (i := 14) rfl)
theorem mw_415 : .fieldLink RX4 13 "QuarrelWaysModel" "aside" "[I" ∈ BW := mb_16 (List.mem_of_getElem? (i := 15) rfl)
theorem mw_416 : .fieldLink RX4 16 "QuarrelWaysModel" "before" "[I" ∈ BW := mb_16 (List.mem_of_getElem? (i := 16) rfl)
theorem mw_417 : .fieldLink RX4 19 "QuarrelWaysModel" "kept" "[I" ∈ BW := mb_16 (List.mem_of_getElem? (i := 17) rfl)
theorem mw_418 : .arrayClass .boolean ∈ BW := mb_16 (List.mem_of_getElem? (i := 18) rfl)
theorem mw_419 : .fieldLink RX4 22 "QuarrelWaysModel" "isKept" "[Z" ∈ BW := mb_16 (List.mem_of_getElem? (i := 19) rfl)
theorem mw_420 : .fieldLink RX4 26 "QuarrelWaysModel" "pad" "[I" ∈ BW := mb_16 (List.mem_of_getElem? (i := 20) rfl)
theorem mw_421 : .code yX4_in cX4_in 3 (some .boolean) ∈ BW := mb_16 (List.mem_of_getElem? (i := 21) rfl)
theorem mw_422 : .code yX4_putAside cX4_putAside 2 none ∈ BW := mb_16 (List.mem_of_getElem? (i := 22) rfl)
theorem mw_423 : .code yX4_end cX4_end 3 (some .int) ∈ BW := mb_16 (List.mem_of_getElem? (i := 23) rfl)
theorem mw_424 : .fieldLink RX4 29 "QuarrelWaysModel" "known" "I" ∈ BW := mb_16 (List.mem_of_getElem? (i := 24) rfl)
theorem mw_425 : .code yX4_isPerson cX4_isPerson 2 (some .boolean) ∈ BW := mb_17 (List.mem_of_getElem? (i := 0) rfl)
theorem mw_426 : .methodLink RX4 33 yX4_in ∈ BW := mb_17 (List.mem_of_getElem? (i := 1) rfl)
theorem mw_427 : .static yX4_in ∈ BW := mb_17 (List.mem_of_getElem? (i := 2) rfl)
theorem mw_428 : .initialized RX4 ∈ BW := mb_17 (List.mem_of_getElem? (i := 3) rfl)
theorem mw_429 : .code yX4_isQuarrel cX4_isQuarrel 2 (some .boolean) ∈ BW := mb_17 (List.mem_of_getElem? (i := 4) rfl)
theorem mw_430 : .code yX4_person0 cX4_person0 3 (some .int) ∈ BW := mb_17 (List.mem_of_getElem? (i := 5) rfl)
theorem mw_431 : .code yX4_quarrel0 cX4_quarrel0 3 (some .int) ∈ BW := mb_17 (List.mem_of_getElem? (i := 6) rfl)
theorem mw_432 : .code yX4_isUnderOath cX4_isUnderOath 3 (some .boolean) ∈ BW := mb_17 (List.mem_of_getElem? (i := 7) rfl)
theorem mw_433 : .methodLink RX4 37 yX4_person0 ∈ BW := mb_17 (List.mem_of_getElem? (i := 8) rfl)
theorem mw_434 : .instanceMethod yX4_person0 ∈ BW := mb_17 (List.mem_of_getElem? (i := 9) rfl)
theorem mw_435 : .selects RX4 yX4_person0 yX4_person0 ∈ BW := mb_17 (List.mem_of_getElem? (i := 10) rfl)
theorem mw_436 : .code yX4_areOfThese cX4_areOfThese 6 (some .boolean) ∈ BW := mb_17 (List.mem_of_getElem? (i := 11) rfl)
theorem mw_437 : .methodLink RX4 41 yX4_quarrel0 ∈ BW := mb_17 (List.mem_of_getElem? (i := 12) rfl)
theorem mw_438 : .instanceMethod yX4_quarrel0 ∈ BW := mb_17 (List.mem_of_getElem? (i := 13) rfl)
theorem mw_439 : .selects RX4 yX4_quarrel0 yX4_quarrel0 ∈ BW := mb_17 (List.mem_of_getElem? (i := 14) rfl)
theorem mw_440 : .code yX4_hasPeace cX4_hasPeace 8 (some .boolean) ∈ BW := mb_17 (List.mem_of_getElem? (i := 15) rfl)
theorem mw_441 : .methodLink RX4 44 yX4_areOfThese ∈ BW := mb_17 (List.mem_of_getElem? (i := 16) rfl)
theorem mw_442 : .instanceMethod yX4_areOfThese ∈ BW := mb_17 (List.mem_of_getElem? (i := 17) rfl)
theorem mw_443 : .selects RX4 yX4_areOfThese yX4_areOfThese ∈ BW := mb_17 (List.mem_of_getElem? (i := 18) rfl)
theorem mw_444 : .code yX4_haveSeconds cX4_haveSeconds 7 (some .boolean) ∈ BW := mb_17 (List.mem_of_getElem? (i := 19) rfl)
theorem mw_445 : .methodLink RX4 47 yX4_haveSeconds ∈ BW := mb_17 (List.mem_of_getElem? (i := 20) rfl)
theorem mw_446 : .instanceMethod yX4_haveSeconds ∈ BW := mb_17 (List.mem_of_getElem? (i := 21) rfl)
theorem mw_447 : .selects RX4 yX4_haveSeconds yX4_haveSeconds ∈ BW := mb_17 (List.mem_of_getElem? (i := 22) rfl)
theorem mw_448 : .methodLink RX4 50 yX4_isUnderOath ∈ BW := mb_17 (List.mem_of_getElem? (i := 23) rfl)
theorem mw_449 : .instanceMethod yX4_isUnderOath ∈ BW := mb_17 (List.mem_of_getElem? (i := 24) rfl)
theorem mw_450 : .selects RX4 yX4_isUnderOath yX4_isUnderOath ∈ BW := mb_18 (List.mem_of_getElem? (i := 0) rfl)
theorem mw_451 : .methodLink RX4 54 yX4_hasPeace ∈ BW := mb_18 (List.mem_of_getElem? (i := 1) rfl)
theorem mw_452 : .instanceMethod yX4_hasPeace ∈ BW := mb_18 (List.mem_of_getElem? (i := 2) rfl)
theorem mw_453 : .selects RX4 yX4_hasPeace yX4_hasPeace ∈ BW := mb_18 (List.mem_of_getElem? (i := 3) rfl)
theorem mw_454 : .code yX4_waysFor cX4_waysFor 8 (some .int) ∈ BW := mb_18 (List.mem_of_getElem? (i := 4) rfl)
theorem mw_455 : .code yX4_since cX4_since 2 (some .int) ∈ BW := mb_18 (List.mem_of_getElem? (i := 5) rfl)
theorem mw_456 : .methodLink RX4 58 yX4_since ∈ BW := mb_18 (List.mem_of_getElem? (i := 6) rfl)
theorem mw_457 : .instanceMethod yX4_since ∈ BW := mb_18 (List.mem_of_getElem? (i := 7) rfl)
theorem mw_458 : .selects RX4 yX4_since yX4_since ∈ BW := mb_18 (List.mem_of_getElem? (i := 8) rfl)
theorem mw_459 : .methodLink RX4 62 yX4_waysFor ∈ BW := mb_18 (List.mem_of_getElem? (i := 9) rfl)
theorem mw_460 : .instanceMethod yX4_waysFor ∈ BW := mb_18 (List.mem_of_getElem? (i := 10) rfl)
theorem mw_461 : .selects RX4 yX4_waysFor yX4_waysFor ∈ BW := mb_18 (List.mem_of_getElem? (i := 11) rfl)
theorem mw_462 : .code yX4_waysOf cX4_waysOf 3 (some .int) ∈ BW := mb_18 (List.mem_of_getElem? (i := 12) rfl)
theorem mw_463 : .methodLink RX4 66 yX4_waysOf ∈ BW := mb_18 (List.mem_of_getElem? (i := 13) rfl)
theorem mw_464 : .instanceMethod yX4_waysOf ∈ BW := mb_18 (List.mem_of_getElem? (i := 14) rfl)
theorem mw_465 : .selects RX4 yX4_waysOf yX4_waysOf ∈ BW := mb_18 (List.mem_of_getElem? (i := 15) rfl)
theorem mw_466 : .code yX4_reason cX4_reason 3 (some .int) ∈ BW := mb_18 (List.mem_of_getElem? (i := 16) rfl)
theorem mw_467 : .code yX4_skill cX4_skill 2 (some .int) ∈ BW := mb_18 (List.mem_of_getElem? (i := 17) rfl)
theorem mw_468 : .code yX4_winnerOf cX4_winnerOf 4 (some .int) ∈ BW := mb_18 (List.mem_of_getElem? (i := 18) rfl)
theorem mw_469 : .methodLink RX4 69 yX4_skill ∈ BW := mb_18 (List.mem_of_getElem? (i := 19) rfl)
theorem mw_470 : .instanceMethod yX4_skill ∈ BW := mb_18 (List.mem_of_getElem? (i := 20) rfl)
theorem mw_471 : .selects RX4 yX4_skill yX4_skill ∈ BW := mb_18 (List.mem_of_getElem? (i := 21) rfl)
theorem mw_472 : .code yX4_tell cX4_tell 4 none ∈ BW := mb_18 (List.mem_of_getElem? (i := 22) rfl)
theorem mw_473 : .code yX4_change cX4_change 5 none ∈ BW := mb_18 (List.mem_of_getElem? (i := 23) rfl)
theorem mw_474 : .code yX4_oath cX4_oath 3 none ∈ BW := mb_18 (List.mem_of_getElem? (i := 24) rfl)
theorem mw_475 : .code yX4_quarrelsThat cX4_quarrelsThat 4 (some .int) ∈ BW := mb_19 (List.mem_of_getElem? (i := 0) rfl)
theorem mw_476 : .code yX4_size cX4_size 3 (some .int) ∈ BW := mb_19 (List.mem_of_getElem? (i := 1) rfl)
theorem mw_477 : .methodLink RX4 72 yX4_reason ∈ BW := mb_19 (List.mem_of_getElem? (i := 2) rfl)
theorem mw_478 : .instanceMethod yX4_reason ∈ BW := mb_19 (List.mem_of_getElem? (i := 3) rfl)
theorem mw_479 : .selects RX4 yX4_reason yX4_reason ∈ BW := mb_19 (List.mem_of_getElem? (i := 4) rfl)
theorem mw_480 : .code yX4_due cX4_due 3 (some .int) ∈ BW := mb_19 (List.mem_of_getElem? (i := 5) rfl)
theorem mw_481 : .code yX4_comes cX4_comes 4 (some .int) ∈ BW := mb_19 (List.mem_of_getElem? (i := 6) rfl)
theorem mw_482 : .code yX4_takes cX4_takes 4 (some .int) ∈ BW := mb_19 (List.mem_of_getElem? (i := 7) rfl)
theorem mw_483 : .methodLink RX4 75 yX4_isPerson ∈ BW := mb_19 (List.mem_of_getElem? (i := 8) rfl)
theorem mw_484 : .instanceMethod yX4_isPerson ∈ BW := mb_19 (List.mem_of_getElem? (i := 9) rfl)
theorem mw_485 : .selects RX4 yX4_isPerson yX4_isPerson ∈ BW := mb_19 (List.mem_of_getElem? (i := 10) rfl)
theorem mw_486 : .code yX4_turns cX4_turns 2 (some .int) ∈ BW := mb_19 (List.mem_of_getElem? (i := 11) rfl)
theorem mw_487 : .code yX4_offends cX4_offends 5 (some .int) ∈ BW := mb_19 (List.mem_of_getElem? (i := 12) rfl)
theorem mw_488 : .methodLink RX4 79 yX4_tell ∈ BW := mb_19 (List.mem_of_getElem? (i := 13) rfl)
theorem mw_489 : .instanceMethod yX4_tell ∈ BW := mb_19 (List.mem_of_getElem? (i := 14) rfl)
theorem mw_490 : .selects RX4 yX4_tell yX4_tell ∈ BW := mb_19 (List.mem_of_getElem? (i := 15) rfl)
theorem mw_491 : .methodLink RX4 83 yX4_isQuarrel ∈ BW := mb_19 (List.mem_of_getElem? (i := 16) rfl)
theorem mw_492 : .instanceMethod yX4_isQuarrel ∈ BW := mb_19 (List.mem_of_getElem? (i := 17) rfl)
theorem mw_493 : .selects RX4 yX4_isQuarrel yX4_isQuarrel ∈ BW := mb_19 (List.mem_of_getElem? (i := 18) rfl)
theorem mw_494 : .methodLink RX4 86 yX4_change ∈ BW := mb_19 (List.mem_of_getElem? (i := 19) rfl)
theorem mw_495 : .instanceMethod yX4_change ∈ BW := mb_19 (List.mem_of_getElem? (i := 20) rfl)
theorem mw_496 : .selects RX4 yX4_change yX4_change ∈ BW := mb_19 (List.mem_of_getElem? (i := 21) rfl)
theorem mw_497 : .methodLink RX4 90 yX4_quarrelsThat ∈ BW := mb_19 (List.mem_of_getElem? (i := 22) rfl)
theorem mw_498 : .instanceMethod yX4_quarrelsThat ∈ BW := mb_19 (List.mem_of_getElem? (i := 23) rfl)
theorem mw_499 : .selects RX4 yX4_quarrelsThat yX4_quarrelsThat ∈ BW := mb_19 (List.mem_of_getElem? (i := 24) rfl)
theorem mw_500 : .methodLink RX4 93 yX4_size ∈ BW := mb_20 (List.mem_of_getElem? (i := 0) rfl)
theorem mw_501 : .static yX4_size ∈ BW := mb_20 (List.mem_of_getElem? (i := 1) rfl)
theorem mw_502 : .code yX4_settles cX4_settles 4 (some .int) ∈ BW := mb_20 (List.mem_of_getElem? (i := 2) rfl)
theorem mw_503 : .methodLink RX4 96 yX4_winnerOf ∈ BW := mb_20 (List.mem_of_getElem? (i := 3) rfl)
theorem mw_504 : .instanceMethod yX4_winnerOf ∈ BW := mb_20 (List.mem_of_getElem? (i := 4) rfl)
theorem mw_505 : .selects RX4 yX4_winnerOf yX4_winnerOf ∈ BW := mb_20 (List.mem_of_getElem? (i := 5) rfl)
theorem mw_506 : .methodLink RX4 99 yX4_oath ∈ BW := mb_20 (List.mem_of_getElem? (i := 6) rfl)
theorem mw_507 : .instanceMethod yX4_oath ∈ BW := mb_20 (List.mem_of_getElem? (i := 7) rfl)
theorem mw_508 : .selects RX4 yX4_oath yX4_oath ∈ BW := mb_20 (List.mem_of_getElem? (i := 8) rfl)
theorem mw_509 : .code yX4_fights cX4_fights 5 (some .int) ∈ BW := mb_20 (List.mem_of_getElem? (i := 9) rfl)
theorem mw_510 : .code yX4_swears cX4_swears 2 (some .int) ∈ BW := mb_20 (List.mem_of_getElem? (i := 10) rfl)
theorem mw_511 : .methodLink RX4 103 yX4_due ∈ BW := mb_20 (List.mem_of_getElem? (i := 11) rfl)
theorem mw_512 : .instanceMethod yX4_due ∈ BW := mb_20 (List.mem_of_getElem? (i := 12) rfl)
theorem mw_513 : .selects RX4 yX4_due yX4_due ∈ BW := mb_20 (List.mem_of_getElem? (i := 13) rfl)
theorem mw_514 : .code yX4_passes cX4_passes 2 (some .int) ∈ BW := mb_20 (List.mem_of_getElem? (i := 14) rfl)
theorem mw_515 : .code yX4_set cX4_set 6 (some .int) ∈ BW := mb_20 (List.mem_of_getElem? (i := 15) rfl)
theorem mw_516 : .methodLink RX4 107 yX4_putAside ∈ BW := mb_20 (List.mem_of_getElem? (i := 16) rfl)
theorem mw_517 : .instanceMethod yX4_putAside ∈ BW := mb_20 (List.mem_of_getElem? (i := 17) rfl)
theorem mw_518 : .selects RX4 yX4_putAside yX4_putAside ∈ BW := mb_20 (List.mem_of_getElem? (i := 18) rfl)
theorem mw_519 : .methodLink RX4 110 yX4_end ∈ BW := mb_20 (List.mem_of_getElem? (i := 19) rfl)
theorem mw_520 : .instanceMethod yX4_end ∈ BW := mb_20 (List.mem_of_getElem? (i := 20) rfl)
theorem mw_521 : .selects RX4 yX4_end yX4_end ∈ BW := mb_20 (List.mem_of_getElem? (i := 21) rfl)
theorem mw_522 : .code yX4_person cX4_person 3 (some .int) ∈ BW := mb_20 (List.mem_of_getElem? (i := 22) rfl)
theorem mw_523 : .methodLink RX4 113 yX4_comes ∈ BW := mb_20 (List.mem_of_getElem? (i := 23) rfl)
theorem mw_524 : .instanceMethod yX4_comes ∈ BW := mb_20 (List.mem_of_getElem? (i := 24) rfl)
theorem mw_525 : .selects RX4 yX4_comes yX4_comes ∈ BW := mb_21 (List.mem_of_getElem? (i := 0) rfl)
theorem mw_526 : .methodLink RX4 116 yX4_takes ∈ BW := mb_21 (List.mem_of_getElem? (i := 1) rfl)
theorem mw_527 : .instanceMethod yX4_takes ∈ BW := mb_21 (List.mem_of_getElem? (i := 2) rfl)
theorem mw_528 : .selects RX4 yX4_takes yX4_takes ∈ BW := mb_21 (List.mem_of_getElem? (i := 3) rfl)
theorem mw_529 : .code yX4_second cX4_second 3 (some .int) ∈ BW := mb_21 (List.mem_of_getElem? (i := 4) rfl)
theorem mw_530 : .code yX4_allow cX4_allow 2 (some .int) ∈ BW := mb_21 (List.mem_of_getElem? (i := 5) rfl)
theorem mw_531 : .methodLink RX4 119 yX4_turns ∈ BW := mb_21 (List.mem_of_getElem? (i := 6) rfl)
theorem mw_532 : .instanceMethod yX4_turns ∈ BW := mb_21 (List.mem_of_getElem? (i := 7) rfl)
theorem mw_533 : .selects RX4 yX4_turns yX4_turns ∈ BW := mb_21 (List.mem_of_getElem? (i := 8) rfl)
theorem mw_534 : .methodLink RX4 122 yX4_offends ∈ BW := mb_21 (List.mem_of_getElem? (i := 9) rfl)
theorem mw_535 : .instanceMethod yX4_offends ∈ BW := mb_21 (List.mem_of_getElem? (i := 10) rfl)
theorem mw_536 : .selects RX4 yX4_offends yX4_offends ∈ BW := mb_21 (List.mem_of_getElem? (i := 11) rfl)
theorem mw_537 : .code yX4_insult cX4_insult 4 (some .int) ∈ BW := mb_21 (List.mem_of_getElem? (i := 12) rfl)
theorem mw_538 : .methodLink RX4 126 yX4_settles ∈ BW := mb_21 (List.mem_of_getElem? (i := 13) rfl)
theorem mw_539 : .instanceMethod yX4_settles ∈ BW := mb_21 (List.mem_of_getElem? (i := 14) rfl)
theorem mw_540 : .selects RX4 yX4_settles yX4_settles ∈ BW := mb_21 (List.mem_of_getElem? (i := 15) rfl)
theorem mw_541 : .code yX4_settle cX4_settle 3 (some .int) ∈ BW := mb_21 (List.mem_of_getElem? (i := 16) rfl)
theorem mw_542 : .methodLink RX4 129 yX4_fights ∈ BW := mb_21 (List.mem_of_getElem? (i := 17) rfl)
theorem mw_543 : .instanceMethod yX4_fights ∈ BW := mb_21 (List.mem_of_getElem? (i := 18) rfl)
theorem mw_544 : .selects RX4 yX4_fights yX4_fights ∈ BW := mb_21 (List.mem_of_getElem? (i := 19) rfl)
theorem mw_545 : .code yX4_fight cX4_fight 2 (some .int) ∈ BW := mb_21 (List.mem_of_getElem? (i := 20) rfl)
theorem mw_546 : .methodLink RX4 132 yX4_swears ∈ BW := mb_21 (List.mem_of_getElem? (i := 21) rfl)
theorem mw_547 : .instanceMethod yX4_swears ∈ BW := mb_21 (List.mem_of_getElem? (i := 22) rfl)
theorem mw_548 : .selects RX4 yX4_swears yX4_swears ∈ BW := mb_21 (List.mem_of_getElem? (i := 23) rfl)
theorem mw_549 : .code yX4_swear cX4_swear 2 (some .int) ∈ BW := mb_21 (List.mem_of_getElem? (i := 24) rfl)
theorem mw_550 : .methodLink RX4 135 yX4_passes ∈ BW := mb_22 (List.mem_of_getElem? (i := 0) rfl)
theorem mw_551 : .instanceMethod yX4_passes ∈ BW := mb_22 (List.mem_of_getElem? (i := 1) rfl)
theorem mw_552 : .selects RX4 yX4_passes yX4_passes ∈ BW := mb_22 (List.mem_of_getElem? (i := 2) rfl)
theorem mw_553 : .code yX4_pass cX4_pass 2 (some .int) ∈ BW := mb_22 (List.mem_of_getElem? (i := 3) rfl)
theorem mw_554 : .code yX4_parts cX4_parts 7 (some .int) ∈ BW := mb_22 (List.mem_of_getElem? (i := 4) rfl)
theorem mw_555 : .code yX4_secondOf cX4_secondOf 4 (some .int) ∈ BW := mb_22 (List.mem_of_getElem? (i := 5) rfl)
theorem mw_556 : .code yX4_oathLeft cX4_oathLeft 3 (some .int) ∈ BW := mb_22 (List.mem_of_getElem? (i := 6) rfl)
theorem mw_557 : .methodLink RX4 138 yX4_oathLeft ∈ BW := mb_22 (List.mem_of_getElem? (i := 7) rfl)
theorem mw_558 : .instanceMethod yX4_oathLeft ∈ BW := mb_22 (List.mem_of_getElem? (i := 8) rfl)
theorem mw_559 : .selects RX4 yX4_oathLeft yX4_oathLeft ∈ BW := mb_22 (List.mem_of_getElem? (i := 9) rfl)
theorem mw_560 : .methodLink RX4 141 yX4_parts ∈ BW := mb_22 (List.mem_of_getElem? (i := 10) rfl)
theorem mw_561 : .instanceMethod yX4_parts ∈ BW := mb_22 (List.mem_of_getElem? (i := 11) rfl)
theorem mw_562 : .selects RX4 yX4_parts yX4_parts ∈ BW := mb_22 (List.mem_of_getElem? (i := 12) rfl)
theorem mw_563 : .methodLink RX4 144 yX4_secondOf ∈ BW := mb_22 (List.mem_of_getElem? (i := 13) rfl)
theorem mw_564 : .instanceMethod yX4_secondOf ∈ BW := mb_22 (List.mem_of_getElem? (i := 14) rfl)
theorem mw_565 : .selects RX4 yX4_secondOf yX4_secondOf ∈ BW := mb_22 (List.mem_of_getElem? (i := 15) rfl)
theorem mw_566 : .code yX4_of cX4_of 3 (some .int) ∈ BW := mb_22 (List.mem_of_getElem? (i := 16) rfl)
theorem mw_567 : .code yX4_quarrel cX4_quarrel 3 (some .int) ∈ BW := mb_22 (List.mem_of_getElem? (i := 17) rfl)
theorem mw_568 : .code yX4_record cX4_record 3 (some .int) ∈ BW := mb_22 (List.mem_of_getElem? (i := 18) rfl)
theorem mw_569 : .code yX4_press cX4_press 2 (some .int) ∈ BW := mb_22 (List.mem_of_getElem? (i := 19) rfl)
theorem mw_570 : .code yX4_pressing cX4_pressing 6 (some .int) ∈ BW := mb_22 (List.mem_of_getElem? (i := 20) rfl)
theorem mw_571 : .methodLink RX4 147 yX4_press ∈ BW := mb_22 (List.mem_of_getElem? (i := 21) rfl)
theorem mw_572 : .instanceMethod yX4_press ∈ BW := mb_22 (List.mem_of_getElem? (i := 22) rfl)
theorem mw_573 : .selects RX4 yX4_press yX4_press ∈ BW := mb_22 (List.mem_of_getElem? (i := 23) rfl)
theorem mw_574 : .code yX4_insults cX4_insults 4 (some .int) ∈ BW := mb_22 (List.mem_of_getElem? (i := 24) rfl)
theorem mw_575 : .code yX4_sworn cX4_sworn 3 (some .int) ∈ BW := mb_23 (List.mem_of_getElem? (i := 0) rfl)
theorem mw_576 : .fieldLink RX4 153 "QuarrelWaysModel" "length" "I" ∈ BW := mb_23 (List.mem_of_getElem? (i := 1) rfl)
theorem mw_577 : .methodLink RX4 150 yX4_sworn ∈ BW := mb_23 (List.mem_of_getElem? (i := 2) rfl)
theorem mw_578 : .instanceMethod yX4_sworn ∈ BW := mb_23 (List.mem_of_getElem? (i := 3) rfl)
theorem mw_579 : .selects RX4 yX4_sworn yX4_sworn ∈ BW := mb_23 (List.mem_of_getElem? (i := 4) rfl)
theorem mw_580 : .code yX4_count cX4_count 2 (some .int) ∈ BW := mb_23 (List.mem_of_getElem? (i := 5) rfl)
theorem mw_581 : .code yX4_why cX4_why 2 (some .int) ∈ BW := mb_23 (List.mem_of_getElem? (i := 6) rfl)
theorem mw_582 : .code yX4_firstWay cX4_firstWay 3 (some .int) ∈ BW := mb_23 (List.mem_of_getElem? (i := 7) rfl)
theorem mw_583 : .code yX4_opensIn cX4_opensIn 3 (some .int) ∈ BW := mb_23 (List.mem_of_getElem? (i := 8) rfl)
theorem mw_584 : .code yX4_dueIn cX4_dueIn 3 (some .int) ∈ BW := mb_23 (List.mem_of_getElem? (i := 9) rfl)
theorem mw_585 : .code yX4_ifInsulted cX4_ifInsulted 4 (some .int) ∈ BW := mb_23 (List.mem_of_getElem? (i := 10) rfl)
theorem mw_586 : .code yX4_ifFought cX4_ifFought 2 (some .int) ∈ BW := mb_23 (List.mem_of_getElem? (i := 11) rfl)
theorem mw_587 : .code yX4_code cX4_code 3 (some .int) ∈ BW := mb_23 (List.mem_of_getElem? (i := 12) rfl)
theorem mw_588 : .constantLong RX4 156 255 ∈ BW := mb_23 (List.mem_of_getElem? (i := 13) rfl)
theorem mw_589 : .code yX4_put cX4_put 5 (some .int) ∈ BW := mb_23 (List.mem_of_getElem? (i := 14) rfl)
theorem mw_590 : .methodLink RX4 158 yX4_code ∈ BW := mb_23 (List.mem_of_getElem? (i := 15) rfl)
theorem mw_591 : .static yX4_code ∈ BW := mb_23 (List.mem_of_getElem? (i := 16) rfl)
theorem mw_592 : .code yX4_wipe cX4_wipe 2 (some .int) ∈ BW := mb_23 (List.mem_of_getElem? (i := 17) rfl)
theorem mw_593 : .code yX4_sign cX4_sign 4 (some .int) ∈ BW := mb_23 (List.mem_of_getElem? (i := 18) rfl)
theorem mw_594 : .fieldLink RX4 162 "QuarrelWaysModel" "place" "I" ∈ BW := mb_23 (List.mem_of_getElem? (i := 19) rfl)
theorem mw_595 : .fieldLink RX4 165 "QuarrelWaysModel" "isWrong" "Z" ∈ BW := mb_23 (List.mem_of_getElem? (i := 20) rfl)
theorem mw_596 : .code yX4_digit cX4_digit 1 (some .int) ∈ BW := mb_23 (List.mem_of_getElem? (i := 21) rfl)
theorem mw_597 : .methodLink RX4 169 yX4_sign ∈ BW := mb_23 (List.mem_of_getElem? (i := 22) rfl)
theorem mw_598 : .instanceMethod yX4_sign ∈ BW := mb_23 (List.mem_of_getElem? (i := 23) rfl)
theorem mw_599 : .selects RX4 yX4_sign yX4_sign ∈ BW := mb_23 (List.mem_of_getElem? (i := 24) rfl)
theorem mw_600 : .code yX4_number cX4_number 2 (some .int) ∈ BW := mb_24 (List.mem_of_getElem? (i := 0) rfl)
theorem mw_601 : .methodLink RX4 172 yX4_digit ∈ BW := mb_24 (List.mem_of_getElem? (i := 1) rfl)
theorem mw_602 : .instanceMethod yX4_digit ∈ BW := mb_24 (List.mem_of_getElem? (i := 2) rfl)
theorem mw_603 : .selects RX4 yX4_digit yX4_digit ∈ BW := mb_24 (List.mem_of_getElem? (i := 3) rfl)
theorem mw_604 : .methodLink RX4 175 yX4_number ∈ BW := mb_24 (List.mem_of_getElem? (i := 4) rfl)
theorem mw_605 : .instanceMethod yX4_number ∈ BW := mb_24 (List.mem_of_getElem? (i := 5) rfl)
theorem mw_606 : .selects RX4 yX4_number yX4_number ∈ BW := mb_24 (List.mem_of_getElem? (i := 6) rfl)
theorem mw_607 : .code yX4_order cX4_order 8 (some .int) ∈ BW := mb_24 (List.mem_of_getElem? (i := 7) rfl)
theorem mw_608 : .methodLink RX4 178 yX4_order ∈ BW := mb_24 (List.mem_of_getElem? (i := 8) rfl)
theorem mw_609 : .instanceMethod yX4_order ∈ BW := mb_24 (List.mem_of_getElem? (i := 9) rfl)
theorem mw_610 : .selects RX4 yX4_order yX4_order ∈ BW := mb_24 (List.mem_of_getElem? (i := 10) rfl)
theorem mw_611 : .code yX4_go cX4_go 6 (some .int) ∈ BW := mb_24 (List.mem_of_getElem? (i := 11) rfl)
theorem mw_612 : .methodLink RX4 182 yX4_go ∈ BW := mb_24 (List.mem_of_getElem? (i := 12) rfl)
theorem mw_613 : .instanceMethod yX4_go ∈ BW := mb_24 (List.mem_of_getElem? (i := 13) rfl)
theorem mw_614 : .selects RX4 yX4_go yX4_go ∈ BW := mb_24 (List.mem_of_getElem? (i := 14) rfl)
theorem mw_615 : .code yX4_fault cX4_fault 2 (some .int) ∈ BW := mb_24 (List.mem_of_getElem? (i := 15) rfl)
theorem mw_616 : .code yX4_carryOut cX4_carryOut 3 (some .int) ∈ BW := mb_24 (List.mem_of_getElem? (i := 16) rfl)
theorem mw_617 : .code yX4_undo cX4_undo 2 (some .int) ∈ BW := mb_24 (List.mem_of_getElem? (i := 17) rfl)
theorem mw_618 : .code yX4_save cX4_save 3 (some .int) ∈ BW := mb_24 (List.mem_of_getElem? (i := 18) rfl)
theorem mw_619 : .code yX4_restore cX4_restore 3 (some .int) ∈ BW := mb_24 (List.mem_of_getElem? (i := 19) rfl)
theorem mw_620 : .code yJ9_max_7cf53 cJ9_max_7cf53 2 (some .int) ∈ BW := mb_24 (List.mem_of_getElem? (i := 20) rfl)
theorem mw_621 : .code yJ9_min_7cf53 cJ9_min_7cf53 2 (some .int) ∈ BW := mb_24 (List.mem_of_getElem? (i := 21) rfl)
theorem mw_622 : .classLink RL 7 RX3 ∈ BW := mb_24 (List.mem_of_getElem? (i := 22) rfl)
theorem mw_623 : .instantiable RX3 4 ∈ BW := mb_24 (List.mem_of_getElem? (i := 23) rfl)
theorem mw_624 : .classLink RL 10 RX4 ∈ BW := mb_24 (List.mem_of_getElem? (i := 24) rfl)
theorem mw_625 : .instantiable RX4 10 ∈ BW := mb_25 (List.mem_of_getElem? (i := 0) rfl)
theorem mw_626 : .constantLong RL 100 4294967295 ∈ BW := mb_25 (List.mem_of_getElem? (i := 1) rfl)
theorem mw_627 : .methodLink RL 9 yX3_init ∈ BW := mb_25 (List.mem_of_getElem? (i := 2) rfl)
theorem mw_628 : .instanceMethod yX3_init ∈ BW := mb_25 (List.mem_of_getElem? (i := 3) rfl)
theorem mw_629 : .methodLink RL 12 yX4_init ∈ BW := mb_25 (List.mem_of_getElem? (i := 4) rfl)
theorem mw_630 : .instanceMethod yX4_init ∈ BW := mb_25 (List.mem_of_getElem? (i := 5) rfl)
theorem mw_631 : .methodLink RL 13 yX3_set ∈ BW := mb_25 (List.mem_of_getElem? (i := 6) rfl)
theorem mw_632 : .instanceMethod yX3_set ∈ BW := mb_25 (List.mem_of_getElem? (i := 7) rfl)
theorem mw_633 : .selects RX3 yX3_set yX3_set ∈ BW := mb_25 (List.mem_of_getElem? (i := 8) rfl)
theorem mw_634 : .methodLink RL 17 yX4_set ∈ BW := mb_25 (List.mem_of_getElem? (i := 9) rfl)
theorem mw_635 : .instanceMethod yX4_set ∈ BW := mb_25 (List.mem_of_getElem? (i := 10) rfl)
theorem mw_636 : .selects RX4 yX4_set yX4_set ∈ BW := mb_25 (List.mem_of_getElem? (i := 11) rfl)
theorem mw_637 : .methodLink RL 18 yX3_person ∈ BW := mb_25 (List.mem_of_getElem? (i := 12) rfl)
theorem mw_638 : .instanceMethod yX3_person ∈ BW := mb_25 (List.mem_of_getElem? (i := 13) rfl)
theorem mw_639 : .selects RX3 yX3_person yX3_person ∈ BW := mb_25 (List.mem_of_getElem? (i := 14) rfl)
theorem mw_640 : .methodLink RL 21 yX4_person ∈ BW := mb_25 (List.mem_of_getElem? (i := 15) rfl)
theorem mw_641 : .instanceMethod yX4_person ∈ BW := mb_25 (List.mem_of_getElem? (i := 16) rfl)
theorem mw_642 : .selects RX4 yX4_person yX4_person ∈ BW := mb_25 (List.mem_of_getElem? (i := 17) rfl)
theorem mw_643 : .methodLink RL 22 yX3_second ∈ BW := mb_25 (List.mem_of_getElem? (i := 18) rfl)
theorem mw_644 : .instanceMethod yX3_second ∈ BW := mb_25 (List.mem_of_getElem? (i := 19) rfl)
theorem mw_645 : .selects RX3 yX3_second yX3_second ∈ BW := mb_25 (List.mem_of_getElem? (i := 20) rfl)
theorem mw_646 : .methodLink RL 25 yX4_second ∈ BW := mb_25 (List.mem_of_getElem? (i := 21) rfl)
theorem mw_647 : .instanceMethod yX4_second ∈ BW := mb_25 (List.mem_of_getElem? (i := 22) rfl)
theorem mw_648 : .selects RX4 yX4_second yX4_second ∈ BW := mb_25 (List.mem_of_getElem? (i := 23) rfl)
theorem mw_649 : .methodLink RL 26 yX3_allow ∈ BW := mb_25 (List.mem_of_getElem? (i := 24) rfl)
theorem mw_650 : .instanceMethod yX3_allow ∈ BW := mb_26 (List.mem_of_getElem? (i := 0) rfl)
theorem mw_651 : .selects RX3 yX3_allow yX3_allow ∈ BW := mb_26 (List.mem_of_getElem? (i := 1) rfl)
theorem mw_652 : .methodLink RL 30 yX4_allow ∈ BW := mb_26 (List.mem_of_getElem? (i := 2) rfl)
theorem mw_653 : .instanceMethod yX4_allow ∈ BW := mb_26 (List.mem_of_getElem? (i := 3) rfl)
theorem mw_654 : .selects RX4 yX4_allow yX4_allow ∈ BW := mb_26 (List.mem_of_getElem? (i := 4) rfl)
theorem mw_655 : .methodLink RL 31 yX3_insult ∈ BW := mb_26 (List.mem_of_getElem? (i := 5) rfl)
theorem mw_656 : .instanceMethod yX3_insult ∈ BW := mb_26 (List.mem_of_getElem? (i := 6) rfl)
theorem mw_657 : .selects RX3 yX3_insult yX3_insult ∈ BW := mb_26 (List.mem_of_getElem? (i := 7) rfl)
theorem mw_658 : .methodLink RL 35 yX4_insult ∈ BW := mb_26 (List.mem_of_getElem? (i := 8) rfl)
theorem mw_659 : .instanceMethod yX4_insult ∈ BW := mb_26 (List.mem_of_getElem? (i := 9) rfl)
theorem mw_660 : .selects RX4 yX4_insult yX4_insult ∈ BW := mb_26 (List.mem_of_getElem? (i := 10) rfl)
theorem mw_661 : .methodLink RL 36 yX3_settle ∈ BW := mb_26 (List.mem_of_getElem? (i := 11) rfl)
theorem mw_662 : .instanceMethod yX3_settle ∈ BW := mb_26 (List.mem_of_getElem? (i := 12) rfl)
theorem mw_663 : .selects RX3 yX3_settle yX3_settle ∈ BW := mb_26 (List.mem_of_getElem? (i := 13) rfl)
theorem mw_664 : .methodLink RL 39 yX4_settle ∈ BW := mb_26 (List.mem_of_getElem? (i := 14) rfl)
theorem mw_665 : .instanceMethod yX4_settle ∈ BW := mb_26 (List.mem_of_getElem? (i := 15) rfl)
theorem mw_666 : .selects RX4 yX4_settle yX4_settle ∈ BW := mb_26 (List.mem_of_getElem? (i := 16) rfl)
theorem mw_667 : .methodLink RL 40 yX3_fight ∈ BW := mb_26 (List.mem_of_getElem? (i := 17) rfl)
theorem mw_668 : .instanceMethod yX3_fight ∈ BW := mb_26 (List.mem_of_getElem? (i := 18) rfl)
theorem mw_669 : .selects RX3 yX3_fight yX3_fight ∈ BW := mb_26 (List.mem_of_getElem? (i := 19) rfl)
theorem mw_670 : .methodLink RL 43 yX4_fight ∈ BW := mb_26 (List.mem_of_getElem? (i := 20) rfl)
theorem mw_671 : .instanceMethod yX4_fight ∈ BW := mb_26 (List.mem_of_getElem? (i := 21) rfl)
theorem mw_672 : .selects RX4 yX4_fight yX4_fight ∈ BW := mb_26 (List.mem_of_getElem? (i := 22) rfl)
theorem mw_673 : .methodLink RL 44 yX3_swear ∈ BW := mb_26 (List.mem_of_getElem? (i := 23) rfl)
theorem mw_674 : .instanceMethod yX3_swear ∈ BW := mb_26 (List.mem_of_getElem? (i := 24) rfl)
theorem mw_675 : .selects RX3 yX3_swear yX3_swear ∈ BW := mb_27 (List.mem_of_getElem? (i := 0) rfl)
theorem mw_676 : .methodLink RL 47 yX4_swear ∈ BW := mb_27 (List.mem_of_getElem? (i := 1) rfl)
theorem mw_677 : .instanceMethod yX4_swear ∈ BW := mb_27 (List.mem_of_getElem? (i := 2) rfl)
theorem mw_678 : .selects RX4 yX4_swear yX4_swear ∈ BW := mb_27 (List.mem_of_getElem? (i := 3) rfl)
theorem mw_679 : .methodLink RL 48 yX3_pass ∈ BW := mb_27 (List.mem_of_getElem? (i := 4) rfl)
theorem mw_680 : .instanceMethod yX3_pass ∈ BW := mb_27 (List.mem_of_getElem? (i := 5) rfl)
theorem mw_681 : .selects RX3 yX3_pass yX3_pass ∈ BW := mb_27 (List.mem_of_getElem? (i := 6) rfl)
theorem mw_682 : .methodLink RL 51 yX4_pass ∈ BW := mb_27 (List.mem_of_getElem? (i := 7) rfl)
theorem mw_683 : .instanceMethod yX4_pass ∈ BW := mb_27 (List.mem_of_getElem? (i := 8) rfl)
theorem mw_684 : .selects RX4 yX4_pass yX4_pass ∈ BW := mb_27 (List.mem_of_getElem? (i := 9) rfl)
theorem mw_685 : .methodLink RL 52 yX3_of ∈ BW := mb_27 (List.mem_of_getElem? (i := 10) rfl)
theorem mw_686 : .instanceMethod yX3_of ∈ BW := mb_27 (List.mem_of_getElem? (i := 11) rfl)
theorem mw_687 : .selects RX3 yX3_of yX3_of ∈ BW := mb_27 (List.mem_of_getElem? (i := 12) rfl)
theorem mw_688 : .methodLink RL 55 yX4_of ∈ BW := mb_27 (List.mem_of_getElem? (i := 13) rfl)
theorem mw_689 : .instanceMethod yX4_of ∈ BW := mb_27 (List.mem_of_getElem? (i := 14) rfl)
theorem mw_690 : .selects RX4 yX4_of yX4_of ∈ BW := mb_27 (List.mem_of_getElem? (i := 15) rfl)
theorem mw_691 : .methodLink RL 56 yX3_quarrel ∈ BW := mb_27 (List.mem_of_getElem? (i := 16) rfl)
theorem mw_692 : .instanceMethod yX3_quarrel ∈ BW := mb_27 (List.mem_of_getElem? (i := 17) rfl)
theorem mw_693 : .selects RX3 yX3_quarrel yX3_quarrel ∈ BW := mb_27 (List.mem_of_getElem? (i := 18) rfl)
theorem mw_694 : .methodLink RL 59 yX4_quarrel ∈ BW := mb_27 (List.mem_of_getElem? (i := 19) rfl)
theorem mw_695 : .instanceMethod yX4_quarrel ∈ BW := mb_27 (List.mem_of_getElem? (i := 20) rfl)
theorem mw_696 : .selects RX4 yX4_quarrel yX4_quarrel ∈ BW := mb_27 (List.mem_of_getElem? (i := 21) rfl)
theorem mw_697 : .methodLink RL 60 yX3_record ∈ BW := mb_27 (List.mem_of_getElem? (i := 22) rfl)
theorem mw_698 : .instanceMethod yX3_record ∈ BW := mb_27 (List.mem_of_getElem? (i := 23) rfl)
theorem mw_699 : .selects RX3 yX3_record yX3_record ∈ BW := mb_27 (List.mem_of_getElem? (i := 24) rfl)
theorem mw_700 : .methodLink RL 63 yX4_record ∈ BW := mb_28 (List.mem_of_getElem? (i := 0) rfl)
theorem mw_701 : .instanceMethod yX4_record ∈ BW := mb_28 (List.mem_of_getElem? (i := 1) rfl)
theorem mw_702 : .selects RX4 yX4_record yX4_record ∈ BW := mb_28 (List.mem_of_getElem? (i := 2) rfl)
theorem mw_703 : .methodLink RL 64 yX3_pressing ∈ BW := mb_28 (List.mem_of_getElem? (i := 3) rfl)
theorem mw_704 : .instanceMethod yX3_pressing ∈ BW := mb_28 (List.mem_of_getElem? (i := 4) rfl)
theorem mw_705 : .selects RX3 yX3_pressing yX3_pressing ∈ BW := mb_28 (List.mem_of_getElem? (i := 5) rfl)
theorem mw_706 : .methodLink RL 67 yX4_pressing ∈ BW := mb_28 (List.mem_of_getElem? (i := 6) rfl)
theorem mw_707 : .instanceMethod yX4_pressing ∈ BW := mb_28 (List.mem_of_getElem? (i := 7) rfl)
theorem mw_708 : .selects RX4 yX4_pressing yX4_pressing ∈ BW := mb_28 (List.mem_of_getElem? (i := 8) rfl)
theorem mw_709 : .methodLink RL 68 yX3_insults ∈ BW := mb_28 (List.mem_of_getElem? (i := 9) rfl)
theorem mw_710 : .instanceMethod yX3_insults ∈ BW := mb_28 (List.mem_of_getElem? (i := 10) rfl)
theorem mw_711 : .selects RX3 yX3_insults yX3_insults ∈ BW := mb_28 (List.mem_of_getElem? (i := 11) rfl)
theorem mw_712 : .methodLink RL 71 yX4_insults ∈ BW := mb_28 (List.mem_of_getElem? (i := 12) rfl)
theorem mw_713 : .instanceMethod yX4_insults ∈ BW := mb_28 (List.mem_of_getElem? (i := 13) rfl)
theorem mw_714 : .selects RX4 yX4_insults yX4_insults ∈ BW := mb_28 (List.mem_of_getElem? (i := 14) rfl)
theorem mw_715 : .methodLink RL 72 yX3_count ∈ BW := mb_28 (List.mem_of_getElem? (i := 15) rfl)
theorem mw_716 : .instanceMethod yX3_count ∈ BW := mb_28 (List.mem_of_getElem? (i := 16) rfl)
theorem mw_717 : .selects RX3 yX3_count yX3_count ∈ BW := mb_28 (List.mem_of_getElem? (i := 17) rfl)
theorem mw_718 : .methodLink RL 75 yX4_count ∈ BW := mb_28 (List.mem_of_getElem? (i := 18) rfl)
theorem mw_719 : .instanceMethod yX4_count ∈ BW := mb_28 (List.mem_of_getElem? (i := 19) rfl)
theorem mw_720 : .selects RX4 yX4_count yX4_count ∈ BW := mb_28 (List.mem_of_getElem? (i := 20) rfl)
theorem mw_721 : .methodLink RL 76 yX3_why ∈ BW := mb_28 (List.mem_of_getElem? (i := 21) rfl)
theorem mw_722 : .instanceMethod yX3_why ∈ BW := mb_28 (List.mem_of_getElem? (i := 22) rfl)
theorem mw_723 : .selects RX3 yX3_why yX3_why ∈ BW := mb_28 (List.mem_of_getElem? (i := 23) rfl)
theorem mw_724 : .methodLink RL 79 yX4_why ∈ BW := mb_28 (List.mem_of_getElem? (i := 24) rfl)
theorem mw_725 : .instanceMethod yX4_why ∈ BW := mb_29 (List.mem_of_getElem? (i := 0) rfl)
theorem mw_726 : .selects RX4 yX4_why yX4_why ∈ BW := mb_29 (List.mem_of_getElem? (i := 1) rfl)
theorem mw_727 : .methodLink RL 80 yX3_firstWay ∈ BW := mb_29 (List.mem_of_getElem? (i := 2) rfl)
theorem mw_728 : .instanceMethod yX3_firstWay ∈ BW := mb_29 (List.mem_of_getElem? (i := 3) rfl)
theorem mw_729 : .selects RX3 yX3_firstWay yX3_firstWay ∈ BW := mb_29 (List.mem_of_getElem? (i := 4) rfl)
theorem mw_730 : .methodLink RL 83 yX4_firstWay ∈ BW := mb_29 (List.mem_of_getElem? (i := 5) rfl)
theorem mw_731 : .instanceMethod yX4_firstWay ∈ BW := mb_29 (List.mem_of_getElem? (i := 6) rfl)
theorem mw_732 : .selects RX4 yX4_firstWay yX4_firstWay ∈ BW := mb_29 (List.mem_of_getElem? (i := 7) rfl)
theorem mw_733 : .methodLink RL 84 yX3_opensIn ∈ BW := mb_29 (List.mem_of_getElem? (i := 8) rfl)
theorem mw_734 : .instanceMethod yX3_opensIn ∈ BW := mb_29 (List.mem_of_getElem? (i := 9) rfl)
theorem mw_735 : .selects RX3 yX3_opensIn yX3_opensIn ∈ BW := mb_29 (List.mem_of_getElem? (i := 10) rfl)
theorem mw_736 : .methodLink RL 87 yX4_opensIn ∈ BW := mb_29 (List.mem_of_getElem? (i := 11) rfl)
theorem mw_737 : .instanceMethod yX4_opensIn ∈ BW := mb_29 (List.mem_of_getElem? (i := 12) rfl)
theorem mw_738 : .selects RX4 yX4_opensIn yX4_opensIn ∈ BW := mb_29 (List.mem_of_getElem? (i := 13) rfl)
theorem mw_739 : .methodLink RL 88 yX3_dueIn ∈ BW := mb_29 (List.mem_of_getElem? (i := 14) rfl)
theorem mw_740 : .instanceMethod yX3_dueIn ∈ BW := mb_29 (List.mem_of_getElem? (i := 15) rfl)
theorem mw_741 : .selects RX3 yX3_dueIn yX3_dueIn ∈ BW := mb_29 (List.mem_of_getElem? (i := 16) rfl)
theorem mw_742 : .methodLink RL 91 yX4_dueIn ∈ BW := mb_29 (List.mem_of_getElem? (i := 17) rfl)
theorem mw_743 : .instanceMethod yX4_dueIn ∈ BW := mb_29 (List.mem_of_getElem? (i := 18) rfl)
theorem mw_744 : .selects RX4 yX4_dueIn yX4_dueIn ∈ BW := mb_29 (List.mem_of_getElem? (i := 19) rfl)
theorem mw_745 : .methodLink RL 92 yX3_ifInsulted ∈ BW := mb_29 (List.mem_of_getElem? (i := 20) rfl)
theorem mw_746 : .instanceMethod yX3_ifInsulted ∈ BW := mb_29 (List.mem_of_getElem? (i := 21) rfl)
theorem mw_747 : .selects RX3 yX3_ifInsulted yX3_ifInsulted ∈ BW := mb_29 (List.mem_of_getElem? (i := 22) rfl)
theorem mw_748 : .methodLink RL 95 yX4_ifInsulted ∈ BW := mb_29 (List.mem_of_getElem? (i := 23) rfl)
theorem mw_749 : .instanceMethod yX4_ifInsulted ∈ BW := mb_29 (List.mem_of_getElem? (i := 24) rfl)
theorem mw_750 : .selects RX4 yX4_ifInsulted yX4_ifInsulted ∈ BW := mb_30 (List.mem_of_getElem? (i := 0) rfl)
theorem mw_751 : .methodLink RL 96 yX3_ifFought ∈ BW := mb_30 (List.mem_of_getElem? (i := 1) rfl)
theorem mw_752 : .instanceMethod yX3_ifFought ∈ BW := mb_30 (List.mem_of_getElem? (i := 2) rfl)
theorem mw_753 : .selects RX3 yX3_ifFought yX3_ifFought ∈ BW := mb_30 (List.mem_of_getElem? (i := 3) rfl)
theorem mw_754 : .methodLink RL 99 yX4_ifFought ∈ BW := mb_30 (List.mem_of_getElem? (i := 4) rfl)
theorem mw_755 : .instanceMethod yX4_ifFought ∈ BW := mb_30 (List.mem_of_getElem? (i := 5) rfl)
theorem mw_756 : .selects RX4 yX4_ifFought yX4_ifFought ∈ BW := mb_30 (List.mem_of_getElem? (i := 6) rfl)
theorem mw_757 : .methodLink RL 102 yX3_put ∈ BW := mb_30 (List.mem_of_getElem? (i := 7) rfl)
theorem mw_758 : .instanceMethod yX3_put ∈ BW := mb_30 (List.mem_of_getElem? (i := 8) rfl)
theorem mw_759 : .selects RX3 yX3_put yX3_put ∈ BW := mb_30 (List.mem_of_getElem? (i := 9) rfl)
theorem mw_760 : .methodLink RL 106 yX4_put ∈ BW := mb_30 (List.mem_of_getElem? (i := 10) rfl)
theorem mw_761 : .instanceMethod yX4_put ∈ BW := mb_30 (List.mem_of_getElem? (i := 11) rfl)
theorem mw_762 : .selects RX4 yX4_put yX4_put ∈ BW := mb_30 (List.mem_of_getElem? (i := 12) rfl)
theorem mw_763 : .methodLink RL 107 yX3_wipe ∈ BW := mb_30 (List.mem_of_getElem? (i := 13) rfl)
theorem mw_764 : .instanceMethod yX3_wipe ∈ BW := mb_30 (List.mem_of_getElem? (i := 14) rfl)
theorem mw_765 : .selects RX3 yX3_wipe yX3_wipe ∈ BW := mb_30 (List.mem_of_getElem? (i := 15) rfl)
theorem mw_766 : .methodLink RL 111 yX4_wipe ∈ BW := mb_30 (List.mem_of_getElem? (i := 16) rfl)
theorem mw_767 : .instanceMethod yX4_wipe ∈ BW := mb_30 (List.mem_of_getElem? (i := 17) rfl)
theorem mw_768 : .selects RX4 yX4_wipe yX4_wipe ∈ BW := mb_30 (List.mem_of_getElem? (i := 18) rfl)
theorem mw_769 : .methodLink RL 112 yX3_fault ∈ BW := mb_30 (List.mem_of_getElem? (i := 19) rfl)
theorem mw_770 : .instanceMethod yX3_fault ∈ BW := mb_30 (List.mem_of_getElem? (i := 20) rfl)
theorem mw_771 : .selects RX3 yX3_fault yX3_fault ∈ BW := mb_30 (List.mem_of_getElem? (i := 21) rfl)
theorem mw_772 : .methodLink RL 115 yX4_fault ∈ BW := mb_30 (List.mem_of_getElem? (i := 22) rfl)
theorem mw_773 : .instanceMethod yX4_fault ∈ BW := mb_30 (List.mem_of_getElem? (i := 23) rfl)
theorem mw_774 : .selects RX4 yX4_fault yX4_fault ∈ BW := mb_30 (List.mem_of_getElem? (i := 24) rfl)
theorem mw_775 : .methodLink RL 116 yX3_carryOut ∈ BW := mb_31 (List.mem_of_getElem? (i := 0) rfl)
theorem mw_776 : .instanceMethod yX3_carryOut ∈ BW := mb_31 (List.mem_of_getElem? (i := 1) rfl)
theorem mw_777 : .selects RX3 yX3_carryOut yX3_carryOut ∈ BW := mb_31 (List.mem_of_getElem? (i := 2) rfl)
theorem mw_778 : .methodLink RL 119 yX4_carryOut ∈ BW := mb_31 (List.mem_of_getElem? (i := 3) rfl)
theorem mw_779 : .instanceMethod yX4_carryOut ∈ BW := mb_31 (List.mem_of_getElem? (i := 4) rfl)
theorem mw_780 : .selects RX4 yX4_carryOut yX4_carryOut ∈ BW := mb_31 (List.mem_of_getElem? (i := 5) rfl)
theorem mw_781 : .methodLink RL 120 yX3_undo ∈ BW := mb_31 (List.mem_of_getElem? (i := 6) rfl)
theorem mw_782 : .instanceMethod yX3_undo ∈ BW := mb_31 (List.mem_of_getElem? (i := 7) rfl)
theorem mw_783 : .selects RX3 yX3_undo yX3_undo ∈ BW := mb_31 (List.mem_of_getElem? (i := 8) rfl)
theorem mw_784 : .methodLink RL 123 yX4_undo ∈ BW := mb_31 (List.mem_of_getElem? (i := 9) rfl)
theorem mw_785 : .instanceMethod yX4_undo ∈ BW := mb_31 (List.mem_of_getElem? (i := 10) rfl)
theorem mw_786 : .selects RX4 yX4_undo yX4_undo ∈ BW := mb_31 (List.mem_of_getElem? (i := 11) rfl)
theorem mw_787 : .methodLink RL 124 yX3_save ∈ BW := mb_31 (List.mem_of_getElem? (i := 12) rfl)
theorem mw_788 : .instanceMethod yX3_save ∈ BW := mb_31 (List.mem_of_getElem? (i := 13) rfl)
theorem mw_789 : .selects RX3 yX3_save yX3_save ∈ BW := mb_31 (List.mem_of_getElem? (i := 14) rfl)
theorem mw_790 : .methodLink RL 127 yX4_save ∈ BW := mb_31 (List.mem_of_getElem? (i := 15) rfl)
theorem mw_791 : .instanceMethod yX4_save ∈ BW := mb_31 (List.mem_of_getElem? (i := 16) rfl)
theorem mw_792 : .selects RX4 yX4_save yX4_save ∈ BW := mb_31 (List.mem_of_getElem? (i := 17) rfl)
theorem mw_793 : .methodLink RL 128 yX3_restore ∈ BW := mb_31 (List.mem_of_getElem? (i := 18) rfl)
theorem mw_794 : .instanceMethod yX3_restore ∈ BW := mb_31 (List.mem_of_getElem? (i := 19) rfl)
theorem mw_795 : .selects RX3 yX3_restore yX3_restore ∈ BW := mb_31 (List.mem_of_getElem? (i := 20) rfl)
theorem mw_796 : .methodLink RL 131 yX4_restore ∈ BW := mb_31 (List.mem_of_getElem? (i := 21) rfl)
theorem mw_797 : .instanceMethod yX4_restore ∈ BW := mb_31 (List.mem_of_getElem? (i := 22) rfl)
theorem mw_798 : .selects RX4 yX4_restore yX4_restore ∈ BW := mb_31 (List.mem_of_getElem? (i := 23) rfl)
theorem bi_0 : ∀ w ∈ B0, w ∈ lw_tbl := List.forall_mem_cons.mpr ⟨(List.mem_append_right _ (List.mem_append_left _ (List.mem_of_getElem? (i := 30) rfl))), List.forall_mem_cons.mpr ⟨(List.mem_append_right _ (List.mem_append_left _ (List.mem_of_getElem? (i := 37) rfl))), List.forall_mem_cons.mpr ⟨(List.mem_append_right _ (List.mem_append_left _ (List.mem_of_getElem? (i := 25) rfl))), List.forall_mem_cons.mpr ⟨(List.mem_append_right _ (List.mem_append_left _ (List.mem_of_getElem? (i := 26) rfl))), List.forall_mem_cons.mpr ⟨(List.mem_append_right _ (List.mem_append_left _ (List.mem_of_getElem? (i := 19) rfl))), List.forall_mem_cons.mpr ⟨(List.mem_append_right _ (List.mem_append_left _ (List.mem_of_getElem? (i := 20) rfl))), List.forall_mem_cons.mpr ⟨(List.mem_append_right _ (List.mem_append_left _ (List.mem_of_getElem? (i := 31) rfl))), List.forall_mem_cons.mpr ⟨(List.mem_append_right _ (List.mem_append_left _ (List.mem_of_getElem? (i := 32) rfl))), List.forall_mem_cons.mpr ⟨(List.mem_append_right _ (List.mem_append_left _ (List.mem_of_getElem? (i := 33) rfl))), List.forall_mem_cons.mpr ⟨(List.mem_append_right _ (List.mem_append_left _ (List.mem_of_getElem? (i := 34) rfl))), List.forall_mem_cons.mpr ⟨(List.mem_append_right _ (List.mem_append_left _ (List.mem_of_getElem? (i := 36) rfl))), List.forall_mem_cons.mpr ⟨(List.mem_append_right _ (List.mem_append_left _ (List.mem_of_getElem? (i := 51) rfl))), List.forall_mem_cons.mpr ⟨(List.mem_append_right _ (List.mem_append_left _ (List.mem_of_getElem? (i := 27) rfl))), List.forall_mem_cons.mpr ⟨(List.mem_append_right _ (List.mem_append_left _ (List.mem_of_getElem? (i := 29) rfl))), List.forall_mem_cons.mpr ⟨(List.mem_append_left _ (List.mem_of_getElem? (i := 0) rfl)), List.forall_mem_cons.mpr ⟨(List.mem_append_right _ (List.mem_append_left _ (List.mem_of_getElem? (i := 2) rfl))), List.forall_mem_cons.mpr ⟨(List.mem_append_right _ (List.mem_append_left _ (List.mem_of_getElem? (i := 56) rfl))), List.forall_mem_cons.mpr ⟨(List.mem_append_right _ (List.mem_append_left _ (List.mem_of_getElem? (i := 57) rfl))), List.forall_mem_cons.mpr ⟨(List.mem_append_right _ (List.mem_append_left _ (List.mem_of_getElem? (i := 58) rfl))), List.forall_mem_cons.mpr ⟨(List.mem_append_right _ (List.mem_append_left _ (List.mem_of_getElem? (i := 61) rfl))), List.forall_mem_cons.mpr ⟨(List.mem_append_right _ (List.mem_append_left _ (List.mem_of_getElem? (i := 62) rfl))), List.forall_mem_cons.mpr ⟨(List.mem_append_right _ (List.mem_append_left _ (List.mem_of_getElem? (i := 63) rfl))), List.forall_mem_cons.mpr ⟨(List.mem_append_right _ (List.mem_append_left _ (List.mem_of_getElem? (i := 22) rfl))), List.forall_mem_cons.mpr ⟨(List.mem_append_right _ (List.mem_append_left _ (List.mem_of_getElem? (i := 24) rfl))), List.forall_mem_cons.mpr ⟨(List.mem_append_right _ (List.mem_append_left _ (List.mem_of_getElem? (i := 131) rfl))), fun _ h => absurd h List.not_mem_nil⟩⟩⟩⟩⟩⟩⟩⟩⟩⟩⟩⟩⟩⟩⟩⟩⟩⟩⟩⟩⟩⟩⟩⟩⟩
theorem bg_0 : B0.all goodWord = true := by decide +kernel
theorem bi_1 : ∀ w ∈ B1, w ∈ lw_tbl := List.forall_mem_cons.mpr ⟨(List.mem_append_right _ (List.mem_append_left _ (List.mem_of_getElem? (i := 128) rfl))), List.forall_mem_cons.mpr ⟨(List.mem_append_right _ (List.mem_append_left _ (List.mem_of_getElem? (i := 129) rfl))), List.forall_mem_cons.mpr ⟨(List.mem_append_right _ (List.mem_append_left _ (List.mem_of_getElem? (i := 130) rfl))), List.forall_mem_cons.mpr ⟨(List.mem_append_right _ (List.mem_append_left _ (List.mem_of_getElem? (i := 6) rfl))), List.forall_mem_cons.mpr ⟨(List.mem_append_right _ (List.mem_append_left _ (List.mem_of_getElem? (i := 124) rfl))), List.forall_mem_cons.mpr ⟨(List.mem_append_right _ (List.mem_append_left _ (List.mem_of_getElem? (i := 125) rfl))), List.forall_mem_cons.mpr ⟨(List.mem_append_right _ (List.mem_append_left _ (List.mem_of_getElem? (i := 127) rfl))), List.forall_mem_cons.mpr ⟨(List.mem_append_left _ (List.mem_of_getElem? (i := 3) rfl)), List.forall_mem_cons.mpr ⟨(List.mem_append_right _ (List.mem_append_left _ (List.mem_of_getElem? (i := 3) rfl))), List.forall_mem_cons.mpr ⟨(List.mem_append_right _ (List.mem_append_left _ (List.mem_of_getElem? (i := 135) rfl))), List.forall_mem_cons.mpr ⟨(List.mem_append_right _ (List.mem_append_left _ (List.mem_of_getElem? (i := 136) rfl))), List.forall_mem_cons.mpr ⟨(List.mem_append_right _ (List.mem_append_left _ (List.mem_of_getElem? (i := 137) rfl))), List.forall_mem_cons.mpr ⟨(List.mem_append_right _ (List.mem_append_left _ (List.mem_of_getElem? (i := 138) rfl))), List.forall_mem_cons.mpr ⟨(List.mem_append_right _ (List.mem_append_left _ (List.mem_of_getElem? (i := 139) rfl))), List.forall_mem_cons.mpr ⟨(List.mem_append_right _ (List.mem_append_left _ (List.mem_of_getElem? (i := 141) rfl))), List.forall_mem_cons.mpr ⟨(List.mem_append_right _ (List.mem_append_left _ (List.mem_of_getElem? (i := 140) rfl))), List.forall_mem_cons.mpr ⟨(List.mem_append_right _ (List.mem_append_left _ (List.mem_of_getElem? (i := 7) rfl))), List.forall_mem_cons.mpr ⟨(List.mem_append_right _ (List.mem_append_left _ (List.mem_of_getElem? (i := 121) rfl))), List.forall_mem_cons.mpr ⟨(List.mem_append_right _ (List.mem_append_left _ (List.mem_of_getElem? (i := 123) rfl))), List.forall_mem_cons.mpr ⟨(List.mem_append_left _ (List.mem_of_getElem? (i := 2) rfl)), List.forall_mem_cons.mpr ⟨(List.mem_append_right _ (List.mem_append_left _ (List.mem_of_getElem? (i := 134) rfl))), List.forall_mem_cons.mpr ⟨(List.mem_append_left _ (List.mem_of_getElem? (i := 4) rfl)), List.forall_mem_cons.mpr ⟨(List.mem_append_right _ (List.mem_append_left _ (List.mem_of_getElem? (i := 120) rfl))), List.forall_mem_cons.mpr ⟨(List.mem_append_right _ (List.mem_append_left _ (List.mem_of_getElem? (i := 160) rfl))), List.forall_mem_cons.mpr ⟨(List.mem_append_right _ (List.mem_append_left _ (List.mem_of_getElem? (i := 157) rfl))), fun _ h => absurd h List.not_mem_nil⟩⟩⟩⟩⟩⟩⟩⟩⟩⟩⟩⟩⟩⟩⟩⟩⟩⟩⟩⟩⟩⟩⟩⟩⟩
theorem bg_1 : B1.all goodWord = true := by decide +kernel
theorem bi_2 : ∀ w ∈ B2, w ∈ lw_tbl := List.forall_mem_cons.mpr ⟨(List.mem_append_right _ (List.mem_append_left _ (List.mem_of_getElem? (i := 159) rfl))), List.forall_mem_cons.mpr ⟨(List.mem_append_right _ (List.mem_append_left _ (List.mem_of_getElem? (i := 1) rfl))), List.forall_mem_cons.mpr ⟨(List.mem_append_right _ (List.mem_append_right _ (List.mem_append_right _ (List.mem_append_left _ (List.mem_of_getElem? (i := 111) rfl))))), List.forall_mem_cons.mpr ⟨(List.mem_append_right _ (List.mem_append_left _ (List.mem_of_getElem? (i := 76) rfl))), List.forall_mem_cons.mpr ⟨(List.mem_append_right _ (List.mem_append_left _ (List.mem_of_getElem? (i := 77) rfl))), List.forall_mem_cons.mpr ⟨(List.mem_append_right _ (List.mem_append_left _ (List.mem_of_getElem? (i := 78) rfl))), List.forall_mem_cons.mpr ⟨(List.mem_append_right _ (List.mem_append_left _ (List.mem_of_getElem? (i := 79) rfl))), List.forall_mem_cons.mpr ⟨(List.mem_append_right _ (List.mem_append_left _ (List.mem_of_getElem? (i := 81) rfl))), List.forall_mem_cons.mpr ⟨(List.mem_append_right _ (List.mem_append_left _ (List.mem_of_getElem? (i := 83) rfl))), List.forall_mem_cons.mpr ⟨(List.mem_append_right _ (List.mem_append_left _ (List.mem_of_getElem? (i := 85) rfl))), List.forall_mem_cons.mpr ⟨(List.mem_append_right _ (List.mem_append_left _ (List.mem_of_getElem? (i := 86) rfl))), List.forall_mem_cons.mpr ⟨(List.mem_append_right _ (List.mem_append_right _ (List.mem_append_left _ (List.mem_of_getElem? (i := 217) rfl)))), List.forall_mem_cons.mpr ⟨(List.mem_append_right _ (List.mem_append_right _ (List.mem_append_left _ (List.mem_of_getElem? (i := 218) rfl)))), List.forall_mem_cons.mpr ⟨(List.mem_append_right _ (List.mem_append_right _ (List.mem_append_left _ (List.mem_of_getElem? (i := 219) rfl)))), List.forall_mem_cons.mpr ⟨(List.mem_append_right _ (List.mem_append_right _ (List.mem_append_left _ (List.mem_of_getElem? (i := 220) rfl)))), List.forall_mem_cons.mpr ⟨(List.mem_append_right _ (List.mem_append_right _ (List.mem_append_left _ (List.mem_of_getElem? (i := 228) rfl)))), List.forall_mem_cons.mpr ⟨(List.mem_append_right _ (List.mem_append_right _ (List.mem_append_left _ (List.mem_of_getElem? (i := 224) rfl)))), List.forall_mem_cons.mpr ⟨(List.mem_append_right _ (List.mem_append_right _ (List.mem_append_left _ (List.mem_of_getElem? (i := 225) rfl)))), List.forall_mem_cons.mpr ⟨(List.mem_append_right _ (List.mem_append_right _ (List.mem_append_left _ (List.mem_of_getElem? (i := 227) rfl)))), List.forall_mem_cons.mpr ⟨(List.mem_append_left _ (List.mem_of_getElem? (i := 53) rfl)), List.forall_mem_cons.mpr ⟨(List.mem_append_right _ (List.mem_append_left _ (List.mem_of_getElem? (i := 4) rfl))), List.forall_mem_cons.mpr ⟨(List.mem_append_right _ (List.mem_append_right _ (List.mem_append_right _ (List.mem_append_left _ (List.mem_of_getElem? (i := 8) rfl))))), List.forall_mem_cons.mpr ⟨(List.mem_append_right _ (List.mem_append_right _ (List.mem_append_right _ (List.mem_append_left _ (List.mem_of_getElem? (i := 99) rfl))))), List.forall_mem_cons.mpr ⟨(List.mem_append_right _ (List.mem_append_right _ (List.mem_append_right _ (List.mem_append_left _ (List.mem_of_getElem? (i := 11) rfl))))), List.forall_mem_cons.mpr ⟨(List.mem_append_right _ (List.mem_append_right _ (List.mem_append_right _ (List.mem_append_left _ (List.mem_of_getElem? (i := 22) rfl))))), fun _ h => absurd h List.not_mem_nil⟩⟩⟩⟩⟩⟩⟩⟩⟩⟩⟩⟩⟩⟩⟩⟩⟩⟩⟩⟩⟩⟩⟩⟩⟩
theorem bg_2 : B2.all goodWord = true := by decide +kernel
theorem bi_3 : ∀ w ∈ B3, w ∈ lw_tbl := List.forall_mem_cons.mpr ⟨(List.mem_append_right _ (List.mem_append_right _ (List.mem_append_right _ (List.mem_append_right _ (List.mem_of_getElem? (i := 202) rfl))))), List.forall_mem_cons.mpr ⟨(List.mem_append_right _ (List.mem_append_right _ (List.mem_append_right _ (List.mem_append_left _ (List.mem_of_getElem? (i := 30) rfl))))), List.forall_mem_cons.mpr ⟨(List.mem_append_right _ (List.mem_append_right _ (List.mem_append_right _ (List.mem_append_left _ (List.mem_of_getElem? (i := 31) rfl))))), List.forall_mem_cons.mpr ⟨(List.mem_append_right _ (List.mem_append_right _ (List.mem_append_right _ (List.mem_append_right _ (List.mem_of_getElem? (i := 203) rfl))))), List.forall_mem_cons.mpr ⟨(List.mem_append_right _ (List.mem_append_right _ (List.mem_append_right _ (List.mem_append_left _ (List.mem_of_getElem? (i := 26) rfl))))), List.forall_mem_cons.mpr ⟨(List.mem_append_right _ (List.mem_append_right _ (List.mem_append_right _ (List.mem_append_left _ (List.mem_of_getElem? (i := 27) rfl))))), List.forall_mem_cons.mpr ⟨(List.mem_append_right _ (List.mem_append_right _ (List.mem_append_right _ (List.mem_append_left _ (List.mem_of_getElem? (i := 28) rfl))))), List.forall_mem_cons.mpr ⟨(List.mem_append_right _ (List.mem_append_right _ (List.mem_append_right _ (List.mem_append_left _ (List.mem_of_getElem? (i := 29) rfl))))), List.forall_mem_cons.mpr ⟨(List.mem_append_right _ (List.mem_append_left _ (List.mem_of_getElem? (i := 9) rfl))), List.forall_mem_cons.mpr ⟨(List.mem_append_right _ (List.mem_append_right _ (List.mem_append_right _ (List.mem_append_left _ (List.mem_of_getElem? (i := 40) rfl))))), List.forall_mem_cons.mpr ⟨(List.mem_append_right _ (List.mem_append_right _ (List.mem_append_right _ (List.mem_append_left _ (List.mem_of_getElem? (i := 51) rfl))))), List.forall_mem_cons.mpr ⟨(List.mem_append_right _ (List.mem_append_right _ (List.mem_append_right _ (List.mem_append_left _ (List.mem_of_getElem? (i := 46) rfl))))), List.forall_mem_cons.mpr ⟨(List.mem_append_right _ (List.mem_append_right _ (List.mem_append_right _ (List.mem_append_left _ (List.mem_of_getElem? (i := 47) rfl))))), List.forall_mem_cons.mpr ⟨(List.mem_append_right _ (List.mem_append_right _ (List.mem_append_right _ (List.mem_append_left _ (List.mem_of_getElem? (i := 49) rfl))))), List.forall_mem_cons.mpr ⟨(List.mem_append_right _ (List.mem_append_right _ (List.mem_append_right _ (List.mem_append_left _ (List.mem_of_getElem? (i := 50) rfl))))), List.forall_mem_cons.mpr ⟨(List.mem_append_right _ (List.mem_append_left _ (List.mem_of_getElem? (i := 11) rfl))), List.forall_mem_cons.mpr ⟨(List.mem_append_right _ (List.mem_append_right _ (List.mem_append_right _ (List.mem_append_left _ (List.mem_of_getElem? (i := 43) rfl))))), List.forall_mem_cons.mpr ⟨(List.mem_append_right _ (List.mem_append_right _ (List.mem_append_right _ (List.mem_append_left _ (List.mem_of_getElem? (i := 44) rfl))))), List.forall_mem_cons.mpr ⟨(List.mem_append_right _ (List.mem_append_right _ (List.mem_append_right _ (List.mem_append_left _ (List.mem_of_getElem? (i := 45) rfl))))), List.forall_mem_cons.mpr ⟨(List.mem_append_right _ (List.mem_append_right _ (List.mem_append_right _ (List.mem_append_left _ (List.mem_of_getElem? (i := 60) rfl))))), List.forall_mem_cons.mpr ⟨(List.mem_append_right _ (List.mem_append_right _ (List.mem_append_right _ (List.mem_append_left _ (List.mem_of_getElem? (i := 57) rfl))))), List.forall_mem_cons.mpr ⟨(List.mem_append_right _ (List.mem_append_right _ (List.mem_append_right _ (List.mem_append_left _ (List.mem_of_getElem? (i := 58) rfl))))), List.forall_mem_cons.mpr ⟨(List.mem_append_right _ (List.mem_append_right _ (List.mem_append_right _ (List.mem_append_left _ (List.mem_of_getElem? (i := 59) rfl))))), List.forall_mem_cons.mpr ⟨(List.mem_append_right _ (List.mem_append_left _ (List.mem_of_getElem? (i := 12) rfl))), List.forall_mem_cons.mpr ⟨(List.mem_append_right _ (List.mem_append_right _ (List.mem_append_right _ (List.mem_append_left _ (List.mem_of_getElem? (i := 61) rfl))))), fun _ h => absurd h List.not_mem_nil⟩⟩⟩⟩⟩⟩⟩⟩⟩⟩⟩⟩⟩⟩⟩⟩⟩⟩⟩⟩⟩⟩⟩⟩⟩
theorem bg_3 : B3.all goodWord = true := by decide +kernel
theorem bi_4 : ∀ w ∈ B4, w ∈ lw_tbl := List.forall_mem_cons.mpr ⟨(List.mem_append_right _ (List.mem_append_right _ (List.mem_append_right _ (List.mem_append_left _ (List.mem_of_getElem? (i := 64) rfl))))), List.forall_mem_cons.mpr ⟨(List.mem_append_right _ (List.mem_append_right _ (List.mem_append_right _ (List.mem_append_left _ (List.mem_of_getElem? (i := 65) rfl))))), List.forall_mem_cons.mpr ⟨(List.mem_append_right _ (List.mem_append_right _ (List.mem_append_right _ (List.mem_append_left _ (List.mem_of_getElem? (i := 67) rfl))))), List.forall_mem_cons.mpr ⟨(List.mem_append_right _ (List.mem_append_right _ (List.mem_append_right _ (List.mem_append_left _ (List.mem_of_getElem? (i := 69) rfl))))), List.forall_mem_cons.mpr ⟨(List.mem_append_right _ (List.mem_append_right _ (List.mem_append_right _ (List.mem_append_left _ (List.mem_of_getElem? (i := 54) rfl))))), List.forall_mem_cons.mpr ⟨(List.mem_append_right _ (List.mem_append_right _ (List.mem_append_right _ (List.mem_append_left _ (List.mem_of_getElem? (i := 55) rfl))))), List.forall_mem_cons.mpr ⟨(List.mem_append_right _ (List.mem_append_right _ (List.mem_append_right _ (List.mem_append_left _ (List.mem_of_getElem? (i := 56) rfl))))), List.forall_mem_cons.mpr ⟨(List.mem_append_right _ (List.mem_append_right _ (List.mem_append_right _ (List.mem_append_left _ (List.mem_of_getElem? (i := 62) rfl))))), List.forall_mem_cons.mpr ⟨(List.mem_append_right _ (List.mem_append_right _ (List.mem_append_right _ (List.mem_append_left _ (List.mem_of_getElem? (i := 63) rfl))))), List.forall_mem_cons.mpr ⟨(List.mem_append_right _ (List.mem_append_right _ (List.mem_append_right _ (List.mem_append_left _ (List.mem_of_getElem? (i := 37) rfl))))), List.forall_mem_cons.mpr ⟨(List.mem_append_right _ (List.mem_append_right _ (List.mem_append_right _ (List.mem_append_left _ (List.mem_of_getElem? (i := 38) rfl))))), List.forall_mem_cons.mpr ⟨(List.mem_append_right _ (List.mem_append_right _ (List.mem_append_right _ (List.mem_append_left _ (List.mem_of_getElem? (i := 39) rfl))))), List.forall_mem_cons.mpr ⟨(List.mem_append_right _ (List.mem_append_right _ (List.mem_append_right _ (List.mem_append_left _ (List.mem_of_getElem? (i := 41) rfl))))), List.forall_mem_cons.mpr ⟨(List.mem_append_right _ (List.mem_append_right _ (List.mem_append_right _ (List.mem_append_left _ (List.mem_of_getElem? (i := 42) rfl))))), List.forall_mem_cons.mpr ⟨(List.mem_append_right _ (List.mem_append_left _ (List.mem_of_getElem? (i := 10) rfl))), List.forall_mem_cons.mpr ⟨(List.mem_append_right _ (List.mem_append_right _ (List.mem_append_right _ (List.mem_append_left _ (List.mem_of_getElem? (i := 52) rfl))))), List.forall_mem_cons.mpr ⟨(List.mem_append_right _ (List.mem_append_right _ (List.mem_append_right _ (List.mem_append_left _ (List.mem_of_getElem? (i := 53) rfl))))), List.forall_mem_cons.mpr ⟨(List.mem_append_right _ (List.mem_append_right _ (List.mem_append_right _ (List.mem_append_left _ (List.mem_of_getElem? (i := 36) rfl))))), List.forall_mem_cons.mpr ⟨(List.mem_append_right _ (List.mem_append_right _ (List.mem_append_right _ (List.mem_append_left _ (List.mem_of_getElem? (i := 81) rfl))))), List.forall_mem_cons.mpr ⟨(List.mem_append_right _ (List.mem_append_right _ (List.mem_append_right _ (List.mem_append_left _ (List.mem_of_getElem? (i := 85) rfl))))), List.forall_mem_cons.mpr ⟨(List.mem_append_right _ (List.mem_append_right _ (List.mem_append_right _ (List.mem_append_left _ (List.mem_of_getElem? (i := 78) rfl))))), List.forall_mem_cons.mpr ⟨(List.mem_append_right _ (List.mem_append_right _ (List.mem_append_right _ (List.mem_append_left _ (List.mem_of_getElem? (i := 5) rfl))))), List.forall_mem_cons.mpr ⟨(List.mem_append_right _ (List.mem_append_right _ (List.mem_append_right _ (List.mem_append_left _ (List.mem_of_getElem? (i := 7) rfl))))), List.forall_mem_cons.mpr ⟨(List.mem_append_left _ (List.mem_of_getElem? (i := 56) rfl)), List.forall_mem_cons.mpr ⟨(List.mem_append_right _ (List.mem_append_right _ (List.mem_append_right _ (List.mem_append_left _ (List.mem_of_getElem? (i := 79) rfl))))), fun _ h => absurd h List.not_mem_nil⟩⟩⟩⟩⟩⟩⟩⟩⟩⟩⟩⟩⟩⟩⟩⟩⟩⟩⟩⟩⟩⟩⟩⟩⟩
theorem bg_4 : B4.all goodWord = true := by decide +kernel
theorem bi_5 : ∀ w ∈ B5, w ∈ lw_tbl := List.forall_mem_cons.mpr ⟨(List.mem_append_right _ (List.mem_append_right _ (List.mem_append_right _ (List.mem_append_left _ (List.mem_of_getElem? (i := 80) rfl))))), List.forall_mem_cons.mpr ⟨(List.mem_append_right _ (List.mem_append_right _ (List.mem_append_right _ (List.mem_append_left _ (List.mem_of_getElem? (i := 82) rfl))))), List.forall_mem_cons.mpr ⟨(List.mem_append_right _ (List.mem_append_right _ (List.mem_append_right _ (List.mem_append_left _ (List.mem_of_getElem? (i := 84) rfl))))), List.forall_mem_cons.mpr ⟨(List.mem_append_left _ (List.mem_of_getElem? (i := 59) rfl)), List.forall_mem_cons.mpr ⟨(List.mem_append_right _ (List.mem_append_right _ (List.mem_append_right _ (List.mem_append_left _ (List.mem_of_getElem? (i := 74) rfl))))), List.forall_mem_cons.mpr ⟨(List.mem_append_right _ (List.mem_append_right _ (List.mem_append_right _ (List.mem_append_left _ (List.mem_of_getElem? (i := 75) rfl))))), List.forall_mem_cons.mpr ⟨(List.mem_append_right _ (List.mem_append_right _ (List.mem_append_right _ (List.mem_append_left _ (List.mem_of_getElem? (i := 77) rfl))))), List.forall_mem_cons.mpr ⟨(List.mem_append_left _ (List.mem_of_getElem? (i := 58) rfl)), List.forall_mem_cons.mpr ⟨(List.mem_append_right _ (List.mem_append_right _ (List.mem_append_right _ (List.mem_append_left _ (List.mem_of_getElem? (i := 9) rfl))))), List.forall_mem_cons.mpr ⟨(List.mem_append_right _ (List.mem_append_right _ (List.mem_append_right _ (List.mem_append_left _ (List.mem_of_getElem? (i := 10) rfl))))), List.forall_mem_cons.mpr ⟨(List.mem_append_right _ (List.mem_append_right _ (List.mem_append_right _ (List.mem_append_left _ (List.mem_of_getElem? (i := 19) rfl))))), List.forall_mem_cons.mpr ⟨(List.mem_append_right _ (List.mem_append_right _ (List.mem_append_right _ (List.mem_append_left _ (List.mem_of_getElem? (i := 20) rfl))))), List.forall_mem_cons.mpr ⟨(List.mem_append_right _ (List.mem_append_right _ (List.mem_append_right _ (List.mem_append_left _ (List.mem_of_getElem? (i := 21) rfl))))), List.forall_mem_cons.mpr ⟨(List.mem_append_right _ (List.mem_append_right _ (List.mem_append_right _ (List.mem_append_left _ (List.mem_of_getElem? (i := 23) rfl))))), List.forall_mem_cons.mpr ⟨(List.mem_append_right _ (List.mem_append_right _ (List.mem_append_right _ (List.mem_append_left _ (List.mem_of_getElem? (i := 24) rfl))))), List.forall_mem_cons.mpr ⟨(List.mem_append_right _ (List.mem_append_right _ (List.mem_append_right _ (List.mem_append_left _ (List.mem_of_getElem? (i := 25) rfl))))), List.forall_mem_cons.mpr ⟨(List.mem_append_right _ (List.mem_append_right _ (List.mem_append_right _ (List.mem_append_left _ (List.mem_of_getElem? (i := 33) rfl))))), List.forall_mem_cons.mpr ⟨(List.mem_append_right _ (List.mem_append_right _ (List.mem_append_right _ (List.mem_append_left _ (List.mem_of_getElem? (i := 34) rfl))))), List.forall_mem_cons.mpr ⟨(List.mem_append_right _ (List.mem_append_right _ (List.mem_append_right _ (List.mem_append_left _ (List.mem_of_getElem? (i := 35) rfl))))), List.forall_mem_cons.mpr ⟨(List.mem_append_right _ (List.mem_append_right _ (List.mem_append_right _ (List.mem_append_left _ (List.mem_of_getElem? (i := 71) rfl))))), List.forall_mem_cons.mpr ⟨(List.mem_append_right _ (List.mem_append_right _ (List.mem_append_right _ (List.mem_append_left _ (List.mem_of_getElem? (i := 73) rfl))))), List.forall_mem_cons.mpr ⟨(List.mem_append_left _ (List.mem_of_getElem? (i := 57) rfl)), List.forall_mem_cons.mpr ⟨(List.mem_append_right _ (List.mem_append_right _ (List.mem_append_right _ (List.mem_append_left _ (List.mem_of_getElem? (i := 4) rfl))))), List.forall_mem_cons.mpr ⟨(List.mem_append_right _ (List.mem_append_right _ (List.mem_append_right _ (List.mem_append_left _ (List.mem_of_getElem? (i := 1) rfl))))), List.forall_mem_cons.mpr ⟨(List.mem_append_right _ (List.mem_append_right _ (List.mem_append_right _ (List.mem_append_left _ (List.mem_of_getElem? (i := 3) rfl))))), fun _ h => absurd h List.not_mem_nil⟩⟩⟩⟩⟩⟩⟩⟩⟩⟩⟩⟩⟩⟩⟩⟩⟩⟩⟩⟩⟩⟩⟩⟩⟩
theorem bg_5 : B5.all goodWord = true := by decide +kernel
theorem bi_6 : ∀ w ∈ B6, w ∈ lw_tbl := List.forall_mem_cons.mpr ⟨(List.mem_append_left _ (List.mem_of_getElem? (i := 55) rfl)), List.forall_mem_cons.mpr ⟨(List.mem_append_right _ (List.mem_append_right _ (List.mem_append_right _ (List.mem_append_left _ (List.mem_of_getElem? (i := 0) rfl))))), List.forall_mem_cons.mpr ⟨(List.mem_append_right _ (List.mem_append_right _ (List.mem_append_right _ (List.mem_append_left _ (List.mem_of_getElem? (i := 103) rfl))))), List.forall_mem_cons.mpr ⟨(List.mem_append_right _ (List.mem_append_left _ (List.mem_of_getElem? (i := 153) rfl))), List.forall_mem_cons.mpr ⟨(List.mem_append_right _ (List.mem_append_left _ (List.mem_of_getElem? (i := 183) rfl))), List.forall_mem_cons.mpr ⟨(List.mem_append_right _ (List.mem_append_left _ (List.mem_of_getElem? (i := 234) rfl))), List.forall_mem_cons.mpr ⟨(List.mem_append_right _ (List.mem_append_left _ (List.mem_of_getElem? (i := 214) rfl))), List.forall_mem_cons.mpr ⟨(List.mem_append_right _ (List.mem_append_left _ (List.mem_of_getElem? (i := 150) rfl))), List.forall_mem_cons.mpr ⟨(List.mem_append_right _ (List.mem_append_left _ (List.mem_of_getElem? (i := 152) rfl))), List.forall_mem_cons.mpr ⟨(List.mem_append_left _ (List.mem_of_getElem? (i := 6) rfl)), List.forall_mem_cons.mpr ⟨(List.mem_append_right _ (List.mem_append_right _ (List.mem_append_left _ (List.mem_of_getElem? (i := 184) rfl)))), List.forall_mem_cons.mpr ⟨(List.mem_append_right _ (List.mem_append_right _ (List.mem_append_left _ (List.mem_of_getElem? (i := 2) rfl)))), List.forall_mem_cons.mpr ⟨(List.mem_append_right _ (List.mem_append_right _ (List.mem_append_left _ (List.mem_of_getElem? (i := 18) rfl)))), List.forall_mem_cons.mpr ⟨(List.mem_append_right _ (List.mem_append_right _ (List.mem_append_left _ (List.mem_of_getElem? (i := 19) rfl)))), List.forall_mem_cons.mpr ⟨(List.mem_append_right _ (List.mem_append_right _ (List.mem_append_left _ (List.mem_of_getElem? (i := 20) rfl)))), List.forall_mem_cons.mpr ⟨(List.mem_append_right _ (List.mem_append_right _ (List.mem_append_left _ (List.mem_of_getElem? (i := 21) rfl)))), List.forall_mem_cons.mpr ⟨(List.mem_append_right _ (List.mem_append_left _ (List.mem_of_getElem? (i := 171) rfl))), List.forall_mem_cons.mpr ⟨(List.mem_append_right _ (List.mem_append_left _ (List.mem_of_getElem? (i := 206) rfl))), List.forall_mem_cons.mpr ⟨(List.mem_append_right _ (List.mem_append_left _ (List.mem_of_getElem? (i := 217) rfl))), List.forall_mem_cons.mpr ⟨(List.mem_append_right _ (List.mem_append_left _ (List.mem_of_getElem? (i := 145) rfl))), List.forall_mem_cons.mpr ⟨(List.mem_append_right _ (List.mem_append_left _ (List.mem_of_getElem? (i := 146) rfl))), List.forall_mem_cons.mpr ⟨(List.mem_append_right _ (List.mem_append_left _ (List.mem_of_getElem? (i := 148) rfl))), List.forall_mem_cons.mpr ⟨(List.mem_append_right _ (List.mem_append_left _ (List.mem_of_getElem? (i := 168) rfl))), List.forall_mem_cons.mpr ⟨(List.mem_append_right _ (List.mem_append_left _ (List.mem_of_getElem? (i := 169) rfl))), List.forall_mem_cons.mpr ⟨(List.mem_append_right _ (List.mem_append_left _ (List.mem_of_getElem? (i := 170) rfl))), fun _ h => absurd h List.not_mem_nil⟩⟩⟩⟩⟩⟩⟩⟩⟩⟩⟩⟩⟩⟩⟩⟩⟩⟩⟩⟩⟩⟩⟩⟩⟩
theorem bg_6 : B6.all goodWord = true := by decide +kernel
theorem bi_7 : ∀ w ∈ B7, w ∈ lw_tbl := List.forall_mem_cons.mpr ⟨(List.mem_append_right _ (List.mem_append_left _ (List.mem_of_getElem? (i := 179) rfl))), List.forall_mem_cons.mpr ⟨(List.mem_append_right _ (List.mem_append_left _ (List.mem_of_getElem? (i := 180) rfl))), List.forall_mem_cons.mpr ⟨(List.mem_append_right _ (List.mem_append_left _ (List.mem_of_getElem? (i := 182) rfl))), List.forall_mem_cons.mpr ⟨(List.mem_append_left _ (List.mem_of_getElem? (i := 10) rfl)), List.forall_mem_cons.mpr ⟨(List.mem_append_right _ (List.mem_append_left _ (List.mem_of_getElem? (i := 191) rfl))), List.forall_mem_cons.mpr ⟨(List.mem_append_right _ (List.mem_append_left _ (List.mem_of_getElem? (i := 203) rfl))), List.forall_mem_cons.mpr ⟨(List.mem_append_right _ (List.mem_append_left _ (List.mem_of_getElem? (i := 204) rfl))), List.forall_mem_cons.mpr ⟨(List.mem_append_right _ (List.mem_append_left _ (List.mem_of_getElem? (i := 205) rfl))), List.forall_mem_cons.mpr ⟨(List.mem_append_right _ (List.mem_append_left _ (List.mem_of_getElem? (i := 210) rfl))), List.forall_mem_cons.mpr ⟨(List.mem_append_right _ (List.mem_append_left _ (List.mem_of_getElem? (i := 211) rfl))), List.forall_mem_cons.mpr ⟨(List.mem_append_right _ (List.mem_append_left _ (List.mem_of_getElem? (i := 213) rfl))), List.forall_mem_cons.mpr ⟨(List.mem_append_left _ (List.mem_of_getElem? (i := 15) rfl)), List.forall_mem_cons.mpr ⟨(List.mem_append_right _ (List.mem_append_left _ (List.mem_of_getElem? (i := 215) rfl))), List.forall_mem_cons.mpr ⟨(List.mem_append_right _ (List.mem_append_left _ (List.mem_of_getElem? (i := 216) rfl))), List.forall_mem_cons.mpr ⟨(List.mem_append_right _ (List.mem_append_left _ (List.mem_of_getElem? (i := 221) rfl))), List.forall_mem_cons.mpr ⟨(List.mem_append_right _ (List.mem_append_left _ (List.mem_of_getElem? (i := 222) rfl))), List.forall_mem_cons.mpr ⟨(List.mem_append_right _ (List.mem_append_left _ (List.mem_of_getElem? (i := 200) rfl))), List.forall_mem_cons.mpr ⟨(List.mem_append_right _ (List.mem_append_left _ (List.mem_of_getElem? (i := 202) rfl))), List.forall_mem_cons.mpr ⟨(List.mem_append_left _ (List.mem_of_getElem? (i := 13) rfl)), List.forall_mem_cons.mpr ⟨(List.mem_append_right _ (List.mem_append_left _ (List.mem_of_getElem? (i := 207) rfl))), List.forall_mem_cons.mpr ⟨(List.mem_append_right _ (List.mem_append_left _ (List.mem_of_getElem? (i := 209) rfl))), List.forall_mem_cons.mpr ⟨(List.mem_append_left _ (List.mem_of_getElem? (i := 14) rfl)), List.forall_mem_cons.mpr ⟨(List.mem_append_right _ (List.mem_append_left _ (List.mem_of_getElem? (i := 218) rfl))), List.forall_mem_cons.mpr ⟨(List.mem_append_right _ (List.mem_append_left _ (List.mem_of_getElem? (i := 220) rfl))), List.forall_mem_cons.mpr ⟨(List.mem_append_left _ (List.mem_of_getElem? (i := 16) rfl)), fun _ h => absurd h List.not_mem_nil⟩⟩⟩⟩⟩⟩⟩⟩⟩⟩⟩⟩⟩⟩⟩⟩⟩⟩⟩⟩⟩⟩⟩⟩⟩
theorem bg_7 : B7.all goodWord = true := by decide +kernel
theorem bi_8 : ∀ w ∈ B8, w ∈ lw_tbl := List.forall_mem_cons.mpr ⟨(List.mem_append_right _ (List.mem_append_left _ (List.mem_of_getElem? (i := 199) rfl))), List.forall_mem_cons.mpr ⟨(List.mem_append_right _ (List.mem_append_right _ (List.mem_append_left _ (List.mem_of_getElem? (i := 10) rfl)))), List.forall_mem_cons.mpr ⟨(List.mem_append_right _ (List.mem_append_right _ (List.mem_append_left _ (List.mem_of_getElem? (i := 14) rfl)))), List.forall_mem_cons.mpr ⟨(List.mem_append_right _ (List.mem_append_right _ (List.mem_append_left _ (List.mem_of_getElem? (i := 25) rfl)))), List.forall_mem_cons.mpr ⟨(List.mem_append_right _ (List.mem_append_right _ (List.mem_append_left _ (List.mem_of_getElem? (i := 7) rfl)))), List.forall_mem_cons.mpr ⟨(List.mem_append_right _ (List.mem_append_right _ (List.mem_append_left _ (List.mem_of_getElem? (i := 9) rfl)))), List.forall_mem_cons.mpr ⟨(List.mem_append_left _ (List.mem_of_getElem? (i := 22) rfl)), List.forall_mem_cons.mpr ⟨(List.mem_append_right _ (List.mem_append_right _ (List.mem_append_left _ (List.mem_of_getElem? (i := 11) rfl)))), List.forall_mem_cons.mpr ⟨(List.mem_append_right _ (List.mem_append_right _ (List.mem_append_left _ (List.mem_of_getElem? (i := 13) rfl)))), List.forall_mem_cons.mpr ⟨(List.mem_append_left _ (List.mem_of_getElem? (i := 23) rfl)), List.forall_mem_cons.mpr ⟨(List.mem_append_right _ (List.mem_append_right _ (List.mem_append_left _ (List.mem_of_getElem? (i := 15) rfl)))), List.forall_mem_cons.mpr ⟨(List.mem_append_right _ (List.mem_append_right _ (List.mem_append_left _ (List.mem_of_getElem? (i := 17) rfl)))), List.forall_mem_cons.mpr ⟨(List.mem_append_left _ (List.mem_of_getElem? (i := 24) rfl)), List.forall_mem_cons.mpr ⟨(List.mem_append_right _ (List.mem_append_right _ (List.mem_append_left _ (List.mem_of_getElem? (i := 22) rfl)))), List.forall_mem_cons.mpr ⟨(List.mem_append_right _ (List.mem_append_right _ (List.mem_append_left _ (List.mem_of_getElem? (i := 24) rfl)))), List.forall_mem_cons.mpr ⟨(List.mem_append_left _ (List.mem_of_getElem? (i := 25) rfl)), List.forall_mem_cons.mpr ⟨(List.mem_append_right _ (List.mem_append_right _ (List.mem_append_left _ (List.mem_of_getElem? (i := 6) rfl)))), List.forall_mem_cons.mpr ⟨(List.mem_append_right _ (List.mem_append_left _ (List.mem_of_getElem? (i := 239) rfl))), List.forall_mem_cons.mpr ⟨(List.mem_append_right _ (List.mem_append_right _ (List.mem_append_left _ (List.mem_of_getElem? (i := 1) rfl)))), List.forall_mem_cons.mpr ⟨(List.mem_append_left _ (List.mem_of_getElem? (i := 20) rfl)), List.forall_mem_cons.mpr ⟨(List.mem_append_right _ (List.mem_append_right _ (List.mem_append_left _ (List.mem_of_getElem? (i := 3) rfl)))), List.forall_mem_cons.mpr ⟨(List.mem_append_right _ (List.mem_append_right _ (List.mem_append_left _ (List.mem_of_getElem? (i := 5) rfl)))), List.forall_mem_cons.mpr ⟨(List.mem_append_left _ (List.mem_of_getElem? (i := 21) rfl)), List.forall_mem_cons.mpr ⟨(List.mem_append_right _ (List.mem_append_left _ (List.mem_of_getElem? (i := 238) rfl))), List.forall_mem_cons.mpr ⟨(List.mem_append_right _ (List.mem_append_right _ (List.mem_append_left _ (List.mem_of_getElem? (i := 29) rfl)))), fun _ h => absurd h List.not_mem_nil⟩⟩⟩⟩⟩⟩⟩⟩⟩⟩⟩⟩⟩⟩⟩⟩⟩⟩⟩⟩⟩⟩⟩⟩⟩
theorem bg_8 : B8.all goodWord = true := by decide +kernel
theorem bi_9 : ∀ w ∈ B9, w ∈ lw_tbl := List.forall_mem_cons.mpr ⟨(List.mem_append_right _ (List.mem_append_right _ (List.mem_append_left _ (List.mem_of_getElem? (i := 33) rfl)))), List.forall_mem_cons.mpr ⟨(List.mem_append_right _ (List.mem_append_left _ (List.mem_of_getElem? (i := 231) rfl))), List.forall_mem_cons.mpr ⟨(List.mem_append_right _ (List.mem_append_left _ (List.mem_of_getElem? (i := 233) rfl))), List.forall_mem_cons.mpr ⟨(List.mem_append_left _ (List.mem_of_getElem? (i := 18) rfl)), List.forall_mem_cons.mpr ⟨(List.mem_append_right _ (List.mem_append_left _ (List.mem_of_getElem? (i := 235) rfl))), List.forall_mem_cons.mpr ⟨(List.mem_append_right _ (List.mem_append_left _ (List.mem_of_getElem? (i := 237) rfl))), List.forall_mem_cons.mpr ⟨(List.mem_append_left _ (List.mem_of_getElem? (i := 19) rfl)), List.forall_mem_cons.mpr ⟨(List.mem_append_right _ (List.mem_append_right _ (List.mem_append_left _ (List.mem_of_getElem? (i := 26) rfl)))), List.forall_mem_cons.mpr ⟨(List.mem_append_right _ (List.mem_append_right _ (List.mem_append_left _ (List.mem_of_getElem? (i := 28) rfl)))), List.forall_mem_cons.mpr ⟨(List.mem_append_left _ (List.mem_of_getElem? (i := 26) rfl)), List.forall_mem_cons.mpr ⟨(List.mem_append_right _ (List.mem_append_right _ (List.mem_append_left _ (List.mem_of_getElem? (i := 30) rfl)))), List.forall_mem_cons.mpr ⟨(List.mem_append_right _ (List.mem_append_right _ (List.mem_append_left _ (List.mem_of_getElem? (i := 32) rfl)))), List.forall_mem_cons.mpr ⟨(List.mem_append_left _ (List.mem_of_getElem? (i := 27) rfl)), List.forall_mem_cons.mpr ⟨(List.mem_append_right _ (List.mem_append_left _ (List.mem_of_getElem? (i := 230) rfl))), List.forall_mem_cons.mpr ⟨(List.mem_append_right _ (List.mem_append_right _ (List.mem_append_left _ (List.mem_of_getElem? (i := 45) rfl)))), List.forall_mem_cons.mpr ⟨(List.mem_append_right _ (List.mem_append_right _ (List.mem_append_left _ (List.mem_of_getElem? (i := 53) rfl)))), List.forall_mem_cons.mpr ⟨(List.mem_append_right _ (List.mem_append_right _ (List.mem_append_left _ (List.mem_of_getElem? (i := 49) rfl)))), List.forall_mem_cons.mpr ⟨(List.mem_append_right _ (List.mem_append_right _ (List.mem_append_left _ (List.mem_of_getElem? (i := 50) rfl)))), List.forall_mem_cons.mpr ⟨(List.mem_append_right _ (List.mem_append_right _ (List.mem_append_left _ (List.mem_of_getElem? (i := 52) rfl)))), List.forall_mem_cons.mpr ⟨(List.mem_append_left _ (List.mem_of_getElem? (i := 31) rfl)), List.forall_mem_cons.mpr ⟨(List.mem_append_right _ (List.mem_append_right _ (List.mem_append_left _ (List.mem_of_getElem? (i := 57) rfl)))), List.forall_mem_cons.mpr ⟨(List.mem_append_right _ (List.mem_append_right _ (List.mem_append_left _ (List.mem_of_getElem? (i := 42) rfl)))), List.forall_mem_cons.mpr ⟨(List.mem_append_right _ (List.mem_append_right _ (List.mem_append_left _ (List.mem_of_getElem? (i := 44) rfl)))), List.forall_mem_cons.mpr ⟨(List.mem_append_left _ (List.mem_of_getElem? (i := 29) rfl)), List.forall_mem_cons.mpr ⟨(List.mem_append_right _ (List.mem_append_right _ (List.mem_append_left _ (List.mem_of_getElem? (i := 46) rfl)))), fun _ h => absurd h List.not_mem_nil⟩⟩⟩⟩⟩⟩⟩⟩⟩⟩⟩⟩⟩⟩⟩⟩⟩⟩⟩⟩⟩⟩⟩⟩⟩
theorem bg_9 : B9.all goodWord = true := by decide +kernel
theorem bi_10 : ∀ w ∈ B10, w ∈ lw_tbl := List.forall_mem_cons.mpr ⟨(List.mem_append_right _ (List.mem_append_right _ (List.mem_append_left _ (List.mem_of_getElem? (i := 48) rfl)))), List.forall_mem_cons.mpr ⟨(List.mem_append_left _ (List.mem_of_getElem? (i := 30) rfl)), List.forall_mem_cons.mpr ⟨(List.mem_append_right _ (List.mem_append_right _ (List.mem_append_left _ (List.mem_of_getElem? (i := 54) rfl)))), List.forall_mem_cons.mpr ⟨(List.mem_append_right _ (List.mem_append_right _ (List.mem_append_left _ (List.mem_of_getElem? (i := 56) rfl)))), List.forall_mem_cons.mpr ⟨(List.mem_append_left _ (List.mem_of_getElem? (i := 32) rfl)), List.forall_mem_cons.mpr ⟨(List.mem_append_right _ (List.mem_append_right _ (List.mem_append_left _ (List.mem_of_getElem? (i := 41) rfl)))), List.forall_mem_cons.mpr ⟨(List.mem_append_right _ (List.mem_append_right _ (List.mem_append_left _ (List.mem_of_getElem? (i := 65) rfl)))), List.forall_mem_cons.mpr ⟨(List.mem_append_right _ (List.mem_append_right _ (List.mem_append_left _ (List.mem_of_getElem? (i := 73) rfl)))), List.forall_mem_cons.mpr ⟨(List.mem_append_right _ (List.mem_append_right _ (List.mem_append_left _ (List.mem_of_getElem? (i := 171) rfl)))), List.forall_mem_cons.mpr ⟨(List.mem_append_right _ (List.mem_append_right _ (List.mem_append_left _ (List.mem_of_getElem? (i := 188) rfl)))), List.forall_mem_cons.mpr ⟨(List.mem_append_right _ (List.mem_append_right _ (List.mem_append_left _ (List.mem_of_getElem? (i := 191) rfl)))), List.forall_mem_cons.mpr ⟨(List.mem_append_right _ (List.mem_append_right _ (List.mem_append_left _ (List.mem_of_getElem? (i := 181) rfl)))), List.forall_mem_cons.mpr ⟨(List.mem_append_right _ (List.mem_append_right _ (List.mem_append_left _ (List.mem_of_getElem? (i := 183) rfl)))), List.forall_mem_cons.mpr ⟨(List.mem_append_left _ (List.mem_of_getElem? (i := 49) rfl)), List.forall_mem_cons.mpr ⟨(List.mem_append_right _ (List.mem_append_right _ (List.mem_append_left _ (List.mem_of_getElem? (i := 185) rfl)))), List.forall_mem_cons.mpr ⟨(List.mem_append_right _ (List.mem_append_right _ (List.mem_append_left _ (List.mem_of_getElem? (i := 187) rfl)))), List.forall_mem_cons.mpr ⟨(List.mem_append_left _ (List.mem_of_getElem? (i := 50) rfl)), List.forall_mem_cons.mpr ⟨(List.mem_append_right _ (List.mem_append_right _ (List.mem_append_left _ (List.mem_of_getElem? (i := 189) rfl)))), List.forall_mem_cons.mpr ⟨(List.mem_append_right _ (List.mem_append_right _ (List.mem_append_left _ (List.mem_of_getElem? (i := 190) rfl)))), List.forall_mem_cons.mpr ⟨(List.mem_append_right _ (List.mem_append_right _ (List.mem_append_left _ (List.mem_of_getElem? (i := 180) rfl)))), List.forall_mem_cons.mpr ⟨(List.mem_append_right _ (List.mem_append_right _ (List.mem_append_left _ (List.mem_of_getElem? (i := 199) rfl)))), List.forall_mem_cons.mpr ⟨(List.mem_append_right _ (List.mem_append_right _ (List.mem_append_left _ (List.mem_of_getElem? (i := 96) rfl)))), List.forall_mem_cons.mpr ⟨(List.mem_append_right _ (List.mem_append_right _ (List.mem_append_left _ (List.mem_of_getElem? (i := 100) rfl)))), List.forall_mem_cons.mpr ⟨(List.mem_append_right _ (List.mem_append_right _ (List.mem_append_left _ (List.mem_of_getElem? (i := 93) rfl)))), List.forall_mem_cons.mpr ⟨(List.mem_append_right _ (List.mem_append_right _ (List.mem_append_left _ (List.mem_of_getElem? (i := 95) rfl)))), fun _ h => absurd h List.not_mem_nil⟩⟩⟩⟩⟩⟩⟩⟩⟩⟩⟩⟩⟩⟩⟩⟩⟩⟩⟩⟩⟩⟩⟩⟩⟩
theorem bg_10 : B10.all goodWord = true := by decide +kernel
theorem bi_11 : ∀ w ∈ B11, w ∈ lw_tbl := List.forall_mem_cons.mpr ⟨(List.mem_append_left _ (List.mem_of_getElem? (i := 37) rfl)), List.forall_mem_cons.mpr ⟨(List.mem_append_right _ (List.mem_append_right _ (List.mem_append_left _ (List.mem_of_getElem? (i := 97) rfl)))), List.forall_mem_cons.mpr ⟨(List.mem_append_right _ (List.mem_append_right _ (List.mem_append_left _ (List.mem_of_getElem? (i := 99) rfl)))), List.forall_mem_cons.mpr ⟨(List.mem_append_left _ (List.mem_of_getElem? (i := 38) rfl)), List.forall_mem_cons.mpr ⟨(List.mem_append_right _ (List.mem_append_right _ (List.mem_append_left _ (List.mem_of_getElem? (i := 92) rfl)))), List.forall_mem_cons.mpr ⟨(List.mem_append_right _ (List.mem_append_right _ (List.mem_append_left _ (List.mem_of_getElem? (i := 108) rfl)))), List.forall_mem_cons.mpr ⟨(List.mem_append_right _ (List.mem_append_right _ (List.mem_append_left _ (List.mem_of_getElem? (i := 116) rfl)))), List.forall_mem_cons.mpr ⟨(List.mem_append_right _ (List.mem_append_right _ (List.mem_append_left _ (List.mem_of_getElem? (i := 132) rfl)))), List.forall_mem_cons.mpr ⟨(List.mem_append_right _ (List.mem_append_right _ (List.mem_append_left _ (List.mem_of_getElem? (i := 128) rfl)))), List.forall_mem_cons.mpr ⟨(List.mem_append_right _ (List.mem_append_right _ (List.mem_append_left _ (List.mem_of_getElem? (i := 129) rfl)))), List.forall_mem_cons.mpr ⟨(List.mem_append_right _ (List.mem_append_right _ (List.mem_append_left _ (List.mem_of_getElem? (i := 131) rfl)))), List.forall_mem_cons.mpr ⟨(List.mem_append_left _ (List.mem_of_getElem? (i := 43) rfl)), List.forall_mem_cons.mpr ⟨(List.mem_append_right _ (List.mem_append_right _ (List.mem_append_left _ (List.mem_of_getElem? (i := 124) rfl)))), List.forall_mem_cons.mpr ⟨(List.mem_append_right _ (List.mem_append_right _ (List.mem_append_left _ (List.mem_of_getElem? (i := 125) rfl)))), List.forall_mem_cons.mpr ⟨(List.mem_append_right _ (List.mem_append_right _ (List.mem_append_left _ (List.mem_of_getElem? (i := 127) rfl)))), List.forall_mem_cons.mpr ⟨(List.mem_append_left _ (List.mem_of_getElem? (i := 42) rfl)), List.forall_mem_cons.mpr ⟨(List.mem_append_right _ (List.mem_append_right _ (List.mem_append_left _ (List.mem_of_getElem? (i := 140) rfl)))), List.forall_mem_cons.mpr ⟨(List.mem_append_right _ (List.mem_append_right _ (List.mem_append_left _ (List.mem_of_getElem? (i := 152) rfl)))), List.forall_mem_cons.mpr ⟨(List.mem_append_right _ (List.mem_append_right _ (List.mem_append_left _ (List.mem_of_getElem? (i := 78) rfl)))), List.forall_mem_cons.mpr ⟨(List.mem_append_right _ (List.mem_append_right _ (List.mem_append_left _ (List.mem_of_getElem? (i := 157) rfl)))), List.forall_mem_cons.mpr ⟨(List.mem_append_right _ (List.mem_append_right _ (List.mem_append_left _ (List.mem_of_getElem? (i := 149) rfl)))), List.forall_mem_cons.mpr ⟨(List.mem_append_right _ (List.mem_append_right _ (List.mem_append_left _ (List.mem_of_getElem? (i := 151) rfl)))), List.forall_mem_cons.mpr ⟨(List.mem_append_left _ (List.mem_of_getElem? (i := 46) rfl)), List.forall_mem_cons.mpr ⟨(List.mem_append_right _ (List.mem_append_right _ (List.mem_append_left _ (List.mem_of_getElem? (i := 153) rfl)))), List.forall_mem_cons.mpr ⟨(List.mem_append_right _ (List.mem_append_right _ (List.mem_append_left _ (List.mem_of_getElem? (i := 77) rfl)))), fun _ h => absurd h List.not_mem_nil⟩⟩⟩⟩⟩⟩⟩⟩⟩⟩⟩⟩⟩⟩⟩⟩⟩⟩⟩⟩⟩⟩⟩⟩⟩
theorem bg_11 : B11.all goodWord = true := by decide +kernel
theorem bi_12 : ∀ w ∈ B12, w ∈ lw_tbl := List.forall_mem_cons.mpr ⟨(List.mem_append_left _ (List.mem_of_getElem? (i := 35) rfl)), List.forall_mem_cons.mpr ⟨(List.mem_append_right _ (List.mem_append_right _ (List.mem_append_left _ (List.mem_of_getElem? (i := 154) rfl)))), List.forall_mem_cons.mpr ⟨(List.mem_append_right _ (List.mem_append_right _ (List.mem_append_left _ (List.mem_of_getElem? (i := 156) rfl)))), List.forall_mem_cons.mpr ⟨(List.mem_append_left _ (List.mem_of_getElem? (i := 47) rfl)), List.forall_mem_cons.mpr ⟨(List.mem_append_right _ (List.mem_append_right _ (List.mem_append_left _ (List.mem_of_getElem? (i := 148) rfl)))), List.forall_mem_cons.mpr ⟨(List.mem_append_right _ (List.mem_append_left _ (List.mem_of_getElem? (i := 18) rfl))), List.forall_mem_cons.mpr ⟨(List.mem_append_right _ (List.mem_append_left _ (List.mem_of_getElem? (i := 21) rfl))), List.forall_mem_cons.mpr ⟨(List.mem_append_right _ (List.mem_append_left _ (List.mem_of_getElem? (i := 100) rfl))), List.forall_mem_cons.mpr ⟨(List.mem_append_right _ (List.mem_append_left _ (List.mem_of_getElem? (i := 52) rfl))), List.forall_mem_cons.mpr ⟨(List.mem_append_right _ (List.mem_append_left _ (List.mem_of_getElem? (i := 53) rfl))), List.forall_mem_cons.mpr ⟨(List.mem_append_right _ (List.mem_append_left _ (List.mem_of_getElem? (i := 101) rfl))), List.forall_mem_cons.mpr ⟨(List.mem_append_right _ (List.mem_append_left _ (List.mem_of_getElem? (i := 72) rfl))), List.forall_mem_cons.mpr ⟨(List.mem_append_right _ (List.mem_append_left _ (List.mem_of_getElem? (i := 73) rfl))), List.forall_mem_cons.mpr ⟨(List.mem_append_right _ (List.mem_append_left _ (List.mem_of_getElem? (i := 102) rfl))), List.forall_mem_cons.mpr ⟨(List.mem_append_right _ (List.mem_append_left _ (List.mem_of_getElem? (i := 103) rfl))), List.forall_mem_cons.mpr ⟨(List.mem_append_right _ (List.mem_append_left _ (List.mem_of_getElem? (i := 55) rfl))), List.forall_mem_cons.mpr ⟨(List.mem_append_right _ (List.mem_append_left _ (List.mem_of_getElem? (i := 75) rfl))), List.forall_mem_cons.mpr ⟨(List.mem_append_right _ (List.mem_append_left _ (List.mem_of_getElem? (i := 17) rfl))), List.forall_mem_cons.mpr ⟨(List.mem_append_right _ (List.mem_append_left _ (List.mem_of_getElem? (i := 119) rfl))), List.forall_mem_cons.mpr ⟨(List.mem_append_left _ (List.mem_of_getElem? (i := 1) rfl)), List.forall_mem_cons.mpr ⟨(List.mem_append_right _ (List.mem_append_left _ (List.mem_of_getElem? (i := 144) rfl))), List.forall_mem_cons.mpr ⟨(List.mem_append_left _ (List.mem_of_getElem? (i := 5) rfl)), List.forall_mem_cons.mpr ⟨(List.mem_append_right _ (List.mem_append_left _ (List.mem_of_getElem? (i := 156) rfl))), List.forall_mem_cons.mpr ⟨(List.mem_append_left _ (List.mem_of_getElem? (i := 7) rfl)), List.forall_mem_cons.mpr ⟨(List.mem_append_right _ (List.mem_append_left _ (List.mem_of_getElem? (i := 116) rfl))), fun _ h => absurd h List.not_mem_nil⟩⟩⟩⟩⟩⟩⟩⟩⟩⟩⟩⟩⟩⟩⟩⟩⟩⟩⟩⟩⟩⟩⟩⟩⟩
theorem bg_12 : B12.all goodWord = true := by decide +kernel
theorem bi_13 : ∀ w ∈ B13, w ∈ lw_tbl := List.forall_mem_cons.mpr ⟨(List.mem_append_right _ (List.mem_append_left _ (List.mem_of_getElem? (i := 167) rfl))), List.forall_mem_cons.mpr ⟨(List.mem_append_left _ (List.mem_of_getElem? (i := 8) rfl)), List.forall_mem_cons.mpr ⟨(List.mem_append_right _ (List.mem_append_left _ (List.mem_of_getElem? (i := 164) rfl))), List.forall_mem_cons.mpr ⟨(List.mem_append_right _ (List.mem_append_left _ (List.mem_of_getElem? (i := 178) rfl))), List.forall_mem_cons.mpr ⟨(List.mem_append_left _ (List.mem_of_getElem? (i := 9) rfl)), List.forall_mem_cons.mpr ⟨(List.mem_append_right _ (List.mem_append_left _ (List.mem_of_getElem? (i := 175) rfl))), List.forall_mem_cons.mpr ⟨(List.mem_append_right _ (List.mem_append_left _ (List.mem_of_getElem? (i := 190) rfl))), List.forall_mem_cons.mpr ⟨(List.mem_append_left _ (List.mem_of_getElem? (i := 11) rfl)), List.forall_mem_cons.mpr ⟨(List.mem_append_right _ (List.mem_append_left _ (List.mem_of_getElem? (i := 187) rfl))), List.forall_mem_cons.mpr ⟨(List.mem_append_right _ (List.mem_append_left _ (List.mem_of_getElem? (i := 198) rfl))), List.forall_mem_cons.mpr ⟨(List.mem_append_left _ (List.mem_of_getElem? (i := 12) rfl)), List.forall_mem_cons.mpr ⟨(List.mem_append_right _ (List.mem_append_left _ (List.mem_of_getElem? (i := 195) rfl))), List.forall_mem_cons.mpr ⟨(List.mem_append_right _ (List.mem_append_left _ (List.mem_of_getElem? (i := 229) rfl))), List.forall_mem_cons.mpr ⟨(List.mem_append_left _ (List.mem_of_getElem? (i := 17) rfl)), List.forall_mem_cons.mpr ⟨(List.mem_append_right _ (List.mem_append_left _ (List.mem_of_getElem? (i := 226) rfl))), List.forall_mem_cons.mpr ⟨(List.mem_append_right _ (List.mem_append_right _ (List.mem_append_left _ (List.mem_of_getElem? (i := 40) rfl)))), List.forall_mem_cons.mpr ⟨(List.mem_append_left _ (List.mem_of_getElem? (i := 28) rfl)), List.forall_mem_cons.mpr ⟨(List.mem_append_right _ (List.mem_append_right _ (List.mem_append_left _ (List.mem_of_getElem? (i := 37) rfl)))), List.forall_mem_cons.mpr ⟨(List.mem_append_right _ (List.mem_append_right _ (List.mem_append_left _ (List.mem_of_getElem? (i := 64) rfl)))), List.forall_mem_cons.mpr ⟨(List.mem_append_left _ (List.mem_of_getElem? (i := 33) rfl)), List.forall_mem_cons.mpr ⟨(List.mem_append_right _ (List.mem_append_right _ (List.mem_append_left _ (List.mem_of_getElem? (i := 61) rfl)))), List.forall_mem_cons.mpr ⟨(List.mem_append_right _ (List.mem_append_right _ (List.mem_append_left _ (List.mem_of_getElem? (i := 81) rfl)))), List.forall_mem_cons.mpr ⟨(List.mem_append_right _ (List.mem_append_right _ (List.mem_append_left _ (List.mem_of_getElem? (i := 82) rfl)))), List.forall_mem_cons.mpr ⟨(List.mem_append_right _ (List.mem_append_right _ (List.mem_append_left _ (List.mem_of_getElem? (i := 83) rfl)))), List.forall_mem_cons.mpr ⟨(List.mem_append_right _ (List.mem_append_right _ (List.mem_append_left _ (List.mem_of_getElem? (i := 84) rfl)))), fun _ h => absurd h List.not_mem_nil⟩⟩⟩⟩⟩⟩⟩⟩⟩⟩⟩⟩⟩⟩⟩⟩⟩⟩⟩⟩⟩⟩⟩⟩⟩
theorem bg_13 : B13.all goodWord = true := by decide +kernel
theorem bi_14 : ∀ w ∈ B14, w ∈ lw_tbl := List.forall_mem_cons.mpr ⟨(List.mem_append_right _ (List.mem_append_right _ (List.mem_append_left _ (List.mem_of_getElem? (i := 72) rfl)))), List.forall_mem_cons.mpr ⟨(List.mem_append_left _ (List.mem_of_getElem? (i := 34) rfl)), List.forall_mem_cons.mpr ⟨(List.mem_append_right _ (List.mem_append_right _ (List.mem_append_left _ (List.mem_of_getElem? (i := 74) rfl)))), List.forall_mem_cons.mpr ⟨(List.mem_append_right _ (List.mem_append_right _ (List.mem_append_left _ (List.mem_of_getElem? (i := 79) rfl)))), List.forall_mem_cons.mpr ⟨(List.mem_append_right _ (List.mem_append_right _ (List.mem_append_left _ (List.mem_of_getElem? (i := 80) rfl)))), List.forall_mem_cons.mpr ⟨(List.mem_append_right _ (List.mem_append_left _ (List.mem_of_getElem? (i := 8) rfl))), List.forall_mem_cons.mpr ⟨(List.mem_append_right _ (List.mem_append_right _ (List.mem_append_left _ (List.mem_of_getElem? (i := 69) rfl)))), List.forall_mem_cons.mpr ⟨(List.mem_append_right _ (List.mem_append_right _ (List.mem_append_left _ (List.mem_of_getElem? (i := 91) rfl)))), List.forall_mem_cons.mpr ⟨(List.mem_append_left _ (List.mem_of_getElem? (i := 36) rfl)), List.forall_mem_cons.mpr ⟨(List.mem_append_right _ (List.mem_append_right _ (List.mem_append_left _ (List.mem_of_getElem? (i := 88) rfl)))), List.forall_mem_cons.mpr ⟨(List.mem_append_right _ (List.mem_append_right _ (List.mem_append_left _ (List.mem_of_getElem? (i := 107) rfl)))), List.forall_mem_cons.mpr ⟨(List.mem_append_left _ (List.mem_of_getElem? (i := 39) rfl)), List.forall_mem_cons.mpr ⟨(List.mem_append_right _ (List.mem_append_right _ (List.mem_append_left _ (List.mem_of_getElem? (i := 104) rfl)))), List.forall_mem_cons.mpr ⟨(List.mem_append_right _ (List.mem_append_right _ (List.mem_append_left _ (List.mem_of_getElem? (i := 112) rfl)))), List.forall_mem_cons.mpr ⟨(List.mem_append_right _ (List.mem_append_right _ (List.mem_append_left _ (List.mem_of_getElem? (i := 115) rfl)))), List.forall_mem_cons.mpr ⟨(List.mem_append_left _ (List.mem_of_getElem? (i := 40) rfl)), List.forall_mem_cons.mpr ⟨(List.mem_append_right _ (List.mem_append_right _ (List.mem_append_left _ (List.mem_of_getElem? (i := 123) rfl)))), List.forall_mem_cons.mpr ⟨(List.mem_append_left _ (List.mem_of_getElem? (i := 41) rfl)), List.forall_mem_cons.mpr ⟨(List.mem_append_right _ (List.mem_append_right _ (List.mem_append_left _ (List.mem_of_getElem? (i := 120) rfl)))), List.forall_mem_cons.mpr ⟨(List.mem_append_right _ (List.mem_append_right _ (List.mem_append_left _ (List.mem_of_getElem? (i := 136) rfl)))), List.forall_mem_cons.mpr ⟨(List.mem_append_right _ (List.mem_append_right _ (List.mem_append_left _ (List.mem_of_getElem? (i := 139) rfl)))), List.forall_mem_cons.mpr ⟨(List.mem_append_left _ (List.mem_of_getElem? (i := 44) rfl)), List.forall_mem_cons.mpr ⟨(List.mem_append_right _ (List.mem_append_right _ (List.mem_append_left _ (List.mem_of_getElem? (i := 147) rfl)))), List.forall_mem_cons.mpr ⟨(List.mem_append_left _ (List.mem_of_getElem? (i := 45) rfl)), List.forall_mem_cons.mpr ⟨(List.mem_append_right _ (List.mem_append_right _ (List.mem_append_left _ (List.mem_of_getElem? (i := 144) rfl)))), fun _ h => absurd h List.not_mem_nil⟩⟩⟩⟩⟩⟩⟩⟩⟩⟩⟩⟩⟩⟩⟩⟩⟩⟩⟩⟩⟩⟩⟩⟩⟩
theorem bg_14 : B14.all goodWord = true := by decide +kernel
theorem bi_15 : ∀ w ∈ B15, w ∈ lw_tbl := List.forall_mem_cons.mpr ⟨(List.mem_append_right _ (List.mem_append_right _ (List.mem_append_left _ (List.mem_of_getElem? (i := 161) rfl)))), List.forall_mem_cons.mpr ⟨(List.mem_append_right _ (List.mem_append_right _ (List.mem_append_left _ (List.mem_of_getElem? (i := 170) rfl)))), List.forall_mem_cons.mpr ⟨(List.mem_append_right _ (List.mem_append_right _ (List.mem_append_left _ (List.mem_of_getElem? (i := 168) rfl)))), List.forall_mem_cons.mpr ⟨(List.mem_append_right _ (List.mem_append_right _ (List.mem_append_left _ (List.mem_of_getElem? (i := 179) rfl)))), List.forall_mem_cons.mpr ⟨(List.mem_append_left _ (List.mem_of_getElem? (i := 48) rfl)), List.forall_mem_cons.mpr ⟨(List.mem_append_right _ (List.mem_append_right _ (List.mem_append_left _ (List.mem_of_getElem? (i := 175) rfl)))), List.forall_mem_cons.mpr ⟨(List.mem_append_right _ (List.mem_append_right _ (List.mem_append_left _ (List.mem_of_getElem? (i := 198) rfl)))), List.forall_mem_cons.mpr ⟨(List.mem_append_left _ (List.mem_of_getElem? (i := 51) rfl)), List.forall_mem_cons.mpr ⟨(List.mem_append_right _ (List.mem_append_right _ (List.mem_append_left _ (List.mem_of_getElem? (i := 195) rfl)))), List.forall_mem_cons.mpr ⟨(List.mem_append_right _ (List.mem_append_right _ (List.mem_append_left _ (List.mem_of_getElem? (i := 203) rfl)))), List.forall_mem_cons.mpr ⟨(List.mem_append_right _ (List.mem_append_right _ (List.mem_append_left _ (List.mem_of_getElem? (i := 209) rfl)))), List.forall_mem_cons.mpr ⟨(List.mem_append_right _ (List.mem_append_right _ (List.mem_append_left _ (List.mem_of_getElem? (i := 214) rfl)))), List.forall_mem_cons.mpr ⟨(List.mem_append_right _ (List.mem_append_right _ (List.mem_append_left _ (List.mem_of_getElem? (i := 216) rfl)))), List.forall_mem_cons.mpr ⟨(List.mem_append_right _ (List.mem_append_right _ (List.mem_append_left _ (List.mem_of_getElem? (i := 223) rfl)))), List.forall_mem_cons.mpr ⟨(List.mem_append_left _ (List.mem_of_getElem? (i := 52) rfl)), List.forall_mem_cons.mpr ⟨(List.mem_append_right _ (List.mem_append_right _ (List.mem_append_left _ (List.mem_of_getElem? (i := 232) rfl)))), List.forall_mem_cons.mpr ⟨(List.mem_append_right _ (List.mem_append_right _ (List.mem_append_left _ (List.mem_of_getElem? (i := 239) rfl)))), List.forall_mem_cons.mpr ⟨(List.mem_append_left _ (List.mem_of_getElem? (i := 54) rfl)), List.forall_mem_cons.mpr ⟨(List.mem_append_right _ (List.mem_append_right _ (List.mem_append_left _ (List.mem_of_getElem? (i := 236) rfl)))), List.forall_mem_cons.mpr ⟨(List.mem_append_right _ (List.mem_append_right _ (List.mem_append_right _ (List.mem_append_left _ (List.mem_of_getElem? (i := 98) rfl))))), List.forall_mem_cons.mpr ⟨(List.mem_append_left _ (List.mem_of_getElem? (i := 61) rfl)), List.forall_mem_cons.mpr ⟨(List.mem_append_right _ (List.mem_append_right _ (List.mem_append_right _ (List.mem_append_left _ (List.mem_of_getElem? (i := 95) rfl))))), List.forall_mem_cons.mpr ⟨(List.mem_append_right _ (List.mem_append_right _ (List.mem_append_right _ (List.mem_append_left _ (List.mem_of_getElem? (i := 92) rfl))))), List.forall_mem_cons.mpr ⟨(List.mem_append_right _ (List.mem_append_right _ (List.mem_append_right _ (List.mem_append_left _ (List.mem_of_getElem? (i := 94) rfl))))), List.forall_mem_cons.mpr ⟨(List.mem_append_left _ (List.mem_of_getElem? (i := 60) rfl)), fun _ h => absurd h List.not_mem_nil⟩⟩⟩⟩⟩⟩⟩⟩⟩⟩⟩⟩⟩⟩⟩⟩⟩⟩⟩⟩⟩⟩⟩⟩⟩
theorem bg_15 : B15.all goodWord = true := by decide +kernel
theorem bi_16 : ∀ w ∈ B16, w ∈ lw_tbl := List.forall_mem_cons.mpr ⟨(List.mem_append_right _ (List.mem_append_right _ (List.mem_append_right _ (List.mem_append_left _ (List.mem_of_getElem? (i := 102) rfl))))), List.forall_mem_cons.mpr ⟨(List.mem_append_left _ (List.mem_of_getElem? (i := 62) rfl)), List.forall_mem_cons.mpr ⟨(List.mem_append_right _ (List.mem_append_right _ (List.mem_append_right _ (List.mem_append_left _ (List.mem_of_getElem? (i := 90) rfl))))), List.forall_mem_cons.mpr ⟨(List.mem_append_right _ (List.mem_append_right _ (List.mem_append_right _ (List.mem_append_left _ (List.mem_of_getElem? (i := 110) rfl))))), List.forall_mem_cons.mpr ⟨(List.mem_append_left _ (List.mem_of_getElem? (i := 63) rfl)), List.forall_mem_cons.mpr ⟨(List.mem_append_right _ (List.mem_append_right _ (List.mem_append_right _ (List.mem_append_left _ (List.mem_of_getElem? (i := 107) rfl))))), List.forall_mem_cons.mpr ⟨(List.mem_append_right _ (List.mem_append_right _ (List.mem_append_right _ (List.mem_append_left _ (List.mem_of_getElem? (i := 119) rfl))))), List.forall_mem_cons.mpr ⟨(List.mem_append_right _ (List.mem_append_right _ (List.mem_append_right _ (List.mem_append_left _ (List.mem_of_getElem? (i := 116) rfl))))), List.forall_mem_cons.mpr ⟨(List.mem_append_right _ (List.mem_append_right _ (List.mem_append_right _ (List.mem_append_left _ (List.mem_of_getElem? (i := 118) rfl))))), List.forall_mem_cons.mpr ⟨(List.mem_append_left _ (List.mem_of_getElem? (i := 64) rfl)), List.forall_mem_cons.mpr ⟨(List.mem_append_right _ (List.mem_append_right _ (List.mem_append_right _ (List.mem_append_left _ (List.mem_of_getElem? (i := 115) rfl))))), List.forall_mem_cons.mpr ⟨(List.mem_append_right _ (List.mem_append_right _ (List.mem_append_right _ (List.mem_append_left _ (List.mem_of_getElem? (i := 124) rfl))))), List.forall_mem_cons.mpr ⟨(List.mem_append_right _ (List.mem_append_right _ (List.mem_append_right _ (List.mem_append_left _ (List.mem_of_getElem? (i := 129) rfl))))), List.forall_mem_cons.mpr ⟨(List.mem_append_right _ (List.mem_append_right _ (List.mem_append_right _ (List.mem_append_left _ (List.mem_of_getElem? (i := 130) rfl))))), List.forall_mem_cons.mpr ⟨(List.mem_append_right _ (List.mem_append_right _ (List.mem_append_right _ (List.mem_append_left _ (List.mem_of_getElem? (i := 131) rfl))))), List.forall_mem_cons.mpr ⟨(List.mem_append_right _ (List.mem_append_right _ (List.mem_append_right _ (List.mem_append_left _ (List.mem_of_getElem? (i := 132) rfl))))), List.forall_mem_cons.mpr ⟨(List.mem_append_right _ (List.mem_append_right _ (List.mem_append_right _ (List.mem_append_left _ (List.mem_of_getElem? (i := 133) rfl))))), List.forall_mem_cons.mpr ⟨(List.mem_append_right _ (List.mem_append_right _ (List.mem_append_right _ (List.mem_append_left _ (List.mem_of_getElem? (i := 135) rfl))))), List.forall_mem_cons.mpr ⟨(List.mem_append_right _ (List.mem_append_right _ (List.mem_append_right _ (List.mem_append_left _ (List.mem_of_getElem? (i := 162) rfl))))), List.forall_mem_cons.mpr ⟨(List.mem_append_right _ (List.mem_append_right _ (List.mem_append_right _ (List.mem_append_left _ (List.mem_of_getElem? (i := 136) rfl))))), List.forall_mem_cons.mpr ⟨(List.mem_append_right _ (List.mem_append_right _ (List.mem_append_right _ (List.mem_append_left _ (List.mem_of_getElem? (i := 137) rfl))))), List.forall_mem_cons.mpr ⟨(List.mem_append_right _ (List.mem_append_right _ (List.mem_append_right _ (List.mem_append_left _ (List.mem_of_getElem? (i := 169) rfl))))), List.forall_mem_cons.mpr ⟨(List.mem_append_right _ (List.mem_append_right _ (List.mem_append_right _ (List.mem_append_left _ (List.mem_of_getElem? (i := 173) rfl))))), List.forall_mem_cons.mpr ⟨(List.mem_append_right _ (List.mem_append_right _ (List.mem_append_right _ (List.mem_append_left _ (List.mem_of_getElem? (i := 177) rfl))))), List.forall_mem_cons.mpr ⟨(List.mem_append_right _ (List.mem_append_right _ (List.mem_append_right _ (List.mem_append_left _ (List.mem_of_getElem? (i := 134) rfl))))), fun _ h => absurd h List.not_mem_nil⟩⟩⟩⟩⟩⟩⟩⟩⟩⟩⟩⟩⟩⟩⟩⟩⟩⟩⟩⟩⟩⟩⟩⟩⟩
theorem bg_16 : B16.all goodWord = true := by decide +kernel
theorem bi_17 : ∀ w ∈ B17, w ∈ lw_tbl := List.forall_mem_cons.mpr ⟨(List.mem_append_right _ (List.mem_append_right _ (List.mem_append_right _ (List.mem_append_left _ (List.mem_of_getElem? (i := 197) rfl))))), List.forall_mem_cons.mpr ⟨(List.mem_append_right _ (List.mem_append_right _ (List.mem_append_right _ (List.mem_append_left _ (List.mem_of_getElem? (i := 167) rfl))))), List.forall_mem_cons.mpr ⟨(List.mem_append_right _ (List.mem_append_right _ (List.mem_append_right _ (List.mem_append_left _ (List.mem_of_getElem? (i := 168) rfl))))), List.forall_mem_cons.mpr ⟨(List.mem_append_right _ (List.mem_append_left _ (List.mem_of_getElem? (i := 5) rfl))), List.forall_mem_cons.mpr ⟨(List.mem_append_right _ (List.mem_append_right _ (List.mem_append_right _ (List.mem_append_right _ (List.mem_of_getElem? (i := 1) rfl))))), List.forall_mem_cons.mpr ⟨(List.mem_append_right _ (List.mem_append_right _ (List.mem_append_right _ (List.mem_append_left _ (List.mem_of_getElem? (i := 201) rfl))))), List.forall_mem_cons.mpr ⟨(List.mem_append_right _ (List.mem_append_right _ (List.mem_append_right _ (List.mem_append_left _ (List.mem_of_getElem? (i := 225) rfl))))), List.forall_mem_cons.mpr ⟨(List.mem_append_right _ (List.mem_append_right _ (List.mem_append_right _ (List.mem_append_right _ (List.mem_of_getElem? (i := 21) rfl))))), List.forall_mem_cons.mpr ⟨(List.mem_append_right _ (List.mem_append_right _ (List.mem_append_right _ (List.mem_append_left _ (List.mem_of_getElem? (i := 198) rfl))))), List.forall_mem_cons.mpr ⟨(List.mem_append_right _ (List.mem_append_right _ (List.mem_append_right _ (List.mem_append_left _ (List.mem_of_getElem? (i := 200) rfl))))), List.forall_mem_cons.mpr ⟨(List.mem_append_left _ (List.mem_of_getElem? (i := 70) rfl)), List.forall_mem_cons.mpr ⟨(List.mem_append_right _ (List.mem_append_right _ (List.mem_append_right _ (List.mem_append_left _ (List.mem_of_getElem? (i := 221) rfl))))), List.forall_mem_cons.mpr ⟨(List.mem_append_right _ (List.mem_append_right _ (List.mem_append_right _ (List.mem_append_left _ (List.mem_of_getElem? (i := 222) rfl))))), List.forall_mem_cons.mpr ⟨(List.mem_append_right _ (List.mem_append_right _ (List.mem_append_right _ (List.mem_append_left _ (List.mem_of_getElem? (i := 224) rfl))))), List.forall_mem_cons.mpr ⟨(List.mem_append_left _ (List.mem_of_getElem? (i := 74) rfl)), List.forall_mem_cons.mpr ⟨(List.mem_append_right _ (List.mem_append_right _ (List.mem_append_right _ (List.mem_append_right _ (List.mem_of_getElem? (i := 25) rfl))))), List.forall_mem_cons.mpr ⟨(List.mem_append_right _ (List.mem_append_right _ (List.mem_append_right _ (List.mem_append_left _ (List.mem_of_getElem? (i := 218) rfl))))), List.forall_mem_cons.mpr ⟨(List.mem_append_right _ (List.mem_append_right _ (List.mem_append_right _ (List.mem_append_left _ (List.mem_of_getElem? (i := 220) rfl))))), List.forall_mem_cons.mpr ⟨(List.mem_append_left _ (List.mem_of_getElem? (i := 73) rfl)), List.forall_mem_cons.mpr ⟨(List.mem_append_right _ (List.mem_append_right _ (List.mem_append_right _ (List.mem_append_right _ (List.mem_of_getElem? (i := 17) rfl))))), List.forall_mem_cons.mpr ⟨(List.mem_append_right _ (List.mem_append_right _ (List.mem_append_right _ (List.mem_append_right _ (List.mem_of_getElem? (i := 14) rfl))))), List.forall_mem_cons.mpr ⟨(List.mem_append_right _ (List.mem_append_right _ (List.mem_append_right _ (List.mem_append_right _ (List.mem_of_getElem? (i := 16) rfl))))), List.forall_mem_cons.mpr ⟨(List.mem_append_left _ (List.mem_of_getElem? (i := 81) rfl)), List.forall_mem_cons.mpr ⟨(List.mem_append_right _ (List.mem_append_right _ (List.mem_append_right _ (List.mem_append_right _ (List.mem_of_getElem? (i := 18) rfl))))), List.forall_mem_cons.mpr ⟨(List.mem_append_right _ (List.mem_append_right _ (List.mem_append_right _ (List.mem_append_right _ (List.mem_of_getElem? (i := 20) rfl))))), fun _ h => absurd h List.not_mem_nil⟩⟩⟩⟩⟩⟩⟩⟩⟩⟩⟩⟩⟩⟩⟩⟩⟩⟩⟩⟩⟩⟩⟩⟩⟩
theorem bg_17 : B17.all goodWord = true := by decide +kernel
theorem bi_18 : ∀ w ∈ B18, w ∈ lw_tbl := List.forall_mem_cons.mpr ⟨(List.mem_append_left _ (List.mem_of_getElem? (i := 82) rfl)), List.forall_mem_cons.mpr ⟨(List.mem_append_right _ (List.mem_append_right _ (List.mem_append_right _ (List.mem_append_right _ (List.mem_of_getElem? (i := 22) rfl))))), List.forall_mem_cons.mpr ⟨(List.mem_append_right _ (List.mem_append_right _ (List.mem_append_right _ (List.mem_append_right _ (List.mem_of_getElem? (i := 24) rfl))))), List.forall_mem_cons.mpr ⟨(List.mem_append_left _ (List.mem_of_getElem? (i := 83) rfl)), List.forall_mem_cons.mpr ⟨(List.mem_append_right _ (List.mem_append_right _ (List.mem_append_right _ (List.mem_append_right _ (List.mem_of_getElem? (i := 13) rfl))))), List.forall_mem_cons.mpr ⟨(List.mem_append_right _ (List.mem_append_right _ (List.mem_append_right _ (List.mem_append_right _ (List.mem_of_getElem? (i := 9) rfl))))), List.forall_mem_cons.mpr ⟨(List.mem_append_right _ (List.mem_append_right _ (List.mem_append_right _ (List.mem_append_right _ (List.mem_of_getElem? (i := 6) rfl))))), List.forall_mem_cons.mpr ⟨(List.mem_append_right _ (List.mem_append_right _ (List.mem_append_right _ (List.mem_append_right _ (List.mem_of_getElem? (i := 8) rfl))))), List.forall_mem_cons.mpr ⟨(List.mem_append_left _ (List.mem_of_getElem? (i := 79) rfl)), List.forall_mem_cons.mpr ⟨(List.mem_append_right _ (List.mem_append_right _ (List.mem_append_right _ (List.mem_append_right _ (List.mem_of_getElem? (i := 10) rfl))))), List.forall_mem_cons.mpr ⟨(List.mem_append_right _ (List.mem_append_right _ (List.mem_append_right _ (List.mem_append_right _ (List.mem_of_getElem? (i := 12) rfl))))), List.forall_mem_cons.mpr ⟨(List.mem_append_left _ (List.mem_of_getElem? (i := 80) rfl)), List.forall_mem_cons.mpr ⟨(List.mem_append_right _ (List.mem_append_right _ (List.mem_append_right _ (List.mem_append_right _ (List.mem_of_getElem? (i := 5) rfl))))), List.forall_mem_cons.mpr ⟨(List.mem_append_right _ (List.mem_append_right _ (List.mem_append_right _ (List.mem_append_right _ (List.mem_of_getElem? (i := 2) rfl))))), List.forall_mem_cons.mpr ⟨(List.mem_append_right _ (List.mem_append_right _ (List.mem_append_right _ (List.mem_append_right _ (List.mem_of_getElem? (i := 4) rfl))))), List.forall_mem_cons.mpr ⟨(List.mem_append_left _ (List.mem_of_getElem? (i := 78) rfl)), List.forall_mem_cons.mpr ⟨(List.mem_append_right _ (List.mem_append_right _ (List.mem_append_right _ (List.mem_append_right _ (List.mem_of_getElem? (i := 48) rfl))))), List.forall_mem_cons.mpr ⟨(List.mem_append_right _ (List.mem_append_right _ (List.mem_append_right _ (List.mem_append_right _ (List.mem_of_getElem? (i := 56) rfl))))), List.forall_mem_cons.mpr ⟨(List.mem_append_right _ (List.mem_append_right _ (List.mem_append_right _ (List.mem_append_right _ (List.mem_of_getElem? (i := 52) rfl))))), List.forall_mem_cons.mpr ⟨(List.mem_append_right _ (List.mem_append_right _ (List.mem_append_right _ (List.mem_append_right _ (List.mem_of_getElem? (i := 53) rfl))))), List.forall_mem_cons.mpr ⟨(List.mem_append_right _ (List.mem_append_right _ (List.mem_append_right _ (List.mem_append_right _ (List.mem_of_getElem? (i := 55) rfl))))), List.forall_mem_cons.mpr ⟨(List.mem_append_left _ (List.mem_of_getElem? (i := 89) rfl)), List.forall_mem_cons.mpr ⟨(List.mem_append_right _ (List.mem_append_right _ (List.mem_append_right _ (List.mem_append_left _ (List.mem_of_getElem? (i := 229) rfl))))), List.forall_mem_cons.mpr ⟨(List.mem_append_right _ (List.mem_append_right _ (List.mem_append_right _ (List.mem_append_right _ (List.mem_of_getElem? (i := 29) rfl))))), List.forall_mem_cons.mpr ⟨(List.mem_append_right _ (List.mem_append_right _ (List.mem_append_right _ (List.mem_append_right _ (List.mem_of_getElem? (i := 60) rfl))))), fun _ h => absurd h List.not_mem_nil⟩⟩⟩⟩⟩⟩⟩⟩⟩⟩⟩⟩⟩⟩⟩⟩⟩⟩⟩⟩⟩⟩⟩⟩⟩
theorem bg_18 : B18.all goodWord = true := by decide +kernel
theorem bi_19 : ∀ w ∈ B19, w ∈ lw_tbl := List.forall_mem_cons.mpr ⟨(List.mem_append_right _ (List.mem_append_right _ (List.mem_append_right _ (List.mem_append_right _ (List.mem_of_getElem? (i := 33) rfl))))), List.forall_mem_cons.mpr ⟨(List.mem_append_right _ (List.mem_append_right _ (List.mem_append_right _ (List.mem_append_right _ (List.mem_of_getElem? (i := 36) rfl))))), List.forall_mem_cons.mpr ⟨(List.mem_append_right _ (List.mem_append_right _ (List.mem_append_right _ (List.mem_append_right _ (List.mem_of_getElem? (i := 45) rfl))))), List.forall_mem_cons.mpr ⟨(List.mem_append_right _ (List.mem_append_right _ (List.mem_append_right _ (List.mem_append_right _ (List.mem_of_getElem? (i := 47) rfl))))), List.forall_mem_cons.mpr ⟨(List.mem_append_left _ (List.mem_of_getElem? (i := 87) rfl)), List.forall_mem_cons.mpr ⟨(List.mem_append_right _ (List.mem_append_right _ (List.mem_append_right _ (List.mem_append_right _ (List.mem_of_getElem? (i := 80) rfl))))), List.forall_mem_cons.mpr ⟨(List.mem_append_right _ (List.mem_append_right _ (List.mem_append_right _ (List.mem_append_left _ (List.mem_of_getElem? (i := 185) rfl))))), List.forall_mem_cons.mpr ⟨(List.mem_append_right _ (List.mem_append_right _ (List.mem_append_right _ (List.mem_append_left _ (List.mem_of_getElem? (i := 193) rfl))))), List.forall_mem_cons.mpr ⟨(List.mem_append_right _ (List.mem_append_right _ (List.mem_append_right _ (List.mem_append_left _ (List.mem_of_getElem? (i := 194) rfl))))), List.forall_mem_cons.mpr ⟨(List.mem_append_right _ (List.mem_append_right _ (List.mem_append_right _ (List.mem_append_left _ (List.mem_of_getElem? (i := 196) rfl))))), List.forall_mem_cons.mpr ⟨(List.mem_append_left _ (List.mem_of_getElem? (i := 69) rfl)), List.forall_mem_cons.mpr ⟨(List.mem_append_right _ (List.mem_append_right _ (List.mem_append_right _ (List.mem_append_left _ (List.mem_of_getElem? (i := 209) rfl))))), List.forall_mem_cons.mpr ⟨(List.mem_append_right _ (List.mem_append_right _ (List.mem_append_right _ (List.mem_append_left _ (List.mem_of_getElem? (i := 217) rfl))))), List.forall_mem_cons.mpr ⟨(List.mem_append_right _ (List.mem_append_right _ (List.mem_append_right _ (List.mem_append_left _ (List.mem_of_getElem? (i := 226) rfl))))), List.forall_mem_cons.mpr ⟨(List.mem_append_right _ (List.mem_append_right _ (List.mem_append_right _ (List.mem_append_left _ (List.mem_of_getElem? (i := 228) rfl))))), List.forall_mem_cons.mpr ⟨(List.mem_append_left _ (List.mem_of_getElem? (i := 75) rfl)), List.forall_mem_cons.mpr ⟨(List.mem_append_right _ (List.mem_append_right _ (List.mem_append_right _ (List.mem_append_left _ (List.mem_of_getElem? (i := 238) rfl))))), List.forall_mem_cons.mpr ⟨(List.mem_append_right _ (List.mem_append_right _ (List.mem_append_right _ (List.mem_append_right _ (List.mem_of_getElem? (i := 0) rfl))))), List.forall_mem_cons.mpr ⟨(List.mem_append_left _ (List.mem_of_getElem? (i := 77) rfl)), List.forall_mem_cons.mpr ⟨(List.mem_append_right _ (List.mem_append_right _ (List.mem_append_right _ (List.mem_append_right _ (List.mem_of_getElem? (i := 26) rfl))))), List.forall_mem_cons.mpr ⟨(List.mem_append_right _ (List.mem_append_right _ (List.mem_append_right _ (List.mem_append_right _ (List.mem_of_getElem? (i := 28) rfl))))), List.forall_mem_cons.mpr ⟨(List.mem_append_left _ (List.mem_of_getElem? (i := 84) rfl)), List.forall_mem_cons.mpr ⟨(List.mem_append_right _ (List.mem_append_right _ (List.mem_append_right _ (List.mem_append_right _ (List.mem_of_getElem? (i := 30) rfl))))), List.forall_mem_cons.mpr ⟨(List.mem_append_right _ (List.mem_append_right _ (List.mem_append_right _ (List.mem_append_right _ (List.mem_of_getElem? (i := 32) rfl))))), List.forall_mem_cons.mpr ⟨(List.mem_append_left _ (List.mem_of_getElem? (i := 85) rfl)), fun _ h => absurd h List.not_mem_nil⟩⟩⟩⟩⟩⟩⟩⟩⟩⟩⟩⟩⟩⟩⟩⟩⟩⟩⟩⟩⟩⟩⟩⟩⟩
theorem bg_19 : B19.all goodWord = true := by decide +kernel
theorem bi_20 : ∀ w ∈ B20, w ∈ lw_tbl := List.forall_mem_cons.mpr ⟨(List.mem_append_right _ (List.mem_append_right _ (List.mem_append_right _ (List.mem_append_right _ (List.mem_of_getElem? (i := 34) rfl))))), List.forall_mem_cons.mpr ⟨(List.mem_append_right _ (List.mem_append_right _ (List.mem_append_right _ (List.mem_append_right _ (List.mem_of_getElem? (i := 35) rfl))))), List.forall_mem_cons.mpr ⟨(List.mem_append_right _ (List.mem_append_right _ (List.mem_append_right _ (List.mem_append_left _ (List.mem_of_getElem? (i := 237) rfl))))), List.forall_mem_cons.mpr ⟨(List.mem_append_right _ (List.mem_append_right _ (List.mem_append_right _ (List.mem_append_right _ (List.mem_of_getElem? (i := 49) rfl))))), List.forall_mem_cons.mpr ⟨(List.mem_append_right _ (List.mem_append_right _ (List.mem_append_right _ (List.mem_append_right _ (List.mem_of_getElem? (i := 51) rfl))))), List.forall_mem_cons.mpr ⟨(List.mem_append_left _ (List.mem_of_getElem? (i := 88) rfl)), List.forall_mem_cons.mpr ⟨(List.mem_append_right _ (List.mem_append_right _ (List.mem_append_right _ (List.mem_append_right _ (List.mem_of_getElem? (i := 57) rfl))))), List.forall_mem_cons.mpr ⟨(List.mem_append_right _ (List.mem_append_right _ (List.mem_append_right _ (List.mem_append_right _ (List.mem_of_getElem? (i := 59) rfl))))), List.forall_mem_cons.mpr ⟨(List.mem_append_left _ (List.mem_of_getElem? (i := 90) rfl)), List.forall_mem_cons.mpr ⟨(List.mem_append_right _ (List.mem_append_right _ (List.mem_append_right _ (List.mem_append_right _ (List.mem_of_getElem? (i := 44) rfl))))), List.forall_mem_cons.mpr ⟨(List.mem_append_right _ (List.mem_append_right _ (List.mem_append_right _ (List.mem_append_right _ (List.mem_of_getElem? (i := 68) rfl))))), List.forall_mem_cons.mpr ⟨(List.mem_append_right _ (List.mem_append_right _ (List.mem_append_right _ (List.mem_append_right _ (List.mem_of_getElem? (i := 77) rfl))))), List.forall_mem_cons.mpr ⟨(List.mem_append_right _ (List.mem_append_right _ (List.mem_append_right _ (List.mem_append_right _ (List.mem_of_getElem? (i := 79) rfl))))), List.forall_mem_cons.mpr ⟨(List.mem_append_left _ (List.mem_of_getElem? (i := 93) rfl)), List.forall_mem_cons.mpr ⟨(List.mem_append_right _ (List.mem_append_right _ (List.mem_append_right _ (List.mem_append_right _ (List.mem_of_getElem? (i := 76) rfl))))), List.forall_mem_cons.mpr ⟨(List.mem_append_right _ (List.mem_append_right _ (List.mem_append_right _ (List.mem_append_left _ (List.mem_of_getElem? (i := 166) rfl))))), List.forall_mem_cons.mpr ⟨(List.mem_append_right _ (List.mem_append_right _ (List.mem_append_right _ (List.mem_append_left _ (List.mem_of_getElem? (i := 170) rfl))))), List.forall_mem_cons.mpr ⟨(List.mem_append_right _ (List.mem_append_right _ (List.mem_append_right _ (List.mem_append_left _ (List.mem_of_getElem? (i := 172) rfl))))), List.forall_mem_cons.mpr ⟨(List.mem_append_left _ (List.mem_of_getElem? (i := 65) rfl)), List.forall_mem_cons.mpr ⟨(List.mem_append_right _ (List.mem_append_right _ (List.mem_append_right _ (List.mem_append_left _ (List.mem_of_getElem? (i := 174) rfl))))), List.forall_mem_cons.mpr ⟨(List.mem_append_right _ (List.mem_append_right _ (List.mem_append_right _ (List.mem_append_left _ (List.mem_of_getElem? (i := 176) rfl))))), List.forall_mem_cons.mpr ⟨(List.mem_append_left _ (List.mem_of_getElem? (i := 66) rfl)), List.forall_mem_cons.mpr ⟨(List.mem_append_right _ (List.mem_append_right _ (List.mem_append_right _ (List.mem_append_left _ (List.mem_of_getElem? (i := 181) rfl))))), List.forall_mem_cons.mpr ⟨(List.mem_append_right _ (List.mem_append_right _ (List.mem_append_right _ (List.mem_append_left _ (List.mem_of_getElem? (i := 182) rfl))))), List.forall_mem_cons.mpr ⟨(List.mem_append_right _ (List.mem_append_right _ (List.mem_append_right _ (List.mem_append_left _ (List.mem_of_getElem? (i := 184) rfl))))), fun _ h => absurd h List.not_mem_nil⟩⟩⟩⟩⟩⟩⟩⟩⟩⟩⟩⟩⟩⟩⟩⟩⟩⟩⟩⟩⟩⟩⟩⟩⟩
theorem bg_20 : B20.all goodWord = true := by decide +kernel
theorem bi_21 : ∀ w ∈ B21, w ∈ lw_tbl := List.forall_mem_cons.mpr ⟨(List.mem_append_left _ (List.mem_of_getElem? (i := 67) rfl)), List.forall_mem_cons.mpr ⟨(List.mem_append_right _ (List.mem_append_right _ (List.mem_append_right _ (List.mem_append_left _ (List.mem_of_getElem? (i := 190) rfl))))), List.forall_mem_cons.mpr ⟨(List.mem_append_right _ (List.mem_append_right _ (List.mem_append_right _ (List.mem_append_left _ (List.mem_of_getElem? (i := 192) rfl))))), List.forall_mem_cons.mpr ⟨(List.mem_append_left _ (List.mem_of_getElem? (i := 68) rfl)), List.forall_mem_cons.mpr ⟨(List.mem_append_right _ (List.mem_append_right _ (List.mem_append_right _ (List.mem_append_left _ (List.mem_of_getElem? (i := 189) rfl))))), List.forall_mem_cons.mpr ⟨(List.mem_append_right _ (List.mem_append_right _ (List.mem_append_right _ (List.mem_append_left _ (List.mem_of_getElem? (i := 205) rfl))))), List.forall_mem_cons.mpr ⟨(List.mem_append_right _ (List.mem_append_right _ (List.mem_append_right _ (List.mem_append_left _ (List.mem_of_getElem? (i := 206) rfl))))), List.forall_mem_cons.mpr ⟨(List.mem_append_right _ (List.mem_append_right _ (List.mem_append_right _ (List.mem_append_left _ (List.mem_of_getElem? (i := 208) rfl))))), List.forall_mem_cons.mpr ⟨(List.mem_append_left _ (List.mem_of_getElem? (i := 71) rfl)), List.forall_mem_cons.mpr ⟨(List.mem_append_right _ (List.mem_append_right _ (List.mem_append_right _ (List.mem_append_left _ (List.mem_of_getElem? (i := 214) rfl))))), List.forall_mem_cons.mpr ⟨(List.mem_append_right _ (List.mem_append_right _ (List.mem_append_right _ (List.mem_append_left _ (List.mem_of_getElem? (i := 216) rfl))))), List.forall_mem_cons.mpr ⟨(List.mem_append_left _ (List.mem_of_getElem? (i := 72) rfl)), List.forall_mem_cons.mpr ⟨(List.mem_append_right _ (List.mem_append_right _ (List.mem_append_right _ (List.mem_append_left _ (List.mem_of_getElem? (i := 213) rfl))))), List.forall_mem_cons.mpr ⟨(List.mem_append_right _ (List.mem_append_right _ (List.mem_append_right _ (List.mem_append_left _ (List.mem_of_getElem? (i := 234) rfl))))), List.forall_mem_cons.mpr ⟨(List.mem_append_right _ (List.mem_append_right _ (List.mem_append_right _ (List.mem_append_left _ (List.mem_of_getElem? (i := 236) rfl))))), List.forall_mem_cons.mpr ⟨(List.mem_append_left _ (List.mem_of_getElem? (i := 76) rfl)), List.forall_mem_cons.mpr ⟨(List.mem_append_right _ (List.mem_append_right _ (List.mem_append_right _ (List.mem_append_left _ (List.mem_of_getElem? (i := 233) rfl))))), List.forall_mem_cons.mpr ⟨(List.mem_append_right _ (List.mem_append_right _ (List.mem_append_right _ (List.mem_append_right _ (List.mem_of_getElem? (i := 41) rfl))))), List.forall_mem_cons.mpr ⟨(List.mem_append_right _ (List.mem_append_right _ (List.mem_append_right _ (List.mem_append_right _ (List.mem_of_getElem? (i := 43) rfl))))), List.forall_mem_cons.mpr ⟨(List.mem_append_left _ (List.mem_of_getElem? (i := 86) rfl)), List.forall_mem_cons.mpr ⟨(List.mem_append_right _ (List.mem_append_right _ (List.mem_append_right _ (List.mem_append_right _ (List.mem_of_getElem? (i := 40) rfl))))), List.forall_mem_cons.mpr ⟨(List.mem_append_right _ (List.mem_append_right _ (List.mem_append_right _ (List.mem_append_right _ (List.mem_of_getElem? (i := 65) rfl))))), List.forall_mem_cons.mpr ⟨(List.mem_append_right _ (List.mem_append_right _ (List.mem_append_right _ (List.mem_append_right _ (List.mem_of_getElem? (i := 67) rfl))))), List.forall_mem_cons.mpr ⟨(List.mem_append_left _ (List.mem_of_getElem? (i := 91) rfl)), List.forall_mem_cons.mpr ⟨(List.mem_append_right _ (List.mem_append_right _ (List.mem_append_right _ (List.mem_append_right _ (List.mem_of_getElem? (i := 64) rfl))))), fun _ h => absurd h List.not_mem_nil⟩⟩⟩⟩⟩⟩⟩⟩⟩⟩⟩⟩⟩⟩⟩⟩⟩⟩⟩⟩⟩⟩⟩⟩⟩
theorem bg_21 : B21.all goodWord = true := by decide +kernel
theorem bi_22 : ∀ w ∈ B22, w ∈ lw_tbl := List.forall_mem_cons.mpr ⟨(List.mem_append_right _ (List.mem_append_right _ (List.mem_append_right _ (List.mem_append_right _ (List.mem_of_getElem? (i := 73) rfl))))), List.forall_mem_cons.mpr ⟨(List.mem_append_right _ (List.mem_append_right _ (List.mem_append_right _ (List.mem_append_right _ (List.mem_of_getElem? (i := 75) rfl))))), List.forall_mem_cons.mpr ⟨(List.mem_append_left _ (List.mem_of_getElem? (i := 92) rfl)), List.forall_mem_cons.mpr ⟨(List.mem_append_right _ (List.mem_append_right _ (List.mem_append_right _ (List.mem_append_right _ (List.mem_of_getElem? (i := 72) rfl))))), List.forall_mem_cons.mpr ⟨(List.mem_append_right _ (List.mem_append_right _ (List.mem_append_right _ (List.mem_append_right _ (List.mem_of_getElem? (i := 92) rfl))))), List.forall_mem_cons.mpr ⟨(List.mem_append_right _ (List.mem_append_right _ (List.mem_append_right _ (List.mem_append_right _ (List.mem_of_getElem? (i := 96) rfl))))), List.forall_mem_cons.mpr ⟨(List.mem_append_right _ (List.mem_append_right _ (List.mem_append_right _ (List.mem_append_right _ (List.mem_of_getElem? (i := 88) rfl))))), List.forall_mem_cons.mpr ⟨(List.mem_append_right _ (List.mem_append_right _ (List.mem_append_right _ (List.mem_append_right _ (List.mem_of_getElem? (i := 85) rfl))))), List.forall_mem_cons.mpr ⟨(List.mem_append_right _ (List.mem_append_right _ (List.mem_append_right _ (List.mem_append_right _ (List.mem_of_getElem? (i := 87) rfl))))), List.forall_mem_cons.mpr ⟨(List.mem_append_left _ (List.mem_of_getElem? (i := 94) rfl)), List.forall_mem_cons.mpr ⟨(List.mem_append_right _ (List.mem_append_right _ (List.mem_append_right _ (List.mem_append_right _ (List.mem_of_getElem? (i := 89) rfl))))), List.forall_mem_cons.mpr ⟨(List.mem_append_right _ (List.mem_append_right _ (List.mem_append_right _ (List.mem_append_right _ (List.mem_of_getElem? (i := 91) rfl))))), List.forall_mem_cons.mpr ⟨(List.mem_append_left _ (List.mem_of_getElem? (i := 95) rfl)), List.forall_mem_cons.mpr ⟨(List.mem_append_right _ (List.mem_append_right _ (List.mem_append_right _ (List.mem_append_right _ (List.mem_of_getElem? (i := 93) rfl))))), List.forall_mem_cons.mpr ⟨(List.mem_append_right _ (List.mem_append_right _ (List.mem_append_right _ (List.mem_append_right _ (List.mem_of_getElem? (i := 95) rfl))))), List.forall_mem_cons.mpr ⟨(List.mem_append_left _ (List.mem_of_getElem? (i := 96) rfl)), List.forall_mem_cons.mpr ⟨(List.mem_append_right _ (List.mem_append_right _ (List.mem_append_right _ (List.mem_append_right _ (List.mem_of_getElem? (i := 84) rfl))))), List.forall_mem_cons.mpr ⟨(List.mem_append_right _ (List.mem_append_right _ (List.mem_append_right _ (List.mem_append_right _ (List.mem_of_getElem? (i := 100) rfl))))), List.forall_mem_cons.mpr ⟨(List.mem_append_right _ (List.mem_append_right _ (List.mem_append_right _ (List.mem_append_right _ (List.mem_of_getElem? (i := 104) rfl))))), List.forall_mem_cons.mpr ⟨(List.mem_append_right _ (List.mem_append_right _ (List.mem_append_right _ (List.mem_append_right _ (List.mem_of_getElem? (i := 112) rfl))))), List.forall_mem_cons.mpr ⟨(List.mem_append_right _ (List.mem_append_right _ (List.mem_append_right _ (List.mem_append_right _ (List.mem_of_getElem? (i := 108) rfl))))), List.forall_mem_cons.mpr ⟨(List.mem_append_right _ (List.mem_append_right _ (List.mem_append_right _ (List.mem_append_right _ (List.mem_of_getElem? (i := 109) rfl))))), List.forall_mem_cons.mpr ⟨(List.mem_append_right _ (List.mem_append_right _ (List.mem_append_right _ (List.mem_append_right _ (List.mem_of_getElem? (i := 111) rfl))))), List.forall_mem_cons.mpr ⟨(List.mem_append_left _ (List.mem_of_getElem? (i := 97) rfl)), List.forall_mem_cons.mpr ⟨(List.mem_append_right _ (List.mem_append_right _ (List.mem_append_right _ (List.mem_append_right _ (List.mem_of_getElem? (i := 116) rfl))))), fun _ h => absurd h List.not_mem_nil⟩⟩⟩⟩⟩⟩⟩⟩⟩⟩⟩⟩⟩⟩⟩⟩⟩⟩⟩⟩⟩⟩⟩⟩⟩
theorem bg_22 : B22.all goodWord = true := by decide +kernel
theorem bi_23 : ∀ w ∈ B23, w ∈ lw_tbl := List.forall_mem_cons.mpr ⟨(List.mem_append_right _ (List.mem_append_right _ (List.mem_append_right _ (List.mem_append_right _ (List.mem_of_getElem? (i := 124) rfl))))), List.forall_mem_cons.mpr ⟨(List.mem_append_right _ (List.mem_append_right _ (List.mem_append_right _ (List.mem_append_left _ (List.mem_of_getElem? (i := 138) rfl))))), List.forall_mem_cons.mpr ⟨(List.mem_append_right _ (List.mem_append_right _ (List.mem_append_right _ (List.mem_append_right _ (List.mem_of_getElem? (i := 121) rfl))))), List.forall_mem_cons.mpr ⟨(List.mem_append_right _ (List.mem_append_right _ (List.mem_append_right _ (List.mem_append_right _ (List.mem_of_getElem? (i := 123) rfl))))), List.forall_mem_cons.mpr ⟨(List.mem_append_left _ (List.mem_of_getElem? (i := 98) rfl)), List.forall_mem_cons.mpr ⟨(List.mem_append_right _ (List.mem_append_right _ (List.mem_append_right _ (List.mem_append_right _ (List.mem_of_getElem? (i := 120) rfl))))), List.forall_mem_cons.mpr ⟨(List.mem_append_right _ (List.mem_append_right _ (List.mem_append_right _ (List.mem_append_right _ (List.mem_of_getElem? (i := 128) rfl))))), List.forall_mem_cons.mpr ⟨(List.mem_append_right _ (List.mem_append_right _ (List.mem_append_right _ (List.mem_append_right _ (List.mem_of_getElem? (i := 132) rfl))))), List.forall_mem_cons.mpr ⟨(List.mem_append_right _ (List.mem_append_right _ (List.mem_append_right _ (List.mem_append_right _ (List.mem_of_getElem? (i := 136) rfl))))), List.forall_mem_cons.mpr ⟨(List.mem_append_right _ (List.mem_append_right _ (List.mem_append_right _ (List.mem_append_right _ (List.mem_of_getElem? (i := 140) rfl))))), List.forall_mem_cons.mpr ⟨(List.mem_append_right _ (List.mem_append_right _ (List.mem_append_right _ (List.mem_append_right _ (List.mem_of_getElem? (i := 144) rfl))))), List.forall_mem_cons.mpr ⟨(List.mem_append_right _ (List.mem_append_right _ (List.mem_append_right _ (List.mem_append_right _ (List.mem_of_getElem? (i := 148) rfl))))), List.forall_mem_cons.mpr ⟨(List.mem_append_right _ (List.mem_append_right _ (List.mem_append_right _ (List.mem_append_right _ (List.mem_of_getElem? (i := 155) rfl))))), List.forall_mem_cons.mpr ⟨(List.mem_append_right _ (List.mem_append_right _ (List.mem_append_right _ (List.mem_append_right _ (List.mem_of_getElem? (i := 156) rfl))))), List.forall_mem_cons.mpr ⟨(List.mem_append_right _ (List.mem_append_right _ (List.mem_append_right _ (List.mem_append_right _ (List.mem_of_getElem? (i := 152) rfl))))), List.forall_mem_cons.mpr ⟨(List.mem_append_right _ (List.mem_append_right _ (List.mem_append_right _ (List.mem_append_right _ (List.mem_of_getElem? (i := 153) rfl))))), List.forall_mem_cons.mpr ⟨(List.mem_append_right _ (List.mem_append_right _ (List.mem_append_right _ (List.mem_append_right _ (List.mem_of_getElem? (i := 154) rfl))))), List.forall_mem_cons.mpr ⟨(List.mem_append_right _ (List.mem_append_right _ (List.mem_append_right _ (List.mem_append_right _ (List.mem_of_getElem? (i := 160) rfl))))), List.forall_mem_cons.mpr ⟨(List.mem_append_right _ (List.mem_append_right _ (List.mem_append_right _ (List.mem_append_right _ (List.mem_of_getElem? (i := 184) rfl))))), List.forall_mem_cons.mpr ⟨(List.mem_append_right _ (List.mem_append_right _ (List.mem_append_right _ (List.mem_append_left _ (List.mem_of_getElem? (i := 139) rfl))))), List.forall_mem_cons.mpr ⟨(List.mem_append_right _ (List.mem_append_right _ (List.mem_append_right _ (List.mem_append_left _ (List.mem_of_getElem? (i := 140) rfl))))), List.forall_mem_cons.mpr ⟨(List.mem_append_right _ (List.mem_append_right _ (List.mem_append_right _ (List.mem_append_right _ (List.mem_of_getElem? (i := 180) rfl))))), List.forall_mem_cons.mpr ⟨(List.mem_append_right _ (List.mem_append_right _ (List.mem_append_right _ (List.mem_append_right _ (List.mem_of_getElem? (i := 181) rfl))))), List.forall_mem_cons.mpr ⟨(List.mem_append_right _ (List.mem_append_right _ (List.mem_append_right _ (List.mem_append_right _ (List.mem_of_getElem? (i := 183) rfl))))), List.forall_mem_cons.mpr ⟨(List.mem_append_left _ (List.mem_of_getElem? (i := 103) rfl)), fun _ h => absurd h List.not_mem_nil⟩⟩⟩⟩⟩⟩⟩⟩⟩⟩⟩⟩⟩⟩⟩⟩⟩⟩⟩⟩⟩⟩⟩⟩⟩
theorem bg_23 : B23.all goodWord = true := by decide +kernel
theorem bi_24 : ∀ w ∈ B24, w ∈ lw_tbl := List.forall_mem_cons.mpr ⟨(List.mem_append_right _ (List.mem_append_right _ (List.mem_append_right _ (List.mem_append_right _ (List.mem_of_getElem? (i := 176) rfl))))), List.forall_mem_cons.mpr ⟨(List.mem_append_right _ (List.mem_append_right _ (List.mem_append_right _ (List.mem_append_right _ (List.mem_of_getElem? (i := 177) rfl))))), List.forall_mem_cons.mpr ⟨(List.mem_append_right _ (List.mem_append_right _ (List.mem_append_right _ (List.mem_append_right _ (List.mem_of_getElem? (i := 179) rfl))))), List.forall_mem_cons.mpr ⟨(List.mem_append_left _ (List.mem_of_getElem? (i := 102) rfl)), List.forall_mem_cons.mpr ⟨(List.mem_append_right _ (List.mem_append_right _ (List.mem_append_right _ (List.mem_append_right _ (List.mem_of_getElem? (i := 173) rfl))))), List.forall_mem_cons.mpr ⟨(List.mem_append_right _ (List.mem_append_right _ (List.mem_append_right _ (List.mem_append_right _ (List.mem_of_getElem? (i := 175) rfl))))), List.forall_mem_cons.mpr ⟨(List.mem_append_left _ (List.mem_of_getElem? (i := 101) rfl)), List.forall_mem_cons.mpr ⟨(List.mem_append_right _ (List.mem_append_right _ (List.mem_append_right _ (List.mem_append_right _ (List.mem_of_getElem? (i := 172) rfl))))), List.forall_mem_cons.mpr ⟨(List.mem_append_right _ (List.mem_append_right _ (List.mem_append_right _ (List.mem_append_right _ (List.mem_of_getElem? (i := 169) rfl))))), List.forall_mem_cons.mpr ⟨(List.mem_append_right _ (List.mem_append_right _ (List.mem_append_right _ (List.mem_append_right _ (List.mem_of_getElem? (i := 171) rfl))))), List.forall_mem_cons.mpr ⟨(List.mem_append_left _ (List.mem_of_getElem? (i := 100) rfl)), List.forall_mem_cons.mpr ⟨(List.mem_append_right _ (List.mem_append_right _ (List.mem_append_right _ (List.mem_append_right _ (List.mem_of_getElem? (i := 168) rfl))))), List.forall_mem_cons.mpr ⟨(List.mem_append_right _ (List.mem_append_right _ (List.mem_append_right _ (List.mem_append_right _ (List.mem_of_getElem? (i := 165) rfl))))), List.forall_mem_cons.mpr ⟨(List.mem_append_right _ (List.mem_append_right _ (List.mem_append_right _ (List.mem_append_right _ (List.mem_of_getElem? (i := 167) rfl))))), List.forall_mem_cons.mpr ⟨(List.mem_append_left _ (List.mem_of_getElem? (i := 99) rfl)), List.forall_mem_cons.mpr ⟨(List.mem_append_right _ (List.mem_append_right _ (List.mem_append_right _ (List.mem_append_right _ (List.mem_of_getElem? (i := 164) rfl))))), List.forall_mem_cons.mpr ⟨(List.mem_append_right _ (List.mem_append_right _ (List.mem_append_right _ (List.mem_append_right _ (List.mem_of_getElem? (i := 188) rfl))))), List.forall_mem_cons.mpr ⟨(List.mem_append_right _ (List.mem_append_right _ (List.mem_append_right _ (List.mem_append_right _ (List.mem_of_getElem? (i := 192) rfl))))), List.forall_mem_cons.mpr ⟨(List.mem_append_right _ (List.mem_append_right _ (List.mem_append_right _ (List.mem_append_right _ (List.mem_of_getElem? (i := 196) rfl))))), List.forall_mem_cons.mpr ⟨(List.mem_append_right _ (List.mem_append_right _ (List.mem_append_right _ (List.mem_append_right _ (List.mem_of_getElem? (i := 200) rfl))))), List.forall_mem_cons.mpr ⟨(List.mem_append_right _ (List.mem_append_right _ (List.mem_append_left _ (List.mem_of_getElem? (i := 21) rfl)))), List.forall_mem_cons.mpr ⟨(List.mem_append_right _ (List.mem_append_left _ (List.mem_of_getElem? (i := 138) rfl))), List.forall_mem_cons.mpr ⟨(List.mem_append_right _ (List.mem_append_left _ (List.mem_of_getElem? (i := 13) rfl))), List.forall_mem_cons.mpr ⟨(List.mem_append_right _ (List.mem_append_left _ (List.mem_of_getElem? (i := 14) rfl))), List.forall_mem_cons.mpr ⟨(List.mem_append_right _ (List.mem_append_right _ (List.mem_append_right _ (List.mem_append_left _ (List.mem_of_getElem? (i := 125) rfl))))), fun _ h => absurd h List.not_mem_nil⟩⟩⟩⟩⟩⟩⟩⟩⟩⟩⟩⟩⟩⟩⟩⟩⟩⟩⟩⟩⟩⟩⟩⟩⟩
theorem bg_24 : B24.all goodWord = true := by decide +kernel
theorem bi_25 : ∀ w ∈ B25, w ∈ lw_tbl := List.forall_mem_cons.mpr ⟨(List.mem_append_right _ (List.mem_append_right _ (List.mem_append_right _ (List.mem_append_left _ (List.mem_of_getElem? (i := 126) rfl))))), List.forall_mem_cons.mpr ⟨(List.mem_append_right _ (List.mem_append_right _ (List.mem_append_right _ (List.mem_append_right _ (List.mem_of_getElem? (i := 201) rfl))))), List.forall_mem_cons.mpr ⟨(List.mem_append_right _ (List.mem_append_left _ (List.mem_of_getElem? (i := 15) rfl))), List.forall_mem_cons.mpr ⟨(List.mem_append_right _ (List.mem_append_left _ (List.mem_of_getElem? (i := 16) rfl))), List.forall_mem_cons.mpr ⟨(List.mem_append_right _ (List.mem_append_right _ (List.mem_append_right _ (List.mem_append_left _ (List.mem_of_getElem? (i := 127) rfl))))), List.forall_mem_cons.mpr ⟨(List.mem_append_right _ (List.mem_append_right _ (List.mem_append_right _ (List.mem_append_left _ (List.mem_of_getElem? (i := 128) rfl))))), List.forall_mem_cons.mpr ⟨(List.mem_append_right _ (List.mem_append_left _ (List.mem_of_getElem? (i := 113) rfl))), List.forall_mem_cons.mpr ⟨(List.mem_append_right _ (List.mem_append_left _ (List.mem_of_getElem? (i := 114) rfl))), List.forall_mem_cons.mpr ⟨(List.mem_append_right _ (List.mem_append_left _ (List.mem_of_getElem? (i := 115) rfl))), List.forall_mem_cons.mpr ⟨(List.mem_append_right _ (List.mem_append_right _ (List.mem_append_right _ (List.mem_append_left _ (List.mem_of_getElem? (i := 163) rfl))))), List.forall_mem_cons.mpr ⟨(List.mem_append_right _ (List.mem_append_right _ (List.mem_append_right _ (List.mem_append_left _ (List.mem_of_getElem? (i := 164) rfl))))), List.forall_mem_cons.mpr ⟨(List.mem_append_right _ (List.mem_append_right _ (List.mem_append_right _ (List.mem_append_left _ (List.mem_of_getElem? (i := 165) rfl))))), List.forall_mem_cons.mpr ⟨(List.mem_append_right _ (List.mem_append_left _ (List.mem_of_getElem? (i := 161) rfl))), List.forall_mem_cons.mpr ⟨(List.mem_append_right _ (List.mem_append_left _ (List.mem_of_getElem? (i := 162) rfl))), List.forall_mem_cons.mpr ⟨(List.mem_append_right _ (List.mem_append_left _ (List.mem_of_getElem? (i := 163) rfl))), List.forall_mem_cons.mpr ⟨(List.mem_append_right _ (List.mem_append_right _ (List.mem_append_right _ (List.mem_append_left _ (List.mem_of_getElem? (i := 178) rfl))))), List.forall_mem_cons.mpr ⟨(List.mem_append_right _ (List.mem_append_right _ (List.mem_append_right _ (List.mem_append_left _ (List.mem_of_getElem? (i := 179) rfl))))), List.forall_mem_cons.mpr ⟨(List.mem_append_right _ (List.mem_append_right _ (List.mem_append_right _ (List.mem_append_left _ (List.mem_of_getElem? (i := 180) rfl))))), List.forall_mem_cons.mpr ⟨(List.mem_append_right _ (List.mem_append_left _ (List.mem_of_getElem? (i := 172) rfl))), List.forall_mem_cons.mpr ⟨(List.mem_append_right _ (List.mem_append_left _ (List.mem_of_getElem? (i := 173) rfl))), List.forall_mem_cons.mpr ⟨(List.mem_append_right _ (List.mem_append_left _ (List.mem_of_getElem? (i := 174) rfl))), List.forall_mem_cons.mpr ⟨(List.mem_append_right _ (List.mem_append_right _ (List.mem_append_right _ (List.mem_append_left _ (List.mem_of_getElem? (i := 186) rfl))))), List.forall_mem_cons.mpr ⟨(List.mem_append_right _ (List.mem_append_right _ (List.mem_append_right _ (List.mem_append_left _ (List.mem_of_getElem? (i := 187) rfl))))), List.forall_mem_cons.mpr ⟨(List.mem_append_right _ (List.mem_append_right _ (List.mem_append_right _ (List.mem_append_left _ (List.mem_of_getElem? (i := 188) rfl))))), List.forall_mem_cons.mpr ⟨(List.mem_append_right _ (List.mem_append_left _ (List.mem_of_getElem? (i := 184) rfl))), fun _ h => absurd h List.not_mem_nil⟩⟩⟩⟩⟩⟩⟩⟩⟩⟩⟩⟩⟩⟩⟩⟩⟩⟩⟩⟩⟩⟩⟩⟩⟩
theorem bg_25 : B25.all goodWord = true := by decide +kernel
theorem bi_26 : ∀ w ∈ B26, w ∈ lw_tbl := List.forall_mem_cons.mpr ⟨(List.mem_append_right _ (List.mem_append_left _ (List.mem_of_getElem? (i := 185) rfl))), List.forall_mem_cons.mpr ⟨(List.mem_append_right _ (List.mem_append_left _ (List.mem_of_getElem? (i := 186) rfl))), List.forall_mem_cons.mpr ⟨(List.mem_append_right _ (List.mem_append_right _ (List.mem_append_right _ (List.mem_append_left _ (List.mem_of_getElem? (i := 202) rfl))))), List.forall_mem_cons.mpr ⟨(List.mem_append_right _ (List.mem_append_right _ (List.mem_append_right _ (List.mem_append_left _ (List.mem_of_getElem? (i := 203) rfl))))), List.forall_mem_cons.mpr ⟨(List.mem_append_right _ (List.mem_append_right _ (List.mem_append_right _ (List.mem_append_left _ (List.mem_of_getElem? (i := 204) rfl))))), List.forall_mem_cons.mpr ⟨(List.mem_append_right _ (List.mem_append_left _ (List.mem_of_getElem? (i := 192) rfl))), List.forall_mem_cons.mpr ⟨(List.mem_append_right _ (List.mem_append_left _ (List.mem_of_getElem? (i := 193) rfl))), List.forall_mem_cons.mpr ⟨(List.mem_append_right _ (List.mem_append_left _ (List.mem_of_getElem? (i := 194) rfl))), List.forall_mem_cons.mpr ⟨(List.mem_append_right _ (List.mem_append_right _ (List.mem_append_right _ (List.mem_append_left _ (List.mem_of_getElem? (i := 210) rfl))))), List.forall_mem_cons.mpr ⟨(List.mem_append_right _ (List.mem_append_right _ (List.mem_append_right _ (List.mem_append_left _ (List.mem_of_getElem? (i := 211) rfl))))), List.forall_mem_cons.mpr ⟨(List.mem_append_right _ (List.mem_append_right _ (List.mem_append_right _ (List.mem_append_left _ (List.mem_of_getElem? (i := 212) rfl))))), List.forall_mem_cons.mpr ⟨(List.mem_append_right _ (List.mem_append_left _ (List.mem_of_getElem? (i := 223) rfl))), List.forall_mem_cons.mpr ⟨(List.mem_append_right _ (List.mem_append_left _ (List.mem_of_getElem? (i := 224) rfl))), List.forall_mem_cons.mpr ⟨(List.mem_append_right _ (List.mem_append_left _ (List.mem_of_getElem? (i := 225) rfl))), List.forall_mem_cons.mpr ⟨(List.mem_append_right _ (List.mem_append_right _ (List.mem_append_right _ (List.mem_append_left _ (List.mem_of_getElem? (i := 230) rfl))))), List.forall_mem_cons.mpr ⟨(List.mem_append_right _ (List.mem_append_right _ (List.mem_append_right _ (List.mem_append_left _ (List.mem_of_getElem? (i := 231) rfl))))), List.forall_mem_cons.mpr ⟨(List.mem_append_right _ (List.mem_append_right _ (List.mem_append_right _ (List.mem_append_left _ (List.mem_of_getElem? (i := 232) rfl))))), List.forall_mem_cons.mpr ⟨(List.mem_append_right _ (List.mem_append_right _ (List.mem_append_left _ (List.mem_of_getElem? (i := 34) rfl)))), List.forall_mem_cons.mpr ⟨(List.mem_append_right _ (List.mem_append_right _ (List.mem_append_left _ (List.mem_of_getElem? (i := 35) rfl)))), List.forall_mem_cons.mpr ⟨(List.mem_append_right _ (List.mem_append_right _ (List.mem_append_left _ (List.mem_of_getElem? (i := 36) rfl)))), List.forall_mem_cons.mpr ⟨(List.mem_append_right _ (List.mem_append_right _ (List.mem_append_right _ (List.mem_append_right _ (List.mem_of_getElem? (i := 37) rfl))))), List.forall_mem_cons.mpr ⟨(List.mem_append_right _ (List.mem_append_right _ (List.mem_append_right _ (List.mem_append_right _ (List.mem_of_getElem? (i := 38) rfl))))), List.forall_mem_cons.mpr ⟨(List.mem_append_right _ (List.mem_append_right _ (List.mem_append_right _ (List.mem_append_right _ (List.mem_of_getElem? (i := 39) rfl))))), List.forall_mem_cons.mpr ⟨(List.mem_append_right _ (List.mem_append_right _ (List.mem_append_left _ (List.mem_of_getElem? (i := 58) rfl)))), List.forall_mem_cons.mpr ⟨(List.mem_append_right _ (List.mem_append_right _ (List.mem_append_left _ (List.mem_of_getElem? (i := 59) rfl)))), fun _ h => absurd h List.not_mem_nil⟩⟩⟩⟩⟩⟩⟩⟩⟩⟩⟩⟩⟩⟩⟩⟩⟩⟩⟩⟩⟩⟩⟩⟩⟩
theorem bg_26 : B26.all goodWord = true := by decide +kernel
theorem bi_27 : ∀ w ∈ B27, w ∈ lw_tbl := List.forall_mem_cons.mpr ⟨(List.mem_append_right _ (List.mem_append_right _ (List.mem_append_left _ (List.mem_of_getElem? (i := 60) rfl)))), List.forall_mem_cons.mpr ⟨(List.mem_append_right _ (List.mem_append_right _ (List.mem_append_right _ (List.mem_append_right _ (List.mem_of_getElem? (i := 61) rfl))))), List.forall_mem_cons.mpr ⟨(List.mem_append_right _ (List.mem_append_right _ (List.mem_append_right _ (List.mem_append_right _ (List.mem_of_getElem? (i := 62) rfl))))), List.forall_mem_cons.mpr ⟨(List.mem_append_right _ (List.mem_append_right _ (List.mem_append_right _ (List.mem_append_right _ (List.mem_of_getElem? (i := 63) rfl))))), List.forall_mem_cons.mpr ⟨(List.mem_append_right _ (List.mem_append_right _ (List.mem_append_left _ (List.mem_of_getElem? (i := 66) rfl)))), List.forall_mem_cons.mpr ⟨(List.mem_append_right _ (List.mem_append_right _ (List.mem_append_left _ (List.mem_of_getElem? (i := 67) rfl)))), List.forall_mem_cons.mpr ⟨(List.mem_append_right _ (List.mem_append_right _ (List.mem_append_left _ (List.mem_of_getElem? (i := 68) rfl)))), List.forall_mem_cons.mpr ⟨(List.mem_append_right _ (List.mem_append_right _ (List.mem_append_right _ (List.mem_append_right _ (List.mem_of_getElem? (i := 69) rfl))))), List.forall_mem_cons.mpr ⟨(List.mem_append_right _ (List.mem_append_right _ (List.mem_append_right _ (List.mem_append_right _ (List.mem_of_getElem? (i := 70) rfl))))), List.forall_mem_cons.mpr ⟨(List.mem_append_right _ (List.mem_append_right _ (List.mem_append_right _ (List.mem_append_right _ (List.mem_of_getElem? (i := 71) rfl))))), List.forall_mem_cons.mpr ⟨(List.mem_append_right _ (List.mem_append_right _ (List.mem_append_left _ (List.mem_of_getElem? (i := 85) rfl)))), List.forall_mem_cons.mpr ⟨(List.mem_append_right _ (List.mem_append_right _ (List.mem_append_left _ (List.mem_of_getElem? (i := 86) rfl)))), List.forall_mem_cons.mpr ⟨(List.mem_append_right _ (List.mem_append_right _ (List.mem_append_left _ (List.mem_of_getElem? (i := 87) rfl)))), List.forall_mem_cons.mpr ⟨(List.mem_append_right _ (List.mem_append_right _ (List.mem_append_right _ (List.mem_append_right _ (List.mem_of_getElem? (i := 81) rfl))))), List.forall_mem_cons.mpr ⟨(List.mem_append_right _ (List.mem_append_right _ (List.mem_append_right _ (List.mem_append_right _ (List.mem_of_getElem? (i := 82) rfl))))), List.forall_mem_cons.mpr ⟨(List.mem_append_right _ (List.mem_append_right _ (List.mem_append_right _ (List.mem_append_right _ (List.mem_of_getElem? (i := 83) rfl))))), List.forall_mem_cons.mpr ⟨(List.mem_append_right _ (List.mem_append_right _ (List.mem_append_left _ (List.mem_of_getElem? (i := 101) rfl)))), List.forall_mem_cons.mpr ⟨(List.mem_append_right _ (List.mem_append_right _ (List.mem_append_left _ (List.mem_of_getElem? (i := 102) rfl)))), List.forall_mem_cons.mpr ⟨(List.mem_append_right _ (List.mem_append_right _ (List.mem_append_left _ (List.mem_of_getElem? (i := 103) rfl)))), List.forall_mem_cons.mpr ⟨(List.mem_append_right _ (List.mem_append_right _ (List.mem_append_right _ (List.mem_append_right _ (List.mem_of_getElem? (i := 97) rfl))))), List.forall_mem_cons.mpr ⟨(List.mem_append_right _ (List.mem_append_right _ (List.mem_append_right _ (List.mem_append_right _ (List.mem_of_getElem? (i := 98) rfl))))), List.forall_mem_cons.mpr ⟨(List.mem_append_right _ (List.mem_append_right _ (List.mem_append_right _ (List.mem_append_right _ (List.mem_of_getElem? (i := 99) rfl))))), List.forall_mem_cons.mpr ⟨(List.mem_append_right _ (List.mem_append_right _ (List.mem_append_left _ (List.mem_of_getElem? (i := 109) rfl)))), List.forall_mem_cons.mpr ⟨(List.mem_append_right _ (List.mem_append_right _ (List.mem_append_left _ (List.mem_of_getElem? (i := 110) rfl)))), List.forall_mem_cons.mpr ⟨(List.mem_append_right _ (List.mem_append_right _ (List.mem_append_left _ (List.mem_of_getElem? (i := 111) rfl)))), fun _ h => absurd h List.not_mem_nil⟩⟩⟩⟩⟩⟩⟩⟩⟩⟩⟩⟩⟩⟩⟩⟩⟩⟩⟩⟩⟩⟩⟩⟩⟩
theorem bg_27 : B27.all goodWord = true := by decide +kernel
theorem bi_28 : ∀ w ∈ B28, w ∈ lw_tbl := List.forall_mem_cons.mpr ⟨(List.mem_append_right _ (List.mem_append_right _ (List.mem_append_right _ (List.mem_append_right _ (List.mem_of_getElem? (i := 101) rfl))))), List.forall_mem_cons.mpr ⟨(List.mem_append_right _ (List.mem_append_right _ (List.mem_append_right _ (List.mem_append_right _ (List.mem_of_getElem? (i := 102) rfl))))), List.forall_mem_cons.mpr ⟨(List.mem_append_right _ (List.mem_append_right _ (List.mem_append_right _ (List.mem_append_right _ (List.mem_of_getElem? (i := 103) rfl))))), List.forall_mem_cons.mpr ⟨(List.mem_append_right _ (List.mem_append_right _ (List.mem_append_left _ (List.mem_of_getElem? (i := 117) rfl)))), List.forall_mem_cons.mpr ⟨(List.mem_append_right _ (List.mem_append_right _ (List.mem_append_left _ (List.mem_of_getElem? (i := 118) rfl)))), List.forall_mem_cons.mpr ⟨(List.mem_append_right _ (List.mem_append_right _ (List.mem_append_left _ (List.mem_of_getElem? (i := 119) rfl)))), List.forall_mem_cons.mpr ⟨(List.mem_append_right _ (List.mem_append_right _ (List.mem_append_right _ (List.mem_append_right _ (List.mem_of_getElem? (i := 105) rfl))))), List.forall_mem_cons.mpr ⟨(List.mem_append_right _ (List.mem_append_right _ (List.mem_append_right _ (List.mem_append_right _ (List.mem_of_getElem? (i := 106) rfl))))), List.forall_mem_cons.mpr ⟨(List.mem_append_right _ (List.mem_append_right _ (List.mem_append_right _ (List.mem_append_right _ (List.mem_of_getElem? (i := 107) rfl))))), List.forall_mem_cons.mpr ⟨(List.mem_append_right _ (List.mem_append_right _ (List.mem_append_left _ (List.mem_of_getElem? (i := 133) rfl)))), List.forall_mem_cons.mpr ⟨(List.mem_append_right _ (List.mem_append_right _ (List.mem_append_left _ (List.mem_of_getElem? (i := 134) rfl)))), List.forall_mem_cons.mpr ⟨(List.mem_append_right _ (List.mem_append_right _ (List.mem_append_left _ (List.mem_of_getElem? (i := 135) rfl)))), List.forall_mem_cons.mpr ⟨(List.mem_append_right _ (List.mem_append_right _ (List.mem_append_right _ (List.mem_append_right _ (List.mem_of_getElem? (i := 113) rfl))))), List.forall_mem_cons.mpr ⟨(List.mem_append_right _ (List.mem_append_right _ (List.mem_append_right _ (List.mem_append_right _ (List.mem_of_getElem? (i := 114) rfl))))), List.forall_mem_cons.mpr ⟨(List.mem_append_right _ (List.mem_append_right _ (List.mem_append_right _ (List.mem_append_right _ (List.mem_of_getElem? (i := 115) rfl))))), List.forall_mem_cons.mpr ⟨(List.mem_append_right _ (List.mem_append_right _ (List.mem_append_left _ (List.mem_of_getElem? (i := 141) rfl)))), List.forall_mem_cons.mpr ⟨(List.mem_append_right _ (List.mem_append_right _ (List.mem_append_left _ (List.mem_of_getElem? (i := 142) rfl)))), List.forall_mem_cons.mpr ⟨(List.mem_append_right _ (List.mem_append_right _ (List.mem_append_left _ (List.mem_of_getElem? (i := 143) rfl)))), List.forall_mem_cons.mpr ⟨(List.mem_append_right _ (List.mem_append_right _ (List.mem_append_right _ (List.mem_append_right _ (List.mem_of_getElem? (i := 117) rfl))))), List.forall_mem_cons.mpr ⟨(List.mem_append_right _ (List.mem_append_right _ (List.mem_append_right _ (List.mem_append_right _ (List.mem_of_getElem? (i := 118) rfl))))), List.forall_mem_cons.mpr ⟨(List.mem_append_right _ (List.mem_append_right _ (List.mem_append_right _ (List.mem_append_right _ (List.mem_of_getElem? (i := 119) rfl))))), List.forall_mem_cons.mpr ⟨(List.mem_append_right _ (List.mem_append_right _ (List.mem_append_left _ (List.mem_of_getElem? (i := 158) rfl)))), List.forall_mem_cons.mpr ⟨(List.mem_append_right _ (List.mem_append_right _ (List.mem_append_left _ (List.mem_of_getElem? (i := 159) rfl)))), List.forall_mem_cons.mpr ⟨(List.mem_append_right _ (List.mem_append_right _ (List.mem_append_left _ (List.mem_of_getElem? (i := 160) rfl)))), List.forall_mem_cons.mpr ⟨(List.mem_append_right _ (List.mem_append_right _ (List.mem_append_right _ (List.mem_append_right _ (List.mem_of_getElem? (i := 125) rfl))))), fun _ h => absurd h List.not_mem_nil⟩⟩⟩⟩⟩⟩⟩⟩⟩⟩⟩⟩⟩⟩⟩⟩⟩⟩⟩⟩⟩⟩⟩⟩⟩
theorem bg_28 : B28.all goodWord = true := by decide +kernel
theorem bi_29 : ∀ w ∈ B29, w ∈ lw_tbl := List.forall_mem_cons.mpr ⟨(List.mem_append_right _ (List.mem_append_right _ (List.mem_append_right _ (List.mem_append_right _ (List.mem_of_getElem? (i := 126) rfl))))), List.forall_mem_cons.mpr ⟨(List.mem_append_right _ (List.mem_append_right _ (List.mem_append_right _ (List.mem_append_right _ (List.mem_of_getElem? (i := 127) rfl))))), List.forall_mem_cons.mpr ⟨(List.mem_append_right _ (List.mem_append_right _ (List.mem_append_left _ (List.mem_of_getElem? (i := 165) rfl)))), List.forall_mem_cons.mpr ⟨(List.mem_append_right _ (List.mem_append_right _ (List.mem_append_left _ (List.mem_of_getElem? (i := 166) rfl)))), List.forall_mem_cons.mpr ⟨(List.mem_append_right _ (List.mem_append_right _ (List.mem_append_left _ (List.mem_of_getElem? (i := 167) rfl)))), List.forall_mem_cons.mpr ⟨(List.mem_append_right _ (List.mem_append_right _ (List.mem_append_right _ (List.mem_append_right _ (List.mem_of_getElem? (i := 129) rfl))))), List.forall_mem_cons.mpr ⟨(List.mem_append_right _ (List.mem_append_right _ (List.mem_append_right _ (List.mem_append_right _ (List.mem_of_getElem? (i := 130) rfl))))), List.forall_mem_cons.mpr ⟨(List.mem_append_right _ (List.mem_append_right _ (List.mem_append_right _ (List.mem_append_right _ (List.mem_of_getElem? (i := 131) rfl))))), List.forall_mem_cons.mpr ⟨(List.mem_append_right _ (List.mem_append_right _ (List.mem_append_left _ (List.mem_of_getElem? (i := 172) rfl)))), List.forall_mem_cons.mpr ⟨(List.mem_append_right _ (List.mem_append_right _ (List.mem_append_left _ (List.mem_of_getElem? (i := 173) rfl)))), List.forall_mem_cons.mpr ⟨(List.mem_append_right _ (List.mem_append_right _ (List.mem_append_left _ (List.mem_of_getElem? (i := 174) rfl)))), List.forall_mem_cons.mpr ⟨(List.mem_append_right _ (List.mem_append_right _ (List.mem_append_right _ (List.mem_append_right _ (List.mem_of_getElem? (i := 133) rfl))))), List.forall_mem_cons.mpr ⟨(List.mem_append_right _ (List.mem_append_right _ (List.mem_append_right _ (List.mem_append_right _ (List.mem_of_getElem? (i := 134) rfl))))), List.forall_mem_cons.mpr ⟨(List.mem_append_right _ (List.mem_append_right _ (List.mem_append_right _ (List.mem_append_right _ (List.mem_of_getElem? (i := 135) rfl))))), List.forall_mem_cons.mpr ⟨(List.mem_append_right _ (List.mem_append_right _ (List.mem_append_left _ (List.mem_of_getElem? (i := 192) rfl)))), List.forall_mem_cons.mpr ⟨(List.mem_append_right _ (List.mem_append_right _ (List.mem_append_left _ (List.mem_of_getElem? (i := 193) rfl)))), List.forall_mem_cons.mpr ⟨(List.mem_append_right _ (List.mem_append_right _ (List.mem_append_left _ (List.mem_of_getElem? (i := 194) rfl)))), List.forall_mem_cons.mpr ⟨(List.mem_append_right _ (List.mem_append_right _ (List.mem_append_right _ (List.mem_append_right _ (List.mem_of_getElem? (i := 137) rfl))))), List.forall_mem_cons.mpr ⟨(List.mem_append_right _ (List.mem_append_right _ (List.mem_append_right _ (List.mem_append_right _ (List.mem_of_getElem? (i := 138) rfl))))), List.forall_mem_cons.mpr ⟨(List.mem_append_right _ (List.mem_append_right _ (List.mem_append_right _ (List.mem_append_right _ (List.mem_of_getElem? (i := 139) rfl))))), List.forall_mem_cons.mpr ⟨(List.mem_append_right _ (List.mem_append_right _ (List.mem_append_left _ (List.mem_of_getElem? (i := 200) rfl)))), List.forall_mem_cons.mpr ⟨(List.mem_append_right _ (List.mem_append_right _ (List.mem_append_left _ (List.mem_of_getElem? (i := 201) rfl)))), List.forall_mem_cons.mpr ⟨(List.mem_append_right _ (List.mem_append_right _ (List.mem_append_left _ (List.mem_of_getElem? (i := 202) rfl)))), List.forall_mem_cons.mpr ⟨(List.mem_append_right _ (List.mem_append_right _ (List.mem_append_right _ (List.mem_append_right _ (List.mem_of_getElem? (i := 141) rfl))))), List.forall_mem_cons.mpr ⟨(List.mem_append_right _ (List.mem_append_right _ (List.mem_append_right _ (List.mem_append_right _ (List.mem_of_getElem? (i := 142) rfl))))), fun _ h => absurd h List.not_mem_nil⟩⟩⟩⟩⟩⟩⟩⟩⟩⟩⟩⟩⟩⟩⟩⟩⟩⟩⟩⟩⟩⟩⟩⟩⟩
theorem bg_29 : B29.all goodWord = true := by decide +kernel
theorem bi_30 : ∀ w ∈ B30, w ∈ lw_tbl := List.forall_mem_cons.mpr ⟨(List.mem_append_right _ (List.mem_append_right _ (List.mem_append_right _ (List.mem_append_right _ (List.mem_of_getElem? (i := 143) rfl))))), List.forall_mem_cons.mpr ⟨(List.mem_append_right _ (List.mem_append_right _ (List.mem_append_left _ (List.mem_of_getElem? (i := 206) rfl)))), List.forall_mem_cons.mpr ⟨(List.mem_append_right _ (List.mem_append_right _ (List.mem_append_left _ (List.mem_of_getElem? (i := 207) rfl)))), List.forall_mem_cons.mpr ⟨(List.mem_append_right _ (List.mem_append_right _ (List.mem_append_left _ (List.mem_of_getElem? (i := 208) rfl)))), List.forall_mem_cons.mpr ⟨(List.mem_append_right _ (List.mem_append_right _ (List.mem_append_right _ (List.mem_append_right _ (List.mem_of_getElem? (i := 145) rfl))))), List.forall_mem_cons.mpr ⟨(List.mem_append_right _ (List.mem_append_right _ (List.mem_append_right _ (List.mem_append_right _ (List.mem_of_getElem? (i := 146) rfl))))), List.forall_mem_cons.mpr ⟨(List.mem_append_right _ (List.mem_append_right _ (List.mem_append_right _ (List.mem_append_right _ (List.mem_of_getElem? (i := 147) rfl))))), List.forall_mem_cons.mpr ⟨(List.mem_append_right _ (List.mem_append_right _ (List.mem_append_left _ (List.mem_of_getElem? (i := 211) rfl)))), List.forall_mem_cons.mpr ⟨(List.mem_append_right _ (List.mem_append_right _ (List.mem_append_left _ (List.mem_of_getElem? (i := 212) rfl)))), List.forall_mem_cons.mpr ⟨(List.mem_append_right _ (List.mem_append_right _ (List.mem_append_left _ (List.mem_of_getElem? (i := 213) rfl)))), List.forall_mem_cons.mpr ⟨(List.mem_append_right _ (List.mem_append_right _ (List.mem_append_right _ (List.mem_append_right _ (List.mem_of_getElem? (i := 149) rfl))))), List.forall_mem_cons.mpr ⟨(List.mem_append_right _ (List.mem_append_right _ (List.mem_append_right _ (List.mem_append_right _ (List.mem_of_getElem? (i := 150) rfl))))), List.forall_mem_cons.mpr ⟨(List.mem_append_right _ (List.mem_append_right _ (List.mem_append_right _ (List.mem_append_right _ (List.mem_of_getElem? (i := 151) rfl))))), List.forall_mem_cons.mpr ⟨(List.mem_append_right _ (List.mem_append_right _ (List.mem_append_left _ (List.mem_of_getElem? (i := 229) rfl)))), List.forall_mem_cons.mpr ⟨(List.mem_append_right _ (List.mem_append_right _ (List.mem_append_left _ (List.mem_of_getElem? (i := 230) rfl)))), List.forall_mem_cons.mpr ⟨(List.mem_append_right _ (List.mem_append_right _ (List.mem_append_left _ (List.mem_of_getElem? (i := 231) rfl)))), List.forall_mem_cons.mpr ⟨(List.mem_append_right _ (List.mem_append_right _ (List.mem_append_right _ (List.mem_append_right _ (List.mem_of_getElem? (i := 157) rfl))))), List.forall_mem_cons.mpr ⟨(List.mem_append_right _ (List.mem_append_right _ (List.mem_append_right _ (List.mem_append_right _ (List.mem_of_getElem? (i := 158) rfl))))), List.forall_mem_cons.mpr ⟨(List.mem_append_right _ (List.mem_append_right _ (List.mem_append_right _ (List.mem_append_right _ (List.mem_of_getElem? (i := 159) rfl))))), List.forall_mem_cons.mpr ⟨(List.mem_append_right _ (List.mem_append_right _ (List.mem_append_left _ (List.mem_of_getElem? (i := 233) rfl)))), List.forall_mem_cons.mpr ⟨(List.mem_append_right _ (List.mem_append_right _ (List.mem_append_left _ (List.mem_of_getElem? (i := 234) rfl)))), List.forall_mem_cons.mpr ⟨(List.mem_append_right _ (List.mem_append_right _ (List.mem_append_left _ (List.mem_of_getElem? (i := 235) rfl)))), List.forall_mem_cons.mpr ⟨(List.mem_append_right _ (List.mem_append_right _ (List.mem_append_right _ (List.mem_append_right _ (List.mem_of_getElem? (i := 161) rfl))))), List.forall_mem_cons.mpr ⟨(List.mem_append_right _ (List.mem_append_right _ (List.mem_append_right _ (List.mem_append_right _ (List.mem_of_getElem? (i := 162) rfl))))), List.forall_mem_cons.mpr ⟨(List.mem_append_right _ (List.mem_append_right _ (List.mem_append_right _ (List.mem_append_right _ (List.mem_of_getElem? (i := 163) rfl))))), fun _ h => absurd h List.not_mem_nil⟩⟩⟩⟩⟩⟩⟩⟩⟩⟩⟩⟩⟩⟩⟩⟩⟩⟩⟩⟩⟩⟩⟩⟩⟩
theorem bg_30 : B30.all goodWord = true := by decide +kernel
theorem bi_31 : ∀ w ∈ B31, w ∈ lw_tbl := List.forall_mem_cons.mpr ⟨(List.mem_append_right _ (List.mem_append_right _ (List.mem_append_right _ (List.mem_append_left _ (List.mem_of_getElem? (i := 87) rfl))))), List.forall_mem_cons.mpr ⟨(List.mem_append_right _ (List.mem_append_right _ (List.mem_append_right _ (List.mem_append_left _ (List.mem_of_getElem? (i := 88) rfl))))), List.forall_mem_cons.mpr ⟨(List.mem_append_right _ (List.mem_append_right _ (List.mem_append_right _ (List.mem_append_left _ (List.mem_of_getElem? (i := 89) rfl))))), List.forall_mem_cons.mpr ⟨(List.mem_append_right _ (List.mem_append_right _ (List.mem_append_right _ (List.mem_append_right _ (List.mem_of_getElem? (i := 185) rfl))))), List.forall_mem_cons.mpr ⟨(List.mem_append_right _ (List.mem_append_right _ (List.mem_append_right _ (List.mem_append_right _ (List.mem_of_getElem? (i := 186) rfl))))), List.forall_mem_cons.mpr ⟨(List.mem_append_right _ (List.mem_append_right _ (List.mem_append_right _ (List.mem_append_right _ (List.mem_of_getElem? (i := 187) rfl))))), List.forall_mem_cons.mpr ⟨(List.mem_append_right _ (List.mem_append_right _ (List.mem_append_right _ (List.mem_append_left _ (List.mem_of_getElem? (i := 104) rfl))))), List.forall_mem_cons.mpr ⟨(List.mem_append_right _ (List.mem_append_right _ (List.mem_append_right _ (List.mem_append_left _ (List.mem_of_getElem? (i := 105) rfl))))), List.forall_mem_cons.mpr ⟨(List.mem_append_right _ (List.mem_append_right _ (List.mem_append_right _ (List.mem_append_left _ (List.mem_of_getElem? (i := 106) rfl))))), List.forall_mem_cons.mpr ⟨(List.mem_append_right _ (List.mem_append_right _ (List.mem_append_right _ (List.mem_append_right _ (List.mem_of_getElem? (i := 189) rfl))))), List.forall_mem_cons.mpr ⟨(List.mem_append_right _ (List.mem_append_right _ (List.mem_append_right _ (List.mem_append_right _ (List.mem_of_getElem? (i := 190) rfl))))), List.forall_mem_cons.mpr ⟨(List.mem_append_right _ (List.mem_append_right _ (List.mem_append_right _ (List.mem_append_right _ (List.mem_of_getElem? (i := 191) rfl))))), List.forall_mem_cons.mpr ⟨(List.mem_append_right _ (List.mem_append_right _ (List.mem_append_right _ (List.mem_append_left _ (List.mem_of_getElem? (i := 112) rfl))))), List.forall_mem_cons.mpr ⟨(List.mem_append_right _ (List.mem_append_right _ (List.mem_append_right _ (List.mem_append_left _ (List.mem_of_getElem? (i := 113) rfl))))), List.forall_mem_cons.mpr ⟨(List.mem_append_right _ (List.mem_append_right _ (List.mem_append_right _ (List.mem_append_left _ (List.mem_of_getElem? (i := 114) rfl))))), List.forall_mem_cons.mpr ⟨(List.mem_append_right _ (List.mem_append_right _ (List.mem_append_right _ (List.mem_append_right _ (List.mem_of_getElem? (i := 193) rfl))))), List.forall_mem_cons.mpr ⟨(List.mem_append_right _ (List.mem_append_right _ (List.mem_append_right _ (List.mem_append_right _ (List.mem_of_getElem? (i := 194) rfl))))), List.forall_mem_cons.mpr ⟨(List.mem_append_right _ (List.mem_append_right _ (List.mem_append_right _ (List.mem_append_right _ (List.mem_of_getElem? (i := 195) rfl))))), List.forall_mem_cons.mpr ⟨(List.mem_append_right _ (List.mem_append_right _ (List.mem_append_right _ (List.mem_append_left _ (List.mem_of_getElem? (i := 121) rfl))))), List.forall_mem_cons.mpr ⟨(List.mem_append_right _ (List.mem_append_right _ (List.mem_append_right _ (List.mem_append_left _ (List.mem_of_getElem? (i := 122) rfl))))), List.forall_mem_cons.mpr ⟨(List.mem_append_right _ (List.mem_append_right _ (List.mem_append_right _ (List.mem_append_left _ (List.mem_of_getElem? (i := 123) rfl))))), List.forall_mem_cons.mpr ⟨(List.mem_append_right _ (List.mem_append_right _ (List.mem_append_right _ (List.mem_append_right _ (List.mem_of_getElem? (i := 197) rfl))))), List.forall_mem_cons.mpr ⟨(List.mem_append_right _ (List.mem_append_right _ (List.mem_append_right _ (List.mem_append_right _ (List.mem_of_getElem? (i := 198) rfl))))), List.forall_mem_cons.mpr ⟨(List.mem_append_right _ (List.mem_append_right _ (List.mem_append_right _ (List.mem_append_right _ (List.mem_of_getElem? (i := 199) rfl))))), fun _ h => absurd h List.not_mem_nil⟩⟩⟩⟩⟩⟩⟩⟩⟩⟩⟩⟩⟩⟩⟩⟩⟩⟩⟩⟩⟩⟩⟩⟩
theorem bg_31 : B31.all goodWord = true := by decide +kernel
theorem bi_32 : ∀ w ∈ wsX00, w ∈ lw_tbl := by
  intro w hw
  obtain ⟨k, hk, rfl⟩ := List.mem_map.mp hw
  have hk := List.mem_range.mp hk
  rcases (show k = 0 ∨ k = 1 ∨ k = 2 by omega) with rfl | rfl | rfl
  · exact (List.mem_append_right _ (List.mem_append_left _ (List.mem_of_getElem? (i := 65) rfl)))
  · exact (List.mem_append_right _ (List.mem_append_left _ (List.mem_of_getElem? (i := 67) rfl)))
  · exact (List.mem_append_right _ (List.mem_append_left _ (List.mem_of_getElem? (i := 69) rfl)))
theorem bg_32 : (wsX00).all goodWord = true := by decide +kernel
theorem bi_33 : ∀ w ∈ wsX10, w ∈ lw_tbl := by
  intro w hw
  obtain ⟨k, hk, rfl⟩ := List.mem_map.mp hw
  have hk := List.mem_range.mp hk
  rcases (show k = 0 ∨ k = 1 ∨ k = 2 ∨ k = 3 ∨ k = 4 ∨ k = 5 by omega) with rfl | rfl | rfl | rfl | rfl | rfl
  · exact (List.mem_append_right _ (List.mem_append_left _ (List.mem_of_getElem? (i := 87) rfl)))
  · exact (List.mem_append_right _ (List.mem_append_left _ (List.mem_of_getElem? (i := 89) rfl)))
  · exact (List.mem_append_right _ (List.mem_append_left _ (List.mem_of_getElem? (i := 91) rfl)))
  · exact (List.mem_append_right _ (List.mem_append_left _ (List.mem_of_getElem? (i := 93) rfl)))
  · exact (List.mem_append_right _ (List.mem_append_left _ (List.mem_of_getElem? (i := 95) rfl)))
  · exact (List.mem_append_right _ (List.mem_append_left _ (List.mem_of_getElem? (i := 97) rfl)))
theorem bg_33 : (wsX10).all goodWord = true := by decide +kernel
theorem bi_34 : ∀ w ∈ wsX20, w ∈ lw_tbl := by
  intro w hw
  obtain ⟨k, hk, rfl⟩ := List.mem_map.mp hw
  have hk := List.mem_range.mp hk
  rcases (show k = 0 ∨ k = 1 ∨ k = 2 ∨ k = 3 ∨ k = 4 ∨ k = 5 by omega) with rfl | rfl | rfl | rfl | rfl | rfl
  · exact (List.mem_append_right _ (List.mem_append_left _ (List.mem_of_getElem? (i := 38) rfl)))
  · exact (List.mem_append_right _ (List.mem_append_left _ (List.mem_of_getElem? (i := 40) rfl)))
  · exact (List.mem_append_right _ (List.mem_append_left _ (List.mem_of_getElem? (i := 42) rfl)))
  · exact (List.mem_append_right _ (List.mem_append_left _ (List.mem_of_getElem? (i := 44) rfl)))
  · exact (List.mem_append_right _ (List.mem_append_left _ (List.mem_of_getElem? (i := 46) rfl)))
  · exact (List.mem_append_right _ (List.mem_append_left _ (List.mem_of_getElem? (i := 48) rfl)))
theorem bg_34 : (wsX20).all goodWord = true := by decide +kernel
theorem bi_35 : ∀ w ∈ wsX30, w ∈ lw_tbl := by
  intro w hw
  obtain ⟨k, hk, rfl⟩ := List.mem_map.mp hw
  have hk := List.mem_range.mp hk
  rcases (show k = 0 ∨ k = 1 ∨ k = 2 ∨ k = 3 by omega) with rfl | rfl | rfl | rfl
  · exact (List.mem_append_right _ (List.mem_append_left _ (List.mem_of_getElem? (i := 104) rfl)))
  · exact (List.mem_append_right _ (List.mem_append_left _ (List.mem_of_getElem? (i := 106) rfl)))
  · exact (List.mem_append_right _ (List.mem_append_left _ (List.mem_of_getElem? (i := 108) rfl)))
  · exact (List.mem_append_right _ (List.mem_append_left _ (List.mem_of_getElem? (i := 110) rfl)))
theorem bg_35 : (wsX30).all goodWord = true := by decide +kernel
theorem bi_36 : ∀ w ∈ wsX40, w ∈ lw_tbl := by
  intro w hw
  obtain ⟨k, hk, rfl⟩ := List.mem_map.mp hw
  have hk := List.mem_range.mp hk
  rcases (show k = 0 ∨ k = 1 ∨ k = 2 ∨ k = 3 ∨ k = 4 ∨ k = 5 ∨ k = 6 ∨ k = 7 ∨ k = 8 ∨ k = 9 by omega) with rfl | rfl | rfl | rfl | rfl | rfl | rfl | rfl | rfl | rfl
  · exact (List.mem_append_right _ (List.mem_append_right _ (List.mem_append_right _ (List.mem_append_left _ (List.mem_of_getElem? (i := 141) rfl)))))
  · exact (List.mem_append_right _ (List.mem_append_right _ (List.mem_append_right _ (List.mem_append_left _ (List.mem_of_getElem? (i := 143) rfl)))))
  · exact (List.mem_append_right _ (List.mem_append_right _ (List.mem_append_right _ (List.mem_append_left _ (List.mem_of_getElem? (i := 145) rfl)))))
  · exact (List.mem_append_right _ (List.mem_append_right _ (List.mem_append_right _ (List.mem_append_left _ (List.mem_of_getElem? (i := 147) rfl)))))
  · exact (List.mem_append_right _ (List.mem_append_right _ (List.mem_append_right _ (List.mem_append_left _ (List.mem_of_getElem? (i := 149) rfl)))))
  · exact (List.mem_append_right _ (List.mem_append_right _ (List.mem_append_right _ (List.mem_append_left _ (List.mem_of_getElem? (i := 151) rfl)))))
  · exact (List.mem_append_right _ (List.mem_append_right _ (List.mem_append_right _ (List.mem_append_left _ (List.mem_of_getElem? (i := 153) rfl)))))
  · exact (List.mem_append_right _ (List.mem_append_right _ (List.mem_append_right _ (List.mem_append_left _ (List.mem_of_getElem? (i := 155) rfl)))))
  · exact (List.mem_append_right _ (List.mem_append_right _ (List.mem_append_right _ (List.mem_append_left _ (List.mem_of_getElem? (i := 157) rfl)))))
  · exact (List.mem_append_right _ (List.mem_append_right _ (List.mem_append_right _ (List.mem_append_left _ (List.mem_of_getElem? (i := 159) rfl)))))
theorem bg_36 : (wsX40).all goodWord = true := by decide +kernel
theorem BW_in : ∀ w ∈ BW, w ∈ lw_tbl := fun w h => ((List.mem_append.mp h).elim (bi_0 w) (fun h => ((List.mem_append.mp h).elim (bi_1 w) (fun h => ((List.mem_append.mp h).elim (bi_2 w) (fun h => ((List.mem_append.mp h).elim (bi_3 w) (fun h => ((List.mem_append.mp h).elim (bi_4 w) (fun h => ((List.mem_append.mp h).elim (bi_5 w) (fun h => ((List.mem_append.mp h).elim (bi_6 w) (fun h => ((List.mem_append.mp h).elim (bi_7 w) (fun h => ((List.mem_append.mp h).elim (bi_8 w) (fun h => ((List.mem_append.mp h).elim (bi_9 w) (fun h => ((List.mem_append.mp h).elim (bi_10 w) (fun h => ((List.mem_append.mp h).elim (bi_11 w) (fun h => ((List.mem_append.mp h).elim (bi_12 w) (fun h => ((List.mem_append.mp h).elim (bi_13 w) (fun h => ((List.mem_append.mp h).elim (bi_14 w) (fun h => ((List.mem_append.mp h).elim (bi_15 w) (fun h => ((List.mem_append.mp h).elim (bi_16 w) (fun h => ((List.mem_append.mp h).elim (bi_17 w) (fun h => ((List.mem_append.mp h).elim (bi_18 w) (fun h => ((List.mem_append.mp h).elim (bi_19 w) (fun h => ((List.mem_append.mp h).elim (bi_20 w) (fun h => ((List.mem_append.mp h).elim (bi_21 w) (fun h => ((List.mem_append.mp h).elim (bi_22 w) (fun h => ((List.mem_append.mp h).elim (bi_23 w) (fun h => ((List.mem_append.mp h).elim (bi_24 w) (fun h => ((List.mem_append.mp h).elim (bi_25 w) (fun h => ((List.mem_append.mp h).elim (bi_26 w) (fun h => ((List.mem_append.mp h).elim (bi_27 w) (fun h => ((List.mem_append.mp h).elim (bi_28 w) (fun h => ((List.mem_append.mp h).elim (bi_29 w) (fun h => ((List.mem_append.mp h).elim (bi_30 w) (fun h => ((List.mem_append.mp h).elim (bi_31 w) (fun h => ((List.mem_append.mp h).elim (bi_32 w) (fun h => ((List.mem_append.mp h).elim (bi_33 w) (fun h => ((List.mem_append.mp h).elim (bi_34 w) (fun h => ((List.mem_append.mp h).elim (bi_35 w) (fun h => (bi_36 w h)))))))))))))))))))))))))))))))))))))))))))))))))))))))))))))))))))))))))
theorem BW_good : ∀ w ∈ BW, goodWord w = true := fun w h => ((List.mem_append.mp h).elim (List.all_eq_true.mp bg_0 w) (fun h => ((List.mem_append.mp h).elim (List.all_eq_true.mp bg_1 w) (fun h => ((List.mem_append.mp h).elim (List.all_eq_true.mp bg_2 w) (fun h => ((List.mem_append.mp h).elim (List.all_eq_true.mp bg_3 w) (fun h => ((List.mem_append.mp h).elim (List.all_eq_true.mp bg_4 w) (fun h => ((List.mem_append.mp h).elim (List.all_eq_true.mp bg_5 w) (fun h => ((List.mem_append.mp h).elim (List.all_eq_true.mp bg_6 w) (fun h => ((List.mem_append.mp h).elim (List.all_eq_true.mp bg_7 w) (fun h => ((List.mem_append.mp h).elim (List.all_eq_true.mp bg_8 w) (fun h => ((List.mem_append.mp h).elim (List.all_eq_true.mp bg_9 w) (fun h => ((List.mem_append.mp h).elim (List.all_eq_true.mp bg_10 w) (fun h => ((List.mem_append.mp h).elim (List.all_eq_true.mp bg_11 w) (fun h => ((List.mem_append.mp h).elim (List.all_eq_true.mp bg_12 w) (fun h => ((List.mem_append.mp h).elim (List.all_eq_true.mp bg_13 w) (fun h => ((List.mem_append.mp h).elim (List.all_eq_true.mp bg_14 w) (fun h => ((List.mem_append.mp h).elim (List.all_eq_true.mp bg_15 w) (fun h => ((List.mem_append.mp h).elim (List.all_eq_true.mp bg_16 w) (fun h => ((List.mem_append.mp h).elim (List.all_eq_true.mp bg_17 w) (fun h => ((List.mem_append.mp h).elim (List.all_eq_true.mp bg_18 w) (fun h => ((List.mem_append.mp h).elim (List.all_eq_true.mp bg_19 w) (fun h => ((List.mem_append.mp h).elim (List.all_eq_true.mp bg_20 w) (fun h => ((List.mem_append.mp h).elim (List.all_eq_true.mp bg_21 w) (fun h => ((List.mem_append.mp h).elim (List.all_eq_true.mp bg_22 w) (fun h => ((List.mem_append.mp h).elim (List.all_eq_true.mp bg_23 w) (fun h => ((List.mem_append.mp h).elim (List.all_eq_true.mp bg_24 w) (fun h => ((List.mem_append.mp h).elim (List.all_eq_true.mp bg_25 w) (fun h => ((List.mem_append.mp h).elim (List.all_eq_true.mp bg_26 w) (fun h => ((List.mem_append.mp h).elim (List.all_eq_true.mp bg_27 w) (fun h => ((List.mem_append.mp h).elim (List.all_eq_true.mp bg_28 w) (fun h => ((List.mem_append.mp h).elim (List.all_eq_true.mp bg_29 w) (fun h => ((List.mem_append.mp h).elim (List.all_eq_true.mp bg_30 w) (fun h => ((List.mem_append.mp h).elim (List.all_eq_true.mp bg_31 w) (fun h => ((List.mem_append.mp h).elim (List.all_eq_true.mp bg_32 w) (fun h => ((List.mem_append.mp h).elim (List.all_eq_true.mp bg_33 w) (fun h => ((List.mem_append.mp h).elim (List.all_eq_true.mp bg_34 w) (fun h => ((List.mem_append.mp h).elim (List.all_eq_true.mp bg_35 w) (fun h => (List.all_eq_true.mp bg_36 w h)))))))))))))))))))))))))))))))))))))))))))))))))))))))))))))))))))))))))
theorem iw_X0 : ∀ w ∈ wsX00, w ∈ BW := fun _ h => mb_32 h
theorem iw_X1 : ∀ w ∈ wsX10, w ∈ BW := fun _ h => mb_33 h
theorem iw_X2 : ∀ w ∈ wsX20, w ∈ BW := fun _ h => mb_34 h
theorem iw_X3 : ∀ w ∈ wsX30, w ∈ BW := fun _ h => mb_35 h
theorem iw_X4 : ∀ w ∈ wsX40, w ∈ BW := fun _ h => mb_36 h
/-- the words of a method: its code, and all -/
abbrev wq (y : MethodName) (cc : ByteArray) (n : Nat) (ret : Option FieldType) : List Cond := .code y cc n ret :: BW
theorem gq {y : MethodName} {cc : ByteArray} {n : Nat} {ret : Option FieldType} (h : Cond.code y cc n ret ∈ BW) : GoodIn BW (wq y cc n ret) := fun w hw => by
  rcases List.mem_cons.mp hw with rfl | hw
  · exact ⟨h, good_of_word (BW_good _ h)⟩
  · exact ⟨hw, good_of_word (BW_good _ hw)⟩
theorem gqV {y : MethodName} {cc : ByteArray} {n : Nat} {ret : Option FieldType} {own C : String} {i : Nat} (h1 : Cond.methodLink own i y ∈ BW) (h2 : Cond.instanceMethod y ∈ BW) (h3 : Cond.selects C y y ∈ BW) (h4 : Cond.initialized C ∈ BW) (h : Cond.code y cc n ret ∈ BW) : GoodIn BW (wsV own i C y (wq y cc n ret)) := by
  refine goodIn_app (fun w hw => ?_) (gq h)
  simp only [List.mem_cons, List.not_mem_nil, or_false] at hw
  rcases hw with rfl | rfl | rfl | rfl
  · exact ⟨h1, good_of_word (BW_good _ h1)⟩
  · exact ⟨h2, good_of_word (BW_good _ h2)⟩
  · exact ⟨h3, good_of_word (BW_good _ h3)⟩
  · exact ⟨h4, good_of_word (BW_good _ h4)⟩
theorem gqS {y : MethodName} {cc : ByteArray} {n : Nat} {ret : Option FieldType} {own : String} {i : Nat} (h1 : Cond.methodLink own i y ∈ BW) (h2 : Cond.static y ∈ BW) (h4 : Cond.initialized y.cls ∈ BW) (h : Cond.code y cc n ret ∈ BW) : GoodIn BW (va_wsS own i y (wq y cc n ret)) := by
  refine goodIn_app (fun w hw => ?_) (gq h)
  simp only [List.mem_cons, List.not_mem_nil, or_false] at hw
  rcases hw with rfl | rfl | rfl
  · exact ⟨h1, good_of_word (BW_good _ h1)⟩
  · exact ⟨h2, good_of_word (BW_good _ h2)⟩
  · exact ⟨h4, good_of_word (BW_good _ h4)⟩
