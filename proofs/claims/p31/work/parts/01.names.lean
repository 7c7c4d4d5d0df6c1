theorem goodIn_app {big a b : List Cond} (ha : GoodIn big a) (hb : GoodIn big b) : GoodIn big (a ++ b) := fun w h => (List.mem_append.mp h).elim (ha w) (hb w)
/-! names, fields, types, code names (out of the printed names) -/
def RX0 : String := "QuarrelWays$History"
def TX0 : u_T := fun k => match k with
  | 0 => ("QuarrelWays$History", "states", "[LQuarrelWays$Town;", true)
  | 1 => ("QuarrelWays$History", "oldest", "I", false)
  | _ => ("QuarrelWays$History", "size", "I", false)
def tyX0 : Nat → FieldType := fun k => match k with
  | 0 => .array (.object "QuarrelWays$Town")
  | 1 => .int
  | _ => .int
abbrev wsX00 : List Cond := u_ws RX0 TX0 3
theorem nmX0 : ∀ a, a < 3 → ∀ b, b < 3 → a ≠ b → (TX0 a).2.1 ≠ (TX0 b).2.1 := by decide +kernel
theorem tyX0_ok : ∀ k, k < 3 → parseFieldDescriptor (TX0 k).2.2.1 = some (tyX0 k) := by decide +kernel
abbrev cX0_init : ByteArray := prog_2_method_1_code
def yX0_init : MethodName := ⟨RX0, "<init>", "()V"⟩
abbrev cX0_note : ByteArray := prog_2_method_2_code
def yX0_note : MethodName := ⟨RX0, "note", "(LQuarrelWays$Town;)V"⟩
abbrev cX0_keepUnlessError : ByteArray := prog_2_method_3_code
def yX0_keepUnlessError : MethodName := ⟨RX0, "keepUnlessError", "(I)I"⟩
abbrev cX0_goBack : ByteArray := prog_2_method_4_code
def yX0_goBack : MethodName := ⟨RX0, "goBack", "(LQuarrelWays$Town;)Z"⟩
abbrev cX0_stateAt : ByteArray := prog_2_method_5_code
def yX0_stateAt : MethodName := ⟨RX0, "stateAt", "(I)LQuarrelWays$Town;"⟩
abbrev cX0_placeOf : ByteArray := prog_2_method_6_code
def yX0_placeOf : MethodName := ⟨RX0, "placeOf", "(I)I"⟩
def RX1 : String := "QuarrelWays$Pad"
def TX1 : u_T := fun k => match k with
  | 0 => ("QuarrelWays$Pad", "signs", "[I", true)
  | 1 => ("QuarrelWays$Pad", "length", "I", false)
  | 2 => ("QuarrelWays$Pad", "at", "I", false)
  | 3 => ("QuarrelWays$Pad", "order", "I", false)
  | 4 => ("QuarrelWays$Pad", "numbers", "[I", true)
  | _ => ("QuarrelWays$Pad", "numbersRead", "I", false)
def tyX1 : Nat → FieldType := fun k => match k with
  | 0 => .array .int
  | 1 => .int
  | 2 => .int
  | 3 => .int
  | 4 => .array .int
  | _ => .int
abbrev wsX10 : List Cond := u_ws RX1 TX1 6
theorem nmX1 : ∀ a, a < 6 → ∀ b, b < 6 → a ≠ b → (TX1 a).2.1 ≠ (TX1 b).2.1 := by decide +kernel
theorem tyX1_ok : ∀ k, k < 6 → parseFieldDescriptor (TX1 k).2.2.1 = some (tyX1 k) := by decide +kernel
abbrev cX1_init : ByteArray := prog_3_method_1_code
def yX1_init : MethodName := ⟨RX1, "<init>", "()V"⟩
def RX2 : String := "QuarrelWays$Town"
def TX2 : u_T := fun k => match k with
  | 0 => ("QuarrelWays$Town", "hour", "I", false)
  | 1 => ("QuarrelWays$Town", "allowed", "I", false)
  | 2 => ("QuarrelWays$Town", "persons", "I", false)
  | 3 => ("QuarrelWays$Town", "quarrels", "I", false)
  | 4 => ("QuarrelWays$Town", "events", "I", false)
  | _ => ("QuarrelWays$Town", "cells", "[I", true)
def tyX2 : Nat → FieldType := fun k => match k with
  | 0 => .int
  | 1 => .int
  | 2 => .int
  | 3 => .int
  | 4 => .int
  | _ => .array .int
abbrev wsX20 : List Cond := u_ws RX2 TX2 6
theorem nmX2 : ∀ a, a < 6 → ∀ b, b < 6 → a ≠ b → (TX2 a).2.1 ≠ (TX2 b).2.1 := by decide +kernel
theorem tyX2_ok : ∀ k, k < 6 → parseFieldDescriptor (TX2 k).2.2.1 = some (tyX2 k) := by decide +kernel
abbrev cX2_init : ByteArray := prog_4_method_1_code
def yX2_init : MethodName := ⟨RX2, "<init>", "()V"⟩
abbrev cX2_read : ByteArray := prog_4_method_2_code
def yX2_read : MethodName := ⟨RX2, "read", "(II)I"⟩
abbrev cX2_write : ByteArray := prog_4_method_3_code
def yX2_write : MethodName := ⟨RX2, "write", "(III)V"⟩
abbrev cX2_become : ByteArray := prog_4_method_4_code
def yX2_become : MethodName := ⟨RX2, "become", "(LQuarrelWays$Town;)V"⟩
abbrev cX2_hasPerson : ByteArray := prog_4_method_5_code
def yX2_hasPerson : MethodName := ⟨RX2, "hasPerson", "(I)Z"⟩
abbrev cX2_hasQuarrel : ByteArray := prog_4_method_6_code
def yX2_hasQuarrel : MethodName := ⟨RX2, "hasQuarrel", "(I)Z"⟩
abbrev cX2_isOpen : ByteArray := prog_4_method_7_code
def yX2_isOpen : MethodName := ⟨RX2, "isOpen", "(I)Z"⟩
abbrev cX2_allows : ByteArray := prog_4_method_8_code
def yX2_allows : MethodName := ⟨RX2, "allows", "(I)Z"⟩
abbrev cX2_hoursSince : ByteArray := prog_4_method_9_code
def yX2_hoursSince : MethodName := ⟨RX2, "hoursSince", "(I)I"⟩
abbrev cX2_oathLeft : ByteArray := prog_4_method_10_code
def yX2_oathLeft : MethodName := ⟨RX2, "oathLeft", "(I)I"⟩
abbrev cX2_isPoints : ByteArray := prog_4_method_11_code
def yX2_isPoints : MethodName := ⟨RX2, "isPoints", "(I)Z"⟩
abbrev cX2_isRank : ByteArray := prog_4_method_12_code
def yX2_isRank : MethodName := ⟨RX2, "isRank", "(I)Z"⟩
abbrev cX2_areThese : ByteArray := prog_4_method_13_code
def yX2_areThese : MethodName := ⟨RX2, "areThese", "(IIII)Z"⟩
abbrev cX2_changeSetting : ByteArray := prog_4_method_14_code
def yX2_changeSetting : MethodName := ⟨RX2, "changeSetting", "(II)I"⟩
abbrev cX2_addPerson : ByteArray := prog_4_method_15_code
def yX2_addPerson : MethodName := ⟨RX2, "addPerson", "(II)I"⟩
abbrev cX2_takeSecond : ByteArray := prog_4_method_16_code
def yX2_takeSecond : MethodName := ⟨RX2, "takeSecond", "(II)I"⟩
abbrev cX2_allowOrBar : ByteArray := prog_4_method_17_code
def yX2_allowOrBar : MethodName := ⟨RX2, "allowOrBar", "(I)I"⟩
abbrev cX2_errorOfInsult : ByteArray := prog_4_method_18_code
def yX2_errorOfInsult : MethodName := ⟨RX2, "errorOfInsult", "(III)I"⟩
abbrev cX2_haveOpenQuarrel : ByteArray := prog_4_method_19_code
def yX2_haveOpenQuarrel : MethodName := ⟨RX2, "haveOpenQuarrel", "(II)Z"⟩
abbrev cX2_addQuarrel : ByteArray := prog_4_method_20_code
def yX2_addQuarrel : MethodName := ⟨RX2, "addQuarrel", "(III)I"⟩
abbrev cX2_settleBy : ByteArray := prog_4_method_21_code
def yX2_settleBy : MethodName := ⟨RX2, "settleBy", "(II)I"⟩
abbrev cX2_duel : ByteArray := prog_4_method_22_code
def yX2_duel : MethodName := ⟨RX2, "duel", "(I)I"⟩
abbrev cX2_takeOath : ByteArray := prog_4_method_23_code
def yX2_takeOath : MethodName := ⟨RX2, "takeOath", "(I)I"⟩
abbrev cX2_moveOn : ByteArray := prog_4_method_24_code
def yX2_moveOn : MethodName := ⟨RX2, "moveOn", "(I)I"⟩
abbrev cX2_addPoints : ByteArray := prog_4_method_25_code
def yX2_addPoints : MethodName := ⟨RX2, "addPoints", "(III)V"⟩
abbrev cX2_bindByOath : ByteArray := prog_4_method_26_code
def yX2_bindByOath : MethodName := ⟨RX2, "bindByOath", "(I)V"⟩
abbrev cX2_addEvent : ByteArray := prog_4_method_27_code
def yX2_addEvent : MethodName := ⟨RX2, "addEvent", "(II)V"⟩
abbrev cX2_waysOf : ByteArray := prog_4_method_28_code
def yX2_waysOf : MethodName := ⟨RX2, "waysOf", "(I)I"⟩
abbrev cX2_waysBetween : ByteArray := prog_4_method_29_code
def yX2_waysBetween : MethodName := ⟨RX2, "waysBetween", "(IIII)I"⟩
abbrev cX2_firstOf : ByteArray := prog_4_method_30_code
def yX2_firstOf : MethodName := ⟨RX2, "firstOf", "(I)I"⟩
abbrev cX2_secondsCanSettle : ByteArray := prog_4_method_31_code
def yX2_secondsCanSettle : MethodName := ⟨RX2, "secondsCanSettle", "(III)Z"⟩
abbrev cX2_hoursToCool : ByteArray := prog_4_method_32_code
def yX2_hoursToCool : MethodName := ⟨RX2, "hoursToCool", "(I)I"⟩
abbrev cX2_peaceLeft : ByteArray := prog_4_method_33_code
def yX2_peaceLeft : MethodName := ⟨RX2, "peaceLeft", "(II)I"⟩
abbrev cX2_whyNotDue : ByteArray := prog_4_method_34_code
def yX2_whyNotDue : MethodName := ⟨RX2, "whyNotDue", "(II)I"⟩
abbrev cX2_hoursUntilWay : ByteArray := prog_4_method_35_code
def yX2_hoursUntilWay : MethodName := ⟨RX2, "hoursUntilWay", "(I)I"⟩
abbrev cX2_hoursUntilDuel : ByteArray := prog_4_method_36_code
def yX2_hoursUntilDuel : MethodName := ⟨RX2, "hoursUntilDuel", "(I)I"⟩
abbrev cX2_hoursUntilCool : ByteArray := prog_4_method_37_code
def yX2_hoursUntilCool : MethodName := ⟨RX2, "hoursUntilCool", "(I)I"⟩
abbrev cX2_orNoneIfTooFar : ByteArray := prog_4_method_38_code
def yX2_orNoneIfTooFar : MethodName := ⟨RX2, "orNoneIfTooFar", "(I)I"⟩
abbrev cX2_winnerOf : ByteArray := prog_4_method_39_code
def yX2_winnerOf : MethodName := ⟨RX2, "winnerOf", "(I)I"⟩
abbrev cX2_skillOf : ByteArray := prog_4_method_40_code
def yX2_skillOf : MethodName := ⟨RX2, "skillOf", "(I)I"⟩
abbrev cX2_tellPerson : ByteArray := prog_4_method_41_code
def yX2_tellPerson : MethodName := ⟨RX2, "tellPerson", "(II)I"⟩
abbrev cX2_tellQuarrel : ByteArray := prog_4_method_42_code
def yX2_tellQuarrel : MethodName := ⟨RX2, "tellQuarrel", "(II)I"⟩
abbrev cX2_tellEvent : ByteArray := prog_4_method_43_code
def yX2_tellEvent : MethodName := ⟨RX2, "tellEvent", "(II)I"⟩
abbrev cX2_quarrelThatPresses : ByteArray := prog_4_method_44_code
def yX2_quarrelThatPresses : MethodName := ⟨RX2, "quarrelThatPresses", "(I)I"⟩
abbrev cX2_quarrelsBefore : ByteArray := prog_4_method_45_code
def yX2_quarrelsBefore : MethodName := ⟨RX2, "quarrelsBefore", "(I)I"⟩
abbrev cX2_pressureOf : ByteArray := prog_4_method_46_code
def yX2_pressureOf : MethodName := ⟨RX2, "pressureOf", "(I)I"⟩
abbrev cX2_insultsFrom : ByteArray := prog_4_method_47_code
def yX2_insultsFrom : MethodName := ⟨RX2, "insultsFrom", "(I)I"⟩
abbrev cX2_tellNumber : ByteArray := prog_4_method_48_code
def yX2_tellNumber : MethodName := ⟨RX2, "tellNumber", "(I)I"⟩
abbrev cX2_quarrelsWith : ByteArray := prog_4_method_49_code
def yX2_quarrelsWith : MethodName := ⟨RX2, "quarrelsWith", "(II)I"⟩
abbrev cX2_duelsOf : ByteArray := prog_4_method_50_code
def yX2_duelsOf : MethodName := ⟨RX2, "duelsOf", "(I)I"⟩
abbrev cX2_openQuarrels : ByteArray := prog_4_method_51_code
def yX2_openQuarrels : MethodName := ⟨RX2, "openQuarrels", "()I"⟩
abbrev cX2_dueQuarrels : ByteArray := prog_4_method_52_code
def yX2_dueQuarrels : MethodName := ⟨RX2, "dueQuarrels", "()I"⟩
abbrev cX2_personsUnderOath : ByteArray := prog_4_method_53_code
def yX2_personsUnderOath : MethodName := ⟨RX2, "personsUnderOath", "()I"⟩
abbrev cX2_personsWithSecond : ByteArray := prog_4_method_54_code
def yX2_personsWithSecond : MethodName := ⟨RX2, "personsWithSecond", "(I)I"⟩
def RX3 : String := "QuarrelWays"
def TX3 : u_T := fun k => match k with
  | 0 => ("QuarrelWays", "town", "LQuarrelWays$Town;", true)
  | 1 => ("QuarrelWays", "history", "LQuarrelWays$History;", true)
  | 2 => ("QuarrelWays", "pad", "LQuarrelWays$Pad;", true)
  | _ => ("QuarrelWays", "slots", "[LQuarrelWays$Town;", true)
def tyX3 : Nat → FieldType := fun k => match k with
  | 0 => .object "QuarrelWays$Town"
  | 1 => .object "QuarrelWays$History"
  | 2 => .object "QuarrelWays$Pad"
  | _ => .array (.object "QuarrelWays$Town")
abbrev wsX30 : List Cond := u_ws RX3 TX3 4
theorem nmX3 : ∀ a, a < 4 → ∀ b, b < 4 → a ≠ b → (TX3 a).2.1 ≠ (TX3 b).2.1 := by decide +kernel
theorem tyX3_ok : ∀ k, k < 4 → parseFieldDescriptor (TX3 k).2.2.1 = some (tyX3 k) := by decide +kernel
abbrev cX3_init : ByteArray := prog_1_method_1_code
def yX3_init : MethodName := ⟨RX3, "<init>", "()V"⟩
abbrev cX3_set : ByteArray := prog_1_method_2_code
def yX3_set : MethodName := ⟨RX3, "set", "(II)I"⟩
abbrev cX3_person : ByteArray := prog_1_method_3_code
def yX3_person : MethodName := ⟨RX3, "person", "(II)I"⟩
abbrev cX3_second : ByteArray := prog_1_method_4_code
def yX3_second : MethodName := ⟨RX3, "second", "(II)I"⟩
abbrev cX3_allow : ByteArray := prog_1_method_5_code
def yX3_allow : MethodName := ⟨RX3, "allow", "(I)I"⟩
abbrev cX3_insult : ByteArray := prog_1_method_6_code
def yX3_insult : MethodName := ⟨RX3, "insult", "(III)I"⟩
abbrev cX3_settle : ByteArray := prog_1_method_7_code
def yX3_settle : MethodName := ⟨RX3, "settle", "(II)I"⟩
abbrev cX3_fight : ByteArray := prog_1_method_8_code
def yX3_fight : MethodName := ⟨RX3, "fight", "(I)I"⟩
abbrev cX3_swear : ByteArray := prog_1_method_9_code
def yX3_swear : MethodName := ⟨RX3, "swear", "(I)I"⟩
abbrev cX3_pass : ByteArray := prog_1_method_10_code
def yX3_pass : MethodName := ⟨RX3, "pass", "(I)I"⟩
abbrev cX3_of : ByteArray := prog_1_method_11_code
def yX3_of : MethodName := ⟨RX3, "of", "(II)I"⟩
abbrev cX3_quarrel : ByteArray := prog_1_method_12_code
def yX3_quarrel : MethodName := ⟨RX3, "quarrel", "(II)I"⟩
abbrev cX3_record : ByteArray := prog_1_method_13_code
def yX3_record : MethodName := ⟨RX3, "record", "(II)I"⟩
abbrev cX3_pressing : ByteArray := prog_1_method_14_code
def yX3_pressing : MethodName := ⟨RX3, "pressing", "(I)I"⟩
abbrev cX3_insults : ByteArray := prog_1_method_15_code
def yX3_insults : MethodName := ⟨RX3, "insults", "(I)I"⟩
abbrev cX3_count : ByteArray := prog_1_method_16_code
def yX3_count : MethodName := ⟨RX3, "count", "(I)I"⟩
abbrev cX3_why : ByteArray := prog_1_method_17_code
def yX3_why : MethodName := ⟨RX3, "why", "(I)I"⟩
abbrev cX3_firstWay : ByteArray := prog_1_method_18_code
def yX3_firstWay : MethodName := ⟨RX3, "firstWay", "(I)I"⟩
abbrev cX3_opensIn : ByteArray := prog_1_method_19_code
def yX3_opensIn : MethodName := ⟨RX3, "opensIn", "(I)I"⟩
abbrev cX3_dueIn : ByteArray := prog_1_method_20_code
def yX3_dueIn : MethodName := ⟨RX3, "dueIn", "(I)I"⟩
abbrev cX3_ifInsulted : ByteArray := prog_1_method_21_code
def yX3_ifInsulted : MethodName := ⟨RX3, "ifInsulted", "(III)I"⟩
abbrev cX3_ifFought : ByteArray := prog_1_method_22_code
def yX3_ifFought : MethodName := ⟨RX3, "ifFought", "(I)I"⟩
abbrev cX3_undo : ByteArray := prog_1_method_27_code
def yX3_undo : MethodName := ⟨RX3, "undo", "()I"⟩
abbrev cX3_isError : ByteArray := prog_1_method_31_code
def yX3_isError : MethodName := ⟨RX3, "isError", "(I)Z"⟩
def RX4 : String := "QuarrelWaysModel"
def TX4 : u_T := fun k => match k with
  | _ => ("", "", "", false)
def tyX4 : Nat → FieldType := fun k => match k with
  | _ => .int
abbrev wsX40 : List Cond := u_ws RX4 TX4 0
theorem nmX4 : ∀ a, a < 0 → ∀ b, b < 0 → a ≠ b → (TX4 a).2.1 ≠ (TX4 b).2.1 := by decide +kernel
theorem tyX4_ok : ∀ k, k < 0 → parseFieldDescriptor (TX4 k).2.2.1 = some (tyX4 k) := by decide +kernel
def RJ6 : String := "java/lang/Integer"
def TJ6 : u_T := fun k => match k with
  | _ => ("", "", "", false)
def tyJ6 : Nat → FieldType := fun k => match k with
  | _ => .int
abbrev wsJ60 : List Cond := u_ws RJ6 TJ6 0
theorem nmJ6 : ∀ a, a < 0 → ∀ b, b < 0 → a ≠ b → (TJ6 a).2.1 ≠ (TJ6 b).2.1 := by decide +kernel
theorem tyJ6_ok : ∀ k, k < 0 → parseFieldDescriptor (TJ6 k).2.2.1 = some (tyJ6 k) := by decide +kernel
abbrev cJ6_bitCount_0f7a4 : ByteArray := prog_7_method_49_code
def yJ6_bitCount_0f7a4 : MethodName := ⟨RJ6, "bitCount", "(I)I"⟩
def RJ9 : String := "java/lang/Math"
def TJ9 : u_T := fun k => match k with
  | _ => ("", "", "", false)
def tyJ9 : Nat → FieldType := fun k => match k with
  | _ => .int
abbrev wsJ90 : List Cond := u_ws RJ9 TJ9 0
theorem nmJ9 : ∀ a, a < 0 → ∀ b, b < 0 → a ≠ b → (TJ9 a).2.1 ≠ (TJ9 b).2.1 := by decide +kernel
theorem tyJ9_ok : ∀ k, k < 0 → parseFieldDescriptor (TJ9 k).2.2.1 = some (tyJ9 k) := by decide +kernel
abbrev cJ9_floorMod_7cf53 : ByteArray := prog_8_method_50_code
def yJ9_floorMod_7cf53 : MethodName := ⟨RJ9, "floorMod", "(II)I"⟩
abbrev cJ9_max_7cf53 : ByteArray := prog_8_method_65_code
def yJ9_max_7cf53 : MethodName := ⟨RJ9, "max", "(II)I"⟩
abbrev cJ9_min_7cf53 : ByteArray := prog_8_method_69_code
def yJ9_min_7cf53 : MethodName := ⟨RJ9, "min", "(II)I"⟩
def RJ10 : String := "java/lang/System"
def TJ10 : u_T := fun k => match k with
  | _ => ("", "", "", false)
def tyJ10 : Nat → FieldType := fun k => match k with
  | _ => .int
abbrev wsJ100 : List Cond := u_ws RJ10 TJ10 0
theorem nmJ10 : ∀ a, a < 0 → ∀ b, b < 0 → a ≠ b → (TJ10 a).2.1 ≠ (TJ10 b).2.1 := by decide +kernel
theorem tyJ10_ok : ∀ k, k < 0 → parseFieldDescriptor (TJ10 k).2.2.1 = some (tyJ10 k) := by decide +kernel
def RL : String := "QuarrelWaysLaw"
abbrev cL_cell : ByteArray := method_2_code
def yL_cell : MethodName := ⟨RL, "cell", "([II)I"⟩
abbrev cL_low : ByteArray := method_3_code
def yL_low : MethodName := ⟨RL, "low", "(II)I"⟩
abbrev cL_mild : ByteArray := method_4_code
def yL_mild : MethodName := ⟨RL, "mild", "(I)I"⟩
abbrev cL_does : ByteArray := method_5_code
def yL_does : MethodName := ⟨RL, "does", "(LQuarrelWays;I)I"⟩
abbrev cL_bits : ByteArray := method_6_code
def yL_bits : MethodName := ⟨RL, "bits", "(I)I"⟩
abbrev cL_ways : ByteArray := method_7_code
def yL_ways : MethodName := ⟨RL, "ways", "(LQuarrelWays;IIIII)I"⟩
abbrev cL_areQuarrelsSo : ByteArray := method_8_code
def yL_areQuarrelsSo : MethodName := ⟨RL, "areQuarrelsSo", "(LQuarrelWays;)Z"⟩
abbrev cL_arePersonsSo : ByteArray := method_9_code
def yL_arePersonsSo : MethodName := ⟨RL, "arePersonsSo", "(LQuarrelWays;)Z"⟩
abbrev cL_isTimeSo : ByteArray := method_10_code
def yL_isTimeSo : MethodName := ⟨RL, "isTimeSo", "(LQuarrelWays;I)Z"⟩
abbrev cL_isInsultSo : ByteArray := method_11_code
def yL_isInsultSo : MethodName := ⟨RL, "isInsultSo", "(LQuarrelWays;III)Z"⟩
abbrev cL_law : ByteArray := code
def yL_law : MethodName := ⟨RL, "law", "([I)Z"⟩
abbrev vwCl : List vw_C := [(RX0, TX0, 3), (RX1, TX1, 6), (RX2, TX2, 6), (RX3, TX3, 4)]
/-! the words of all methods, one list -/
def B0 : List Cond := [.code yX2_write cX2_write 5 none, .fieldLink RX2 27 "QuarrelWays$Town" "cells" "[I", .code yX2_init cX2_init 1 none, .methodLink RX2 5 objectInit, .instanceMethod objectInit, .code objectInit ⟨#[0xb1]⟩ 1 none, .fieldLink RX2 11 "QuarrelWays$Town" "hour" "I", .fieldLink RX2 15 "QuarrelWays$Town" "allowed" "I", .fieldLink RX2 18 "QuarrelWays$Town" "persons" "I", .fieldLink RX2 21 "QuarrelWays$Town" "quarrels" "I", .fieldLink RX2 24 "QuarrelWays$Town" "events" "I", .arrayClass .int, .methodLink RX2 31 yX2_write, .instanceMethod yX2_write, .selects RX2 yX2_write yX2_write, .initialized RX2, .code yX0_init cX0_init 2 none, .methodLink RX0 3 objectInit, .classLink RX0 9 RX2, .fieldLink RX0 11 "QuarrelWays$History" "states" "[LQuarrelWays$Town;", .fieldLink RX0 15 "QuarrelWays$History" "oldest" "I", .fieldLink RX0 19 "QuarrelWays$History" "size" "I", .instantiable RX2 6, .instanceMethod yX2_init, .code yJ9_floorMod_7cf53 cJ9_floorMod_7cf53 3 (some .int)]
def B1 : List Cond := [.code yX0_placeOf cX0_placeOf 2 (some .int), .methodLink RX0 41 yJ9_floorMod_7cf53, .static yJ9_floorMod_7cf53, .initialized RJ9, .code yX0_stateAt cX0_stateAt 3 (some (.object "QuarrelWays$Town")), .methodLink RX0 37 yX0_placeOf, .instanceMethod yX0_placeOf, .selects RX0 yX0_placeOf yX0_placeOf, .initialized RX0, .code yX2_become cX2_become 2 none, .methodLink RX2 35 Lib.Math.min.name, .static Lib.Math.min.name, .code Lib.Math.min.name Lib.Math.min.code 2 (some .int), .methodLink RX2 41 arraycopyName, .native arraycopyName, .static arraycopyName, .initialized RJ10, .methodLink RX0 23 yX0_stateAt, .instanceMethod yX0_stateAt, .selects RX0 yX0_stateAt yX0_stateAt, .instanceMethod yX2_become, .selects RX2 yX2_become yX2_become, .code yX0_note cX0_note 3 none, .code yX3_isError cX3_isError 1 (some .boolean), .code yX0_keepUnlessError cX0_keepUnlessError 2 (some .int)]
def B2 : List Cond := [.static yX3_isError, .initialized RX3, .code yX0_goBack cX0_goBack 3 (some .boolean), .code yX1_init cX1_init 1 none, .methodLink RX1 3 objectInit, .fieldLink RX1 11 "QuarrelWays$Pad" "signs" "[I", .fieldLink RX1 15 "QuarrelWays$Pad" "length" "I", .fieldLink RX1 19 "QuarrelWays$Pad" "at" "I", .fieldLink RX1 22 "QuarrelWays$Pad" "order" "I", .fieldLink RX1 25 "QuarrelWays$Pad" "numbers" "[I", .fieldLink RX1 28 "QuarrelWays$Pad" "numbersRead" "I", .code yX2_read cX2_read 4 (some .int), .code yX2_hasPerson cX2_hasPerson 2 (some .boolean), .code yX2_hasQuarrel cX2_hasQuarrel 2 (some .boolean), .code yX2_isOpen cX2_isOpen 2 (some .boolean), .methodLink RX2 47 yX2_read, .instanceMethod yX2_read, .selects RX2 yX2_read yX2_read, .code yX2_allows cX2_allows 2 (some .boolean), .code yX2_hoursSince cX2_hoursSince 2 (some .int), .code yX2_oathLeft cX2_oathLeft 2 (some .int), .methodLink RX2 50 Lib.Math.max.name, .static Lib.Math.max.name, .code Lib.Math.max.name Lib.Math.max.code 2 (some .int), .code yX2_isPoints cX2_isPoints 1 (some .boolean)]
def B3 : List Cond := [.code yX2_isRank cX2_isRank 1 (some .boolean), .code yX2_areThese cX2_areThese 4 (some .boolean), .code yX2_changeSetting cX2_changeSetting 4 (some .int), .fieldLink RX2 53 "QuarrelWays$Town" "LOWEST" "[I", .fieldLink RX2 56 "QuarrelWays$Town" "HIGHEST" "[I", .code yX2_addPerson cX2_addPerson 4 (some .int), .methodLink RX2 59 yX2_isPoints, .static yX2_isPoints, .code yX2_takeSecond cX2_takeSecond 4 (some .int), .methodLink RX2 63 yX2_hasPerson, .instanceMethod yX2_hasPerson, .selects RX2 yX2_hasPerson yX2_hasPerson, .code yX2_allowOrBar cX2_allowOrBar 2 (some .int), .code yX2_errorOfInsult cX2_errorOfInsult 4 (some .int), .methodLink RX2 66 yX2_isRank, .static yX2_isRank, .code yX2_haveOpenQuarrel cX2_haveOpenQuarrel 4 (some .boolean), .methodLink RX2 69 yX2_isOpen, .instanceMethod yX2_isOpen, .selects RX2 yX2_isOpen yX2_isOpen, .methodLink RX2 72 yX2_areThese, .static yX2_areThese, .code yX2_addEvent cX2_addEvent 4 none, .methodLink RX2 114 yJ9_floorMod_7cf53, .methodLink RX2 76 yX2_errorOfInsult]
def B4 : List Cond := [.instanceMethod yX2_errorOfInsult, .selects RX2 yX2_errorOfInsult yX2_errorOfInsult, .methodLink RX2 80 yX2_haveOpenQuarrel, .instanceMethod yX2_haveOpenQuarrel, .selects RX2 yX2_haveOpenQuarrel yX2_haveOpenQuarrel, .methodLink RX2 84 yX2_addEvent, .instanceMethod yX2_addEvent, .selects RX2 yX2_addEvent yX2_addEvent, .code yX2_addQuarrel cX2_addQuarrel 6 (some .int), .code yX2_secondsCanSettle cX2_secondsCanSettle 6 (some .boolean), .code yX2_hoursToCool cX2_hoursToCool 2 (some .int), .code yX2_peaceLeft cX2_peaceLeft 5 (some .int), .methodLink RX2 124 yX2_secondsCanSettle, .instanceMethod yX2_secondsCanSettle, .selects RX2 yX2_secondsCanSettle yX2_secondsCanSettle, .methodLink RX2 128 yX2_hoursToCool, .instanceMethod yX2_hoursToCool, .selects RX2 yX2_hoursToCool yX2_hoursToCool, .methodLink RX2 111 yX2_oathLeft, .instanceMethod yX2_oathLeft, .selects RX2 yX2_oathLeft yX2_oathLeft, .methodLink RX2 131 yX2_peaceLeft, .instanceMethod yX2_peaceLeft, .selects RX2 yX2_peaceLeft yX2_peaceLeft, .code yX2_waysBetween cX2_waysBetween 6 (some .int)]
def B5 : List Cond := [.methodLink RX2 117 yX2_hoursSince, .instanceMethod yX2_hoursSince, .selects RX2 yX2_hoursSince yX2_hoursSince, .methodLink RX2 120 yX2_waysBetween, .instanceMethod yX2_waysBetween, .selects RX2 yX2_waysBetween yX2_waysBetween, .code yX2_waysOf cX2_waysOf 2 (some .int), .code yX2_addPoints cX2_addPoints 5 none, .code yX2_quarrelsWith cX2_quarrelsWith 5 (some .int), .methodLink RX2 88 yX2_hasQuarrel, .instanceMethod yX2_hasQuarrel, .selects RX2 yX2_hasQuarrel yX2_hasQuarrel, .methodLink RX2 91 yX2_waysOf, .instanceMethod yX2_waysOf, .selects RX2 yX2_waysOf yX2_waysOf, .methodLink RX2 95 yX2_addPoints, .instanceMethod yX2_addPoints, .selects RX2 yX2_addPoints yX2_addPoints, .methodLink RX2 98 yX2_quarrelsWith, .instanceMethod yX2_quarrelsWith, .selects RX2 yX2_quarrelsWith yX2_quarrelsWith, .code yX2_settleBy cX2_settleBy 3 (some .int), .code yX2_whyNotDue cX2_whyNotDue 3 (some .int), .code yX2_skillOf cX2_skillOf 2 (some .int), .code yX2_winnerOf cX2_winnerOf 4 (some .int)]
def B6 : List Cond := [.methodLink RX2 143 yX2_skillOf, .instanceMethod yX2_skillOf, .selects RX2 yX2_skillOf yX2_skillOf, .code yX2_bindByOath cX2_bindByOath 3 none, .methodLink RX2 101 yX2_whyNotDue, .instanceMethod yX2_whyNotDue, .selects RX2 yX2_whyNotDue yX2_whyNotDue, .methodLink RX2 104 yX2_winnerOf, .instanceMethod yX2_winnerOf, .selects RX2 yX2_winnerOf yX2_winnerOf, .methodLink RX2 107 yX2_bindByOath, .instanceMethod yX2_bindByOath, .selects RX2 yX2_bindByOath yX2_bindByOath, .code yX2_duel cX2_duel 5 (some .int), .code yX2_takeOath cX2_takeOath 2 (some .int), .code yX2_moveOn cX2_moveOn 3 (some .int), .code yX2_firstOf cX2_firstOf 2 (some .int), .code yX2_hoursUntilCool cX2_hoursUntilCool 2 (some .int), .code yX2_orNoneIfTooFar cX2_orNoneIfTooFar 1 (some .int), .methodLink RX2 134 yX2_allows, .instanceMethod yX2_allows, .selects RX2 yX2_allows yX2_allows, .methodLink RX2 137 yX2_hoursUntilCool, .instanceMethod yX2_hoursUntilCool, .selects RX2 yX2_hoursUntilCool yX2_hoursUntilCool]
def B7 : List Cond := [.methodLink RX2 140 yX2_orNoneIfTooFar, .static yX2_orNoneIfTooFar, .code yX2_hoursUntilWay cX2_hoursUntilWay 2 (some .int), .code yX2_hoursUntilDuel cX2_hoursUntilDuel 5 (some .int), .code yX2_duelsOf cX2_duelsOf 5 (some .int), .code yX2_personsWithSecond cX2_personsWithSecond 4 (some .int), .methodLink RX2 146 yX2_duelsOf, .instanceMethod yX2_duelsOf, .selects RX2 yX2_duelsOf yX2_duelsOf, .methodLink RX2 149 yX2_personsWithSecond, .instanceMethod yX2_personsWithSecond, .selects RX2 yX2_personsWithSecond yX2_personsWithSecond, .code yX2_tellPerson cX2_tellPerson 3 (some .int), .code yX2_tellQuarrel cX2_tellQuarrel 3 (some .int), .code yX2_tellEvent cX2_tellEvent 4 (some .int), .code yX2_pressureOf cX2_pressureOf 2 (some .int), .code yX2_quarrelsBefore cX2_quarrelsBefore 5 (some .int), .methodLink RX2 155 yX2_pressureOf, .instanceMethod yX2_pressureOf, .selects RX2 yX2_pressureOf yX2_pressureOf, .code yX2_quarrelThatPresses cX2_quarrelThatPresses 3 (some .int), .methodLink RX2 152 yX2_quarrelsBefore, .instanceMethod yX2_quarrelsBefore, .selects RX2 yX2_quarrelsBefore yX2_quarrelsBefore, .code yX2_insultsFrom cX2_insultsFrom 4 (some .int)]
def B8 : List Cond := [.code yX2_openQuarrels cX2_openQuarrels 3 (some .int), .code yX2_dueQuarrels cX2_dueQuarrels 3 (some .int), .code yX2_personsUnderOath cX2_personsUnderOath 3 (some .int), .methodLink RX2 158 yX2_openQuarrels, .instanceMethod yX2_openQuarrels, .selects RX2 yX2_openQuarrels yX2_openQuarrels, .methodLink RX2 162 yX2_dueQuarrels, .instanceMethod yX2_dueQuarrels, .selects RX2 yX2_dueQuarrels yX2_dueQuarrels, .methodLink RX2 165 yX2_personsUnderOath, .instanceMethod yX2_personsUnderOath, .selects RX2 yX2_personsUnderOath yX2_personsUnderOath, .code yX2_tellNumber cX2_tellNumber 2 (some .int), .methodLink RX3 1 objectInit, .classLink RX3 7 RX2, .fieldLink RX3 10 "QuarrelWays" "town" "LQuarrelWays$Town;", .classLink RX3 16 RX0, .instantiable RX0 3, .fieldLink RX3 19 "QuarrelWays" "history" "LQuarrelWays$History;", .classLink RX3 23 RX1, .instantiable RX1 6, .initialized RX1, .fieldLink RX3 26 "QuarrelWays" "pad" "LQuarrelWays$Pad;", .fieldLink RX3 30 "QuarrelWays" "slots" "[LQuarrelWays$Town;", .instanceMethod yX0_init]
def B9 : List Cond := [.instanceMethod yX1_init, .code yX3_init cX3_init 1 none, .instanceMethod yX0_note, .selects RX0 yX0_note yX0_note, .instanceMethod yX2_changeSetting, .selects RX2 yX2_changeSetting yX2_changeSetting, .instanceMethod yX0_keepUnlessError, .selects RX0 yX0_keepUnlessError yX0_keepUnlessError, .code yX3_set cX3_set 3 (some .int), .instanceMethod yX2_addPerson, .selects RX2 yX2_addPerson yX2_addPerson, .code yX3_person cX3_person 3 (some .int), .instanceMethod yX2_takeSecond, .selects RX2 yX2_takeSecond yX2_takeSecond, .code yX3_second cX3_second 3 (some .int), .instanceMethod yX2_allowOrBar, .selects RX2 yX2_allowOrBar yX2_allowOrBar, .code yX3_allow cX3_allow 2 (some .int), .instanceMethod yX2_addQuarrel, .selects RX2 yX2_addQuarrel yX2_addQuarrel, .code yX3_insult cX3_insult 4 (some .int), .instanceMethod yX2_settleBy, .selects RX2 yX2_settleBy yX2_settleBy, .code yX3_settle cX3_settle 3 (some .int), .instanceMethod yX2_duel]
def B10 : List Cond := [.selects RX2 yX2_duel yX2_duel, .code yX3_fight cX3_fight 2 (some .int), .instanceMethod yX2_takeOath, .selects RX2 yX2_takeOath yX2_takeOath, .code yX3_swear cX3_swear 2 (some .int), .code yJ6_bitCount_0f7a4 cJ6_bitCount_0f7a4 1 (some .int), .constant RJ6 265 1431655765, .constant RJ6 266 858993459, .constant RJ6 267 252645135, .instanceMethod yX2_moveOn, .selects RX2 yX2_moveOn yX2_moveOn, .methodLink RX3 71 yX3_isError, .methodLink RX3 79 yJ6_bitCount_0f7a4, .static yJ6_bitCount_0f7a4, .initialized RJ6, .code yX3_pass cX3_pass 3 (some .int), .instanceMethod yX2_tellPerson, .selects RX2 yX2_tellPerson yX2_tellPerson, .code yX3_of cX3_of 3 (some .int), .instanceMethod yX2_tellQuarrel, .selects RX2 yX2_tellQuarrel yX2_tellQuarrel, .code yX3_quarrel cX3_quarrel 3 (some .int), .code yX3_record cX3_record 3 (some .int), .instanceMethod yX2_tellEvent, .selects RX2 yX2_tellEvent yX2_tellEvent]
def B11 : List Cond := [.instanceMethod yX2_quarrelThatPresses, .selects RX2 yX2_quarrelThatPresses yX2_quarrelThatPresses, .code yX3_pressing cX3_pressing 2 (some .int), .code yX3_insults cX3_insults 2 (some .int), .instanceMethod yX2_insultsFrom, .selects RX2 yX2_insultsFrom yX2_insultsFrom, .instanceMethod yX2_tellNumber, .selects RX2 yX2_tellNumber yX2_tellNumber, .code yX3_count cX3_count 2 (some .int), .code yX3_why cX3_why 2 (some .int), .static yX2_firstOf, .code yX3_firstWay cX3_firstWay 2 (some .int), .instanceMethod yX2_hoursUntilWay, .selects RX2 yX2_hoursUntilWay yX2_hoursUntilWay, .code yX3_opensIn cX3_opensIn 2 (some .int), .instanceMethod yX2_hoursUntilDuel, .selects RX2 yX2_hoursUntilDuel yX2_hoursUntilDuel, .code yX3_dueIn cX3_dueIn 2 (some .int), .code yX3_ifInsulted cX3_ifInsulted 5 (some .int), .code yX3_ifFought cX3_ifFought 2 (some .int), .instanceMethod yX0_goBack, .selects RX0 yX0_goBack yX0_goBack, .code yX3_undo cX3_undo 1 (some .int), .code yJ9_max_7cf53 cJ9_max_7cf53 2 (some .int), .code yJ9_min_7cf53 cJ9_min_7cf53 2 (some .int)]
def B12 : List Cond := [.code yL_cell cL_cell 2 (some .int), .code yL_low cL_low 2 (some .int), .constant RL 7 2147483647, .code yL_mild cL_mild 1 (some .int), .methodLink RL 10 yX3_count, .instanceMethod yX3_count, .selects RX3 yX3_count yX3_count, .methodLink RL 14 yL_low, .static yL_low, .initialized RL, .methodLink RL 20 yX3_insult, .instanceMethod yX3_insult, .selects RX3 yX3_insult yX3_insult, .methodLink RL 24 yL_mild, .static yL_mild, .methodLink RL 27 yX3_second, .instanceMethod yX3_second, .selects RX3 yX3_second yX3_second, .methodLink RL 30 yX3_allow, .instanceMethod yX3_allow, .selects RX3 yX3_allow yX3_allow, .methodLink RL 33 yX3_settle, .instanceMethod yX3_settle, .selects RX3 yX3_settle yX3_settle, .methodLink RL 36 yX3_fight]
def B13 : List Cond := [.instanceMethod yX3_fight, .selects RX3 yX3_fight yX3_fight, .methodLink RL 39 yX3_swear, .instanceMethod yX3_swear, .selects RX3 yX3_swear yX3_swear, .methodLink RL 42 yX3_person, .instanceMethod yX3_person, .selects RX3 yX3_person yX3_person, .methodLink RL 45 yX3_set, .instanceMethod yX3_set, .selects RX3 yX3_set yX3_set, .methodLink RL 48 yX3_pass, .instanceMethod yX3_pass, .selects RX3 yX3_pass yX3_pass, .code yL_does cL_does 7 (some .int), .code yL_bits cL_bits 3 (some .int), .methodLink RL 51 yX3_of, .instanceMethod yX3_of, .selects RX3 yX3_of yX3_of, .methodLink RL 54 yX3_record, .instanceMethod yX3_record, .selects RX3 yX3_record yX3_record, .methodLink RL 57 yX3_quarrel, .instanceMethod yX3_quarrel, .selects RX3 yX3_quarrel yX3_quarrel]
def B14 : List Cond := [.code yL_ways cL_ways 14 (some .int), .methodLink RL 60 yL_ways, .static yL_ways, .methodLink RL 64 yX3_firstWay, .instanceMethod yX3_firstWay, .selects RX3 yX3_firstWay yX3_firstWay, .methodLink RL 67 yX3_why, .instanceMethod yX3_why, .selects RX3 yX3_why yX3_why, .methodLink RL 70 yX3_ifFought, .instanceMethod yX3_ifFought, .selects RX3 yX3_ifFought yX3_ifFought, .methodLink RL 73 yL_bits, .static yL_bits, .code yL_areQuarrelsSo cL_areQuarrelsSo 14 (some .boolean), .methodLink RL 76 yX3_pressing, .instanceMethod yX3_pressing, .selects RX3 yX3_pressing yX3_pressing, .methodLink RL 79 yX3_insults, .instanceMethod yX3_insults, .selects RX3 yX3_insults yX3_insults, .code yL_arePersonsSo cL_arePersonsSo 13 (some .boolean), .methodLink RL 82 yX3_opensIn, .instanceMethod yX3_opensIn, .selects RX3 yX3_opensIn yX3_opensIn]
def B15 : List Cond := [.methodLink RL 85 yX3_dueIn, .instanceMethod yX3_dueIn, .selects RX3 yX3_dueIn yX3_dueIn, .methodLink RL 88 yX3_undo, .instanceMethod yX3_undo, .selects RX3 yX3_undo yX3_undo, .code yL_isTimeSo cL_isTimeSo 7 (some .boolean), .methodLink RL 92 yX3_ifInsulted, .instanceMethod yX3_ifInsulted, .selects RX3 yX3_ifInsulted yX3_ifInsulted, .code yL_isInsultSo cL_isInsultSo 8 (some .boolean), .classLink RL 8 RX3, .instantiable RX3 4, .methodLink RL 95 yX3_init, .instanceMethod yX3_init, .methodLink RL 96 yL_cell, .static yL_cell, .methodLink RL 100 yL_does, .static yL_does, .methodLink RL 104 yL_areQuarrelsSo, .static yL_areQuarrelsSo, .methodLink RL 108 yL_arePersonsSo, .static yL_arePersonsSo, .methodLink RL 111 yL_isInsultSo, .static yL_isInsultSo]
def B16 : List Cond := [.methodLink RL 115 yL_isTimeSo, .static yL_isTimeSo]
def BW : List Cond := B0 ++ (B1 ++ (B2 ++ (B3 ++ (B4 ++ (B5 ++ (B6 ++ (B7 ++ (B8 ++ (B9 ++ (B10 ++ (B11 ++ (B12 ++ (B13 ++ (B14 ++ (B15 ++ (B16 ++ (wsX00 ++ (wsX10 ++ (wsX20 ++ (wsX30))))))))))))))))))))
theorem mb_0 {w : Cond} (h : w ∈ B0) : w ∈ BW := (List.mem_append_left _ h)
theorem mb_1 {w : Cond} (h : w ∈ B1) : w ∈ BW := (List.mem_append_right _ (List.mem_append_left _ h))
theorem mb_2 {w : Cond} (h : w ∈ B2) : w ∈ BW := (List.mem_append_right _ (List.mem_append_right _ (List.mem_append_left _ h)))
theorem mb_3 {w : Cond} (h : w ∈ B3) : w ∈ BW := (List.mem_append_right _ (List.mem_append_right _ (List.mem_append_right _ (List.mem_append_left _ h))))
theorem mb_4 {w : Cond} (h : w ∈ B4) : w ∈ BW := (List.mem_append_right _ (List.mem_append_right _ (List.mem_append_right _ (List.mem_append_right _ (List.mem_append_left _ h)))))
theorem mb_5 {w : Cond} (h : w ∈ B5) : w ∈ BW := (List.mem_append_right _ (List.mem_append_right _ (List.mem_append_right _ (List.mem_append_right _ (List.mem_append_right _ (List.mem_append_left _ h))))))
theorem mb_6 {w : Cond} (h : w ∈ B6) : w ∈ BW := (List.mem_append_right _ (List.mem_append_right _ (List.mem_append_right _ (List.mem_append_right _ (List.mem_append_right _ (List.mem_append_right _ (List.mem_append_left _ h)))))))
theorem mb_7 {w : Cond} (h : w ∈ B7) : w ∈ BW := (List.mem_append_right _ (List.mem_append_right _ (List.mem_append_right _ (List.mem_append_right _ (List.mem_append_right _ (List.mem_append_right _ (List.mem_append_right _ (List.mem_append_left _ h))))))))
theorem mb_8 {w : Cond} (h : w ∈ B8) : w ∈ BW := (List.mem_append_right _ (List.mem_append_right _ (List.mem_append_right _ (List.mem_append_right _ (List.mem_append_right _ (List.mem_append_right _ (List.mem_append_right _ (List.mem_append_right _ (List.mem_append_left _ h)))))))))
theorem mb_9 {w : Cond} (h : w ∈ B9) : w ∈ BW := (List.mem_append_right _ (List.mem_append_right _ (List.mem_append_right _ (List.mem_append_right _ (List.mem_append_right _ (List.mem_append_right _ (List.mem_append_right _ (List.mem_append_right _ (List.mem_append_right _ (List.mem_append_left _ h))))))))))
theorem mb_10 {w : Cond} (h : w ∈ B10) : w ∈ BW := (List.mem_append_right _ (List.mem_append_right _ (List.mem_append_right _ (List.mem_append_right _ (List.mem_append_right _ (List.mem_append_right _ (List.mem_append_right _ (List.mem_append_right _ (List.mem_append_right _ (List.mem_append_right _ (List.mem_append_left _ h)))))))))))
theorem mb_11 {w : Cond} (h : w ∈ B11) : w ∈ BW := (List.mem_append_right _ (List.mem_append_right _ (List.mem_append_right _ (List.mem_append_right _ (List.mem_append_right _ (List.mem_append_right _ (List.mem_append_right _ (List.mem_append_right _ (List.mem_append_right _ (List.mem_append_right _ (List.mem_append_right _ (List.mem_append_left _ h))))))))))))
theorem mb_12 {w : Cond} (h : w ∈ B12) : w ∈ BW := (List.mem_append_right _ (List.mem_append_right _ (List.mem_append_right _ (List.mem_append_right _ (List.mem_append_right _ (List.mem_append_right _ (List.mem_append_right _ (List.mem_append_right _ (List.mem_append_right _ (List.mem_append_right _ (List.mem_append_right _ (List.mem_append_right _ (List.mem_append_left _ h)))))))))))))
theorem mb_13 {w : Cond} (h : w ∈ B13) : w ∈ BW := (List.mem_append_right _ (List.mem_append_right _ (List.mem_append_right _ (List.mem_append_right _ (List.mem_append_right _ (List.mem_append_right _ (List.mem_append_right _ (List.mem_append_right _ (List.mem_append_right _ (List.mem_append_right _ (List.mem_append_right _ (List.mem_append_right _ (List.mem_append_right _ (List.mem_append_left _ h))))))))))))))
theorem mb_14 {w : Cond} (h : w ∈ B14) : w ∈ BW := (List.mem_append_right _ (List.mem_append_right _ (List.mem_append_right _ (List.mem_append_right _ (List.mem_append_right _ (List.mem_append_right _ (List.mem_append_right _ (List.mem_append_right _ (List.mem_append_right _ (List.mem_append_right _ (List.mem_append_right _ (List.mem_append_right _ (List.mem_append_right _ (List.mem_append_right _ (List.mem_append_left _ h)))))))))))))))
theorem mb_15 {w : Cond} (h : w ∈ B15) : w ∈ BW := (List.mem_append_right _ (List.mem_append_right _ (List.mem_append_right _ (List.mem_append_right _ (List.mem_append_right _ (List.mem_append_right _ (List.mem_append_right _ (List.mem_append_right _ (List.mem_append_right _ (List.mem_append_right _ (List.mem_append_right _ (List.mem_append_right _ (List.mem_append_right _ (List.mem_append_right _ (List.mem_append_right _ (List.mem_append_left _ h))))))))))))))))
theorem mb_16 {w : Cond} (h : w ∈ B16) : w ∈ BW := (List.mem_append_right _ (List.mem_append_right _ (List.mem_append_right _ (List.mem_append_right _ (List.mem_append_right _ (List.mem_append_right _ (List.mem_append_right _ (List.mem_append_right _ (List.mem_append_right _ (List.mem_append_right _ (List.mem_append_right _ (List.mem_append_right _ (List.mem_append_right _ (List.mem_append_right _ (List.mem_append_right _ (List.mem_append_right _ (List.mem_append_left _ h)))))))))))))))))
theorem mb_17 {w : Cond} (h : w ∈ wsX00) : w ∈ BW := (List.mem_append_right _ (List.mem_append_right _ (List.mem_append_right _ (List.mem_append_right _ (List.mem_append_right _ (List.mem_append_right _ (List.mem_append_right _ (List.mem_append_right _ (List.mem_append_right _ (List.mem_append_right _ (List.mem_append_right _ (List.mem_append_right _ (List.mem_append_right _ (List.mem_append_right _ (List.mem_append_right _ (List.mem_append_right _ (List.mem_append_right _ (List.mem_append_left _ h))))))))))))))))))
theorem mb_18 {w : Cond} (h : w ∈ wsX10) : w ∈ BW := (List.mem_append_right _ (List.mem_append_right _ (List.mem_append_right _ (List.mem_append_right _ (List.mem_append_right _ (List.mem_append_right _ (List.mem_append_right _ (List.mem_append_right _ (List.mem_append_right _ (List.mem_append_right _ (List.mem_append_right _ (List.mem_append_right _ (List.mem_append_right _ (List.mem_append_right _ (List.mem_append_right _ (List.mem_append_right _ (List.mem_append_right _ (List.mem_append_right _ (List.mem_append_left _ h)))))))))))))))))))
theorem mb_19 {w : Cond} (h : w ∈ wsX20) : w ∈ BW := (List.mem_append_right _ (List.mem_append_right _ (List.mem_append_right _ (List.mem_append_right _ (List.mem_append_right _ (List.mem_append_right _ (List.mem_append_right _ (List.mem_append_right _ (List.mem_append_right _ (List.mem_append_right _ (List.mem_append_right _ (List.mem_append_right _ (List.mem_append_right _ (List.mem_append_right _ (List.mem_append_right _ (List.mem_append_right _ (List.mem_append_right _ (List.mem_append_right _ (List.mem_append_right _ (List.mem_append_left _ h))))))))))))))))))))
theorem mb_20 {w : Cond} (h : w ∈ wsX30) : w ∈ BW := (List.mem_append_right _ (List.mem_append_right _ (List.mem_append_right _ (List.mem_append_right _ (List.mem_append_right _ (List.mem_append_right _ (List.mem_append_right _ (List.mem_append_right _ (List.mem_append_right _ (List.mem_append_right _ (List.mem_append_right _ (List.mem_append_right _ (List.mem_append_right _ (List.mem_append_right _ (List.mem_append_right _ (List.mem_append_right _ (List.mem_append_right _ (List.mem_append_right _ (List.mem_append_right _ (List.mem_append_right _ h))))))))))))))))))))
theorem mw_0 : .code yX2_write cX2_write 5 none ∈ BW := mb_0 (List.mem_of_getElem? (i := 0) rfl)
theorem mw_1 : .fieldLink RX2 27 "QuarrelWays$Town" "cells" "[I" ∈ BW := mb_0 (List.mem_of_getElem? (i := 1) rfl)
theorem mw_2 : .code yX2_init cX2_init 1 none ∈ BW := mb_0 (List.mem_of_getElem? (i := 2) rfl)
theorem mw_3 : .methodLink RX2 5 objectInit ∈ BW := mb_0 (List.mem_of_getElem? (i := 3) rfl)
theorem mw_4 : .instanceMethod objectInit ∈ BW := mb_0 (List.mem_of_getElem? (i := 4) rfl)
theorem mw_5 : .code objectInit ⟨#[0xb1]⟩ 1 none ∈ BW := mb_0 (List.mem_of_getElem? (i := 5) rfl)
theorem mw_6 : .fieldLink RX2 11 "QuarrelWays$Town" "hour" "I" ∈ BW := mb_0 (List.mem_of_getElem? (i := 6) rfl)
theorem mw_7 : .fieldLink RX2 15 "QuarrelWays$Town" "allowed" "I" ∈ BW := mb_0 (List.mem_of_getElem? (i := 7) rfl)
theorem mw_8 : .fieldLink RX2 18 "QuarrelWays$Town" "persons" "I" ∈ BW := mb_0 (List.mem_of_getElem? (i := 8) rfl)
theorem mw_9 : .fieldLink RX2 21 "QuarrelWays$Town" "quarrels" "I" ∈ BW := mb_0 (List.mem_of_getElem? (i := 9) rfl)
theorem mw_10 : .fieldLink RX2 24 "QuarrelWays$Town" "events" "I" ∈ BW := mb_0 (List.mem_of_getElem? (i := 10) rfl)
theorem mw_11 : .arrayClass .int ∈ BW := mb_0 (List.mem_of_getElem? (i := 11) rfl)
theorem mw_12 : .methodLink RX2 31 yX2_write ∈ BW := mb_0 (List.mem_of_getElem? (i := 12) rfl)
theorem mw_13 : .instanceMethod yX2_write ∈ BW := mb_0 (List.mem_of_getElem? (i := 13) rfl)
theorem mw_14 : .selects RX2 yX2_write yX2_write ∈ BW := mb_0 (List.mem_of_getElem? (i := 14) rfl)
theorem mw_15 : .initialized RX2 ∈ BW := mb_0 (List.mem_of_getElem? (i := 15) rfl)
theorem mw_16 : .code yX0_init cX0_init 2 none ∈ BW := mb_0 (List.mem_of_getElem? (i := 16) rfl)
theorem mw_17 : .methodLink RX0 3 objectInit ∈ BW := mb_0 (List.mem_of_getElem? (i := 17) rfl)
theorem mw_18 : .classLink RX0 9 RX2 ∈ BW := mb_0 (List.mem_of_getElem? (i := 18) rfl)
theorem mw_19 : .fieldLink RX0 11 "QuarrelWays$History" "states" "[LQuarrelWays$Town;" ∈ BW := mb_0 (List.mem_of_getElem? (i := 19) rfl)
theorem mw_20 : .fieldLink RX0 15 "QuarrelWays$History" "oldest" "I" ∈ BW := mb_0 (List.mem_of_getElem? (i := 20) rfl)
theorem mw_21 : .fieldLink RX0 19 "QuarrelWays$History" "size" "I" ∈ BW := mb_0 (List.mem_of_getElem? (i := 21) rfl)
theorem mw_22 : .instantiable RX2 6 ∈ BW := mb_0 (List.mem_of_getElem? (i := 22) rfl)
theorem mw_23 : .instanceMethod yX2_init ∈ BW := mb_0 (List.mem_of_getElem? (i := 23) rfl)
theorem mw_24 : .code yJ9_floorMod_7cf53 cJ9_floorMod_7cf53 3 (some .int) ∈ BW := mb_0 (List.mem_of_getElem? (i := 24) rfl)
theorem mw_25 : .code yX0_placeOf cX0_placeOf 2 (some .int) ∈ BW := mb_1 (List.mem_of_getElem? (i := 0) rfl)
theorem mw_26 : .methodLink RX0 41 yJ9_floorMod_7cf53 ∈ BW := mb_1 (List.mem_of_getElem? (i := 1) rfl)
theorem mw_27 : .static yJ9_floorMod_7cf53 ∈ BW := mb_1 (List.mem_of_getElem? (i := 2) rfl)
theorem mw_28 : .initialized RJ9 ∈ BW := mb_1 (List.mem_of_getElem? (i := 3) rfl)
theorem mw_29 : .code yX0_stateAt cX0_stateAt 3 (some (.object "QuarrelWays$Town")) ∈ BW := mb_1 (List.mem_of_getElem? (i := 4) rfl)
theorem mw_30 : .methodLink RX0 37 yX0_placeOf ∈ BW := mb_1 (List.mem_of_getElem? (i := 5) rfl)
theorem mw_31 : .instanceMethod yX0_placeOf ∈ BW := mb_1 (List.mem_of_getElem? (i := 6) rfl)
theorem mw_32 : .selects RX0 yX0_placeOf yX0_placeOf ∈ BW := mb_1 (List.mem_of_getElem? (i := 7) rfl)
theorem mw_33 : .initialized RX0 ∈ BW := mb_1 (List.mem_of_getElem? (i := 8) rfl)
theorem mw_34 : .code yX2_become cX2_become 2 none ∈ BW := mb_1 (List.mem_of_getElem? (i := 9) rfl)
theorem mw_35 : .methodLink RX2 35 Lib.Math.min.name ∈ BW := mb_1 (List.mem_of_getElem? (i := 10) rfl)
theorem mw_36 : .static Lib.Math.min.name ∈ BW := mb_1 (List.mem_of_getElem? (i := 11) rfl)
theorem mw_37 : .code Lib.Math.min.name Lib.Math.min.code 2 (some .int) ∈ BW := mb_1 (List.mem_of_getElem? (i := 12) rfl)
theorem mw_38 : .methodLink RX2 41 arraycopyName ∈ BW := mb_1 (List.mem_of_getElem? (i := 13) rfl)
theorem mw_39 : .native arraycopyName ∈ BW := mb_1 (List.mem_of_getElem? (i := 14) rfl)
theorem mw_40 : .static arraycopyName ∈ BW := mb_1 (List.mem_of_getElem? (i := 15) rfl)
theorem mw_41 : .initialized RJ10 ∈ BW := mb_1 (List.mem_of_getElem? (i := 16) rfl)
theorem mw_42 : .methodLink RX0 23 yX0_stateAt ∈ BW := mb_1 (List.mem_of_getElem? (i := 17) rfl)
theorem mw_43 : .instanceMethod yX0_stateAt ∈ BW := mb_1 (List.mem_of_getElem? (i := 18) rfl)
theorem mw_44 : .selects RX0 yX0_stateAt yX0_stateAt ∈ BW := mb_1 (List.mem_of_getElem? (i := 19) rfl)
theorem mw_45 : .instanceMethod yX2_become ∈ BW := mb_1 (List.mem_of_getElem? (i := 20) rfl)
theorem mw_46 : .selects RX2 yX2_become yX2_become ∈ BW := mb_1 (List.mem_of_getElem? (i := 21) rfl)
theorem mw_47 : .code yX0_note cX0_note 3 none ∈ BW := mb_1 (List.mem_of_getElem? (i := 22) rfl)
theorem mw_48 : .code yX3_isError cX3_isError 1 (some .boolean) ∈ BW := mb_1 (List.mem_of_getElem? (i := 23) rfl)
theorem mw_49 : .code yX0_keepUnlessError cX0_keepUnlessError 2 (some .int) ∈ BW := mb_1 (List.mem_of_getElem? (i := 24) rfl)
theorem mw_50 : .static yX3_isError ∈ BW := mb_2 (List.mem_of_getElem? (i := 0) rfl)
theorem mw_51 : .initialized RX3 ∈ BW := mb_2 (List.mem_of_getElem? (i := 1) rfl)
theorem mw_52 : .code yX0_goBack cX0_goBack 3 (some .boolean) ∈ BW := mb_2 (List.mem_of_getElem? (i := 2) rfl)
theorem mw_53 : .code yX1_init cX1_init 1 none ∈ BW := mb_2 (List.mem_of_getElem? (i := 3) rfl)
theorem mw_54 : .methodLink RX1 3 objectInit ∈ BW := mb_2 (List.mem_of_getElem? (i := 4) rfl)
theorem mw_55 : .fieldLink RX1 11 "QuarrelWays$Pad" "signs" "[I" ∈ BW := mb_2 (List.mem_of_getElem? (i := 5) rfl)
theorem mw_56 : .fieldLink RX1 15 "QuarrelWays$Pad" "length" "I" ∈ BW := mb_2 (List.mem_of_getElem? (i := 6) rfl)
theorem mw_57 : .fieldLink RX1 19 "QuarrelWays$Pad" "at" "I" ∈ BW := mb_2 (List.mem_of_getElem? (i := 7) rfl)
theorem mw_58 : .fieldLink RX1 22 "QuarrelWays$Pad" "order" "I" ∈ BW := mb_2 (List.mem_of_getElem? (i := 8) rfl)
theorem mw_59 : .fieldLink RX1 25 "QuarrelWays$Pad" "numbers" "[I" ∈ BW := mb_2 (List.mem_of_getElem? (i := 9) rfl)
theorem mw_60 : .fieldLink RX1 28 "QuarrelWays$Pad" "numbersRead" "I" ∈ BW := mb_2 (List.mem_of_getElem? (i := 10) rfl)
theorem mw_61 : .code yX2_read cX2_read 4 (some .int) ∈ BW := mb_2 (List.mem_of_getElem? (i := 11) rfl)
theorem mw_62 : .code yX2_hasPerson cX2_hasPerson 2 (some .boolean) ∈ BW := mb_2 (List.mem_of_getElem? (i := 12) rfl)
theorem mw_63 : .code yX2_hasQuarrel cX2_hasQuarrel 2 (some .boolean) ∈ BW := mb_2 (List.mem_of_getElem? (i := 13) rfl)
theorem mw_64 : .code yX2_isOpen cX2_isOpen 2 (some .boolean) ∈ BW := mb_2 (List.mem_of_getElem? (i := 14) rfl)
theorem mw_65 : .methodLink RX2 47 yX2_read ∈ BW := mb_2 (List.mem_of_getElem? (i := 15) rfl)
theorem mw_66 : .instanceMethod yX2_read ∈ BW := mb_2 (List.mem_of_getElem? (i := 16) rfl)
theorem mw_67 : .selects RX2 yX2_read yX2_read ∈ BW := mb_2 (List.mem_of_getElem? (i := 17) rfl)
theorem mw_68 : .code yX2_allows cX2_allows 2 (some .boolean) ∈ BW := mb_2 (List.mem_of_getElem? (i := 18) rfl)
theorem mw_69 : .code yX2_hoursSince cX2_hoursSince 2 (some .int) ∈ BW := mb_2 (List.mem_of_getElem? (i := 19) rfl)
theorem mw_70 : .code yX2_oathLeft cX2_oathLeft 2 (some .int) ∈ BW := mb_2 (List.mem_of_getElem? (i := 20) rfl)
theorem mw_71 : .methodLink RX2 50 Lib.Math.max.name ∈ BW := mb_2 (List.mem_of_getElem? (i := 21) rfl)
theorem mw_72 : .static Lib.Math.max.name ∈ BW := mb_2 (List.mem_of_getElem? (i := 22) rfl)
theorem mw_73 : .code Lib.Math.max.name Lib.Math.max.code 2 (some .int) ∈ BW := mb_2 (List.mem_of_getElem? (i := 23) rfl)
theorem mw_74 : .code yX2_isPoints cX2_isPoints 1 (some .boolean) ∈ BW := mb_2 (List.mem_of_getElem? (i := 24) rfl)
theorem mw_75 : .code yX2_isRank cX2_isRank 1 (some .boolean) ∈ BW := mb_3 (List.mem_of_getElem? (i := 0) rfl)
theorem mw_76 : .code yX2_areThese cX2_areThese 4 (some .boolean) ∈ BW := mb_3 (List.mem_of_getElem? (i := 1) rfl)
theorem mw_77 : .code yX2_changeSetting cX2_changeSetting 4 (some .int) ∈ BW := mb_3 (List.mem_of_getElem? (i := 2) rfl)
theorem mw_78 : .fieldLink RX2 53 "QuarrelWays$Town" "LOWEST" "[I" ∈ BW := mb_3 (List.mem_of_getElem? (i := 3) rfl)
theorem mw_79 : .fieldLink RX2 56 "QuarrelWays$Town" "HIGHEST" "[I" ∈ BW := mb_3 (List.mem_of_getElem? (i := 4) rfl)
theorem mw_80 : .code yX2_addPerson cX2_addPerson 4 (some .int) ∈ BW := mb_3 (List.mem_of_getElem? (i := 5) rfl)
theorem mw_81 : .methodLink RX2 59 yX2_isPoints ∈ BW := mb_3 (List.mem_of_getElem? (i := 6) rfl)
theorem mw_82 : .static yX2_isPoints ∈ BW := mb_3 (List.mem_of_getElem? (i := 7) rfl)
theorem mw_83 : .code yX2_takeSecond cX2_takeSecond 4 (some .int) ∈ BW := mb_3 (List.mem_of_getElem? (i := 8) rfl)
theorem mw_84 : .methodLink RX2 63 yX2_hasPerson ∈ BW := mb_3 (List.mem_of_getElem? (i := 9) rfl)
theorem mw_85 : .instanceMethod yX2_hasPerson ∈ BW := mb_3 (List.mem_of_getElem? (i := 10) rfl)
theorem mw_86 : .selects RX2 yX2_hasPerson yX2_hasPerson ∈ BW := mb_3 (List.mem_of_getElem? (i := 11) rfl)
theorem mw_87 : .code yX2_allowOrBar cX2_allowOrBar 2 (some .int) ∈ BW := mb_3 (List.mem_of_getElem? (i := 12) rfl)
theorem mw_88 : .code yX2_errorOfInsult cX2_errorOfInsult 4 (some .int) ∈ BW := mb_3 (List.mem_of_getElem? (i := 13) rfl)
theorem mw_89 : .methodLink RX2 66 yX2_isRank ∈ BW := mb_3 (List.mem_of_getElem? (i := 14) rfl)
theorem mw_90 : .static yX2_isRank ∈ BW := mb_3 (List.mem_of_getElem? (i := 15) rfl)
theorem mw_91 : .code yX2_haveOpenQuarrel cX2_haveOpenQuarrel 4 (some .boolean) ∈ BW := mb_3 (List.mem_of_getElem? (i := 16) rfl)
theorem mw_92 : .methodLink RX2 69 yX2_isOpen ∈ BW := mb_3 (List.mem_of_getElem? (i := 17) rfl)
theorem mw_93 : .instanceMethod yX2_isOpen ∈ BW := mb_3 (List.mem_of_getElem? (i := 18) rfl)
theorem mw_94 : .selects RX2 yX2_isOpen yX2_isOpen ∈ BW := mb_3 (List.mem_of_getElem? (i := 19) rfl)
theorem mw_95 : .methodLink RX2 72 yX2_areThese ∈ BW := mb_3 (List.mem_of_getElem? (i := 20) rfl)
theorem mw_96 : .static yX2_areThese ∈ BW := mb_3 (List.mem_of_getElem? (i := 21) rfl)
theorem mw_97 : .code yX2_addEvent cX2_addEvent 4 none ∈ BW := mb_3 (List.mem_of_getElem? (i := 22) rfl)
theorem mw_98 : .methodLink RX2 114 yJ9_floorMod_7cf53 ∈ BW := mb_3 (List.mem_of_getElem? (i := 23) rfl)
theorem mw_99 : .methodLink RX2 76 yX2_errorOfInsult ∈ BW := mb_3 (List.mem_of_getElem? (i := 24) rfl)
theorem mw_100 : .instanceMethod yX2_errorOfInsult ∈ BW := mb_4 (List.mem_of_getElem? (i := 0) rfl)
theorem mw_101 : .selects RX2 yX2_errorOfInsult yX2_errorOfInsult ∈ BW := mb_4 (List.mem_of_getElem? (i := 1) rfl)
theorem mw_102 : .methodLink RX2 80 yX2_haveOpenQuarrel ∈ BW := mb_4 (List.mem_of_getElem? (i := 2) rfl)
theorem mw_103 : .instanceMethod yX2_haveOpenQuarrel ∈ BW := mb_4 (List.mem_of_getElem? (i := 3) rfl)
theorem mw_104 : .selects RX2 yX2_haveOpenQuarrel yX2_haveOpenQuarrel ∈ BW := mb_4 (List.mem_of_getElem? (i := 4) rfl)
theorem mw_105 : .methodLink RX2 84 yX2_addEvent ∈ BW := mb_4 (List.mem_of_getElem? (i := 5) rfl)
theorem mw_106 : .instanceMethod yX2_addEvent ∈ BW := mb_4 (List.mem_of_getElem? (i := 6) rfl)
theorem mw_107 : .selects RX2 yX2_addEvent yX2_addEvent ∈ BW := mb_4 (List.mem_of_getElem? (i := 7) rfl)
theorem mw_108 : .code yX2_addQuarrel cX2_addQuarrel 6 (some .int) ∈ BW := mb_4 (List.mem_of_getElem? (i := 8) rfl)
theorem mw_109 : .code yX2_secondsCanSettle cX2_secondsCanSettle 6 (some .boolean) ∈ BW := mb_4 (List.mem_of_getElem? (i := 9) rfl)
theorem mw_110 : .code yX2_hoursToCool cX2_hoursToCool 2 (some .int) ∈ BW := mb_4 (List.mem_of_getElem? (i := 10) rfl)
theorem mw_111 : .code yX2_peaceLeft cX2_peaceLeft 5 (some .int) ∈ BW := mb_4 (List.mem_of_getElem? (i := 11) rfl)
theorem mw_112 : .methodLink RX2 124 yX2_secondsCanSettle ∈ BW := mb_4 (List.mem_of_getElem? (i := 12) rfl)
theorem mw_113 : .instanceMethod yX2_secondsCanSettle ∈ BW := mb_4 (List.mem_of_getElem? (i := 13) rfl)
theorem mw_114 : .selects RX2 yX2_secondsCanSettle yX2_secondsCanSettle ∈ BW := mb_4 (List.mem_of_getElem? (i := 14) rfl)
theorem mw_115 : .methodLink RX2 128 yX2_hoursToCool ∈ BW := mb_4 (List.mem_of_getElem? (i := 15) rfl)
theorem mw_116 : .instanceMethod yX2_hoursToCool ∈ BW := mb_4 (List.mem_of_getElem? (i := 16) rfl)
theorem mw_117 : .selects RX2 yX2_hoursToCool yX2_hoursToCool ∈ BW := mb_4 (List.mem_of_getElem? (i := 17) rfl)
theorem mw_118 : .methodLink RX2 111 yX2_oathLeft ∈ BW := mb_4 (List.mem_of_getElem? (i := 18) rfl)
theorem mw_119 : .instanceMethod yX2_oathLeft ∈ BW := mb_4 (List.mem_of_getElem? (i := 19) rfl)
theorem mw_120 : .selects RX2 yX2_oathLeft yX2_oathLeft ∈ BW := mb_4 (List.mem_of_getElem? (i := 20) rfl)
theorem mw_121 : .methodLink RX2 131 yX2_peaceLeft ∈ BW := mb_4 (List.mem_of_getElem? (i := 21) rfl)
theorem mw_122 : .instanceMethod yX2_peaceLeft ∈ BW := mb_4 (List.mem_of_getElem? (i := 22) rfl)
theorem mw_123 : .selects RX2 yX2_peaceLeft yX2_peaceLeft ∈ BW := mb_4 (List.mem_of_getElem? (i := 23) rfl)
theorem mw_124 : .code yX2_waysBetween cX2_waysBetween 6 (some .int) ∈ BW := mb_4 (List.mem_of_getElem? (i := 24) rfl)
theorem mw_125 : .methodLink RX2 117 yX2_hoursSince ∈ BW := mb_5 (List.mem_of_getElem? (i := 0) rfl)
theorem mw_126 : .instanceMethod yX2_hoursSince ∈ BW := mb_5 (List.mem_of_getElem? (i := 1) rfl)
theorem mw_127 : .selects RX2 yX2_hoursSince yX2_hoursSince ∈ BW := mb_5 (List.mem_of_getElem? (i := 2) rfl)
theorem mw_128 : .methodLink RX2 120 yX2_waysBetween ∈ BW := mb_5 (List.mem_of_getElem? (i := 3) rfl)
theorem mw_129 : .instanceMethod yX2_waysBetween ∈ BW := mb_5 (List.mem_of_getElem? (i := 4) rfl)
theorem mw_130 : .selects RX2 yX2_waysBetween yX2_waysBetween ∈ BW := mb_5 (List.mem_of_getElem? (i := 5) rfl)
theorem mw_131 : .code yX2_waysOf cX2_waysOf 2 (some .int) ∈ BW := mb_5 (List.mem_of_getElem? (i := 6) rfl)
theorem mw_132 : .code yX2_addPoints cX2_addPoints 5 none ∈ BW := mb_5 (List.mem_of_getElem? (i := 7) rfl)
theorem mw_133 : .code yX2_quarrelsWith cX2_quarrelsWith 5 (some .int) ∈ BW := mb_5 (List.mem_of_getElem? (i := 8) rfl)
theorem mw_134 : .methodLink RX2 88 yX2_hasQuarrel ∈ BW := mb_5 (List.mem_of_getElem? (i := 9) rfl)
theorem mw_135 : .instanceMethod yX2_hasQuarrel ∈ BW := mb_5 (List.mem_of_getElem? (i := 10) rfl)
theorem mw_136 : .selects RX2 yX2_hasQuarrel yX2_hasQuarrel ∈ BW := mb_5 (List.mem_of_getElem? (i := 11) rfl)
theorem mw_137 : .methodLink RX2 91 yX2_waysOf ∈ BW := mb_5 (List.mem_of_getElem? (i := 12) rfl)
theorem mw_138 : .instanceMethod yX2_waysOf ∈ BW := mb_5 (List.mem_of_getElem? (i := 13) rfl)
theorem mw_139 : .selects RX2 yX2_waysOf yX2_waysOf ∈ BW := mb_5 (List.mem_of_getElem? (i := 14) rfl)
theorem mw_140 : .methodLink RX2 95 yX2_addPoints ∈ BW := mb_5 (List.mem_of_getElem? (i := 15) rfl)
theorem mw_141 : .instanceMethod yX2_addPoints ∈ BW := mb_5 (List.mem_of_getElem? (i := 16) rfl)
theorem mw_142 : .selects RX2 yX2_addPoints yX2_addPoints ∈ BW := mb_5 (List.mem_of_getElem? (i := 17) rfl)
theorem mw_143 : .methodLink RX2 98 yX2_quarrelsWith ∈ BW := mb_5 (List.mem_of_getElem? (i := 18) rfl)
theorem mw_144 : .instanceMethod yX2_quarrelsWith ∈ BW := mb_5 (List.mem_of_getElem? (i := 19) rfl)
theorem mw_145 : .selects RX2 yX2_quarrelsWith yX2_quarrelsWith ∈ BW := mb_5 (List.mem_of_getElem? (i := 20) rfl)
theorem mw_146 : .code yX2_settleBy cX2_settleBy 3 (some .int) ∈ BW := mb_5 (List.mem_of_getElem? (i := 21) rfl)
theorem mw_147 : .code yX2_whyNotDue cX2_whyNotDue 3 (some .int) ∈ BW := mb_5 (List.mem_of_getElem? (i := 22) rfl)
theorem mw_148 : .code yX2_skillOf cX2_skillOf 2 (some .int) ∈ BW := mb_5 (List.mem_of_getElem? (i := 23) rfl)
theorem mw_149 : .code yX2_winnerOf cX2_winnerOf 4 (some .int) ∈ BW := mb_5 (List.mem_of_getElem? (i := 24) rfl)
theorem mw_150 : .methodLink RX2 143 yX2_skillOf ∈ BW := mb_6 (List.mem_of_getElem? (i := 0) rfl)
theorem mw_151 : .instanceMethod yX2_skillOf ∈ BW := mb_6 (List.mem_of_getElem? (i := 1) rfl)
theorem mw_152 : .selects RX2 yX2_skillOf yX2_skillOf ∈ BW := mb_6 (List.mem_of_getElem? (i := 2) rfl)
theorem mw_153 : .code yX2_bindByOath cX2_bindByOath 3 none ∈ BW := mb_6 (List.mem_of_getElem? (i := 3) rfl)
theorem mw_154 : .methodLink RX2 101 yX2_whyNotDue ∈ BW := mb_6 (List.mem_of_getElem? (i := 4) rfl)
theorem mw_155 : .instanceMethod yX2_whyNotDue ∈ BW := mb_6 (List.mem_of_getElem? (i := 5) rfl)
theorem mw_156 : .selects RX2 yX2_whyNotDue yX2_whyNotDue ∈ BW := mb_6 (List.mem_of_getElem? (i := 6) rfl)
theorem mw_157 : .methodLink RX2 104 yX2_winnerOf ∈ BW := mb_6 (List.mem_of_getElem? (i := 7) rfl)
theorem mw_158 : .instanceMethod yX2_winnerOf ∈ BW := mb_6 (List.mem_of_getElem? (i := 8) rfl)
theorem mw_159 : .selects RX2 yX2_winnerOf yX2_winnerOf ∈ BW := mb_6 (List.mem_of_getElem? (i := 9) rfl)
theorem mw_160 : .methodLink RX2 107 yX2_bindByOath ∈ BW := mb_6 (List.mem_of_getElem? (i := 10) rfl)
theorem mw_161 : .instanceMethod yX2_bindByOath ∈ BW := mb_6 (List.mem_of_getElem? (i := 11) rfl)
theorem mw_162 : .selects RX2 yX2_bindByOath yX2_bindByOath ∈ BW := mb_6 (List.mem_of_getElem? (i := 12) rfl)
theorem mw_163 : .code yX2_duel cX2_duel 5 (some .int) ∈ BW := mb_6 (List.mem_of_getElem? (i := 13) rfl)
theorem mw_164 : .code yX2_takeOath cX2_takeOath 2 (some .int) ∈ BW := mb_6 (List.mem_of_getElem? (i := 14) rfl)
theorem mw_165 : .code yX2_moveOn cX2_moveOn 3 (some .int) ∈ BW := mb_6 (List.mem_of_getElem? (i := 15) rfl)
theorem mw_166 : .code yX2_firstOf cX2_firstOf 2 (some .int) ∈ BW := mb_6 (List.mem_of_getElem? (i := 16) rfl)
theorem mw_167 : .code yX2_hoursUntilCool cX2_hoursUntilCool 2 (some .int) ∈ BW := mb_6 (List.mem_of_getElem? (i := 17) rfl)
theorem mw_168 : .code yX2_orNoneIfTooFar cX2_orNoneIfTooFar 1 (some .int) ∈ BW := mb_6 (List.mem_of_getElem? (i := 18) rfl)
theorem mw_169 : .methodLink RX2 134 yX2_allows ∈ BW := mb_6 (List.mem_of_getElem? (i := 19) rfl)
theorem mw_170 : .instanceMethod yX2_allows ∈ BW := mb_6 (List.mem_of_getElem? (i := 20) rfl)
theorem mw_171 : .selects RX2 yX2_allows yX2_allows ∈ BW := mb_6 (List.mem_of_getElem? (i := 21) rfl)
theorem mw_172 : .methodLink RX2 137 yX2_hoursUntilCool ∈ BW := mb_6 (List.mem_of_getElem? (i := 22) rfl)
theorem mw_173 : .instanceMethod yX2_hoursUntilCool ∈ BW := mb_6 (List.mem_of_getElem? (i := 23) rfl)
theorem mw_174 : .selects RX2 yX2_hoursUntilCool yX2_hoursUntilCool ∈ BW := mb_6 (List.mem_of_getElem? (i := 24) rfl)
theorem mw_175 : .methodLink RX2 140 yX2_orNoneIfTooFar ∈ BW := mb_7 (List.mem_of_getElem? (i := 0) rfl)
theorem mw_176 : .static yX2_orNoneIfTooFar ∈ BW := mb_7 (List.mem_of_getElem? (i := 1) rfl)
theorem mw_177 : .code yX2_hoursUntilWay cX2_hoursUntilWay 2 (some .int) ∈ BW := mb_7 (List.mem_of_getElem? (i := 2) rfl)
theorem mw_178 : .code yX2_hoursUntilDuel cX2_hoursUntilDuel 5 (some .int) ∈ BW := mb_7 (List.mem_of_getElem? (i := 3) rfl)
theorem mw_179 : .code yX2_duelsOf cX2_duelsOf 5 (some .int) ∈ BW := mb_7 (List.mem_of_getElem? (i := 4) rfl)
theorem mw_180 : .code yX2_personsWithSecond cX2_personsWithSecond 4 (some .int) ∈ BW := mb_7 (List.mem_of_getElem? (i := 5) rfl)
theorem mw_181 : .methodLink RX2 146 yX2_duelsOf ∈ BW := mb_7 (List.mem_of_getElem? (i := 6) rfl)
theorem mw_182 : .instanceMethod yX2_duelsOf ∈ BW := mb_7 (List.mem_of_getElem? (i := 7) rfl)
theorem mw_183 : .selects RX2 yX2_duelsOf yX2_duelsOf ∈ BW := mb_7 (List.mem_of_getElem? (i := 8) rfl)
theorem mw_184 : .methodLink RX2 149 yX2_personsWithSecond ∈ BW := mb_7 (List.mem_of_getElem? (i := 9) rfl)
theorem mw_185 : .instanceMethod yX2_personsWithSecond ∈ BW := mb_7 (List.mem_of_getElem? (i := 10) rfl)
theorem mw_186 : .selects RX2 yX2_personsWithSecond yX2_personsWithSecond ∈ BW := mb_7 (List.mem_of_getElem? (i := 11) rfl)
theorem mw_187 : .code yX2_tellPerson cX2_tellPerson 3 (some .int) ∈ BW := mb_7 (List.mem_of_getElem? (i := 12) rfl)
theorem mw_188 : .code yX2_tellQuarrel cX2_tellQuarrel 3 (some .int) ∈ BW := mb_7 (List.mem_of_getElem? (i := 13) rfl)
theorem mw_189 : .code yX2_tellEvent cX2_tellEvent 4 (some .int) ∈ BW := mb_7 (List.mem_of_getElem? (i := 14) rfl)
theorem mw_190 : .code yX2_pressureOf cX2_pressureOf 2 (some .int) ∈ BW := mb_7 (List.mem_of_getElem? (i := 15) rfl)
theorem mw_191 : .code yX2_quarrelsBefore cX2_quarrelsBefore 5 (some .int) ∈ BW := mb_7 (List.mem_of_getElem? (i := 16) rfl)
theorem mw_192 : .methodLink RX2 155 yX2_pressureOf ∈ BW := mb_7 (List.mem_of_getElem? (i := 17) rfl)
theorem mw_193 : .instanceMethod yX2_pressureOf ∈ BW := mb_7 (List.mem_of_getElem? (i := 18) rfl)
theorem mw_194 : .selects RX2 yX2_pressureOf yX2_pressureOf ∈ BW := mb_7 (List.mem_of_getElem? (i := 19) rfl)
theorem mw_195 : .code yX2_quarrelThatPresses cX2_quarrelThatPresses 3 (some .int) ∈ BW := mb_7 (List.mem_of_getElem? (i := 20) rfl)
theorem mw_196 : .methodLink RX2 152 yX2_quarrelsBefore ∈ BW := mb_7 (List.mem_of_getElem? (i := 21) rfl)
theorem mw_197 : .instanceMethod yX2_quarrelsBefore ∈ BW := mb_7 (List.mem_of_getElem? (i := 22) rfl)
theorem mw_198 : .selects RX2 yX2_quarrelsBefore yX2_quarrelsBefore ∈ BW := mb_7 (List.mem_of_getElem? (i := 23) rfl)
theorem mw_199 : .code yX2_insultsFrom cX2_insultsFrom 4 (some .int) ∈ BW := mb_7 (List.mem_of_getElem? (i := 24) rfl)
theorem mw_200 : .code yX2_openQuarrels cX2_openQuarrels 3 (some .int) ∈ BW := mb_8 (List.mem_of_getElem? (i := 0) rfl)
theorem mw_201 : .code yX2_dueQuarrels cX2_dueQuarrels 3 (some .int) ∈ BW := mb_8 (List.mem_of_getElem? (i := 1) rfl)
theorem mw_202 : .code yX2_personsUnderOath cX2_personsUnderOath 3 (some .int) ∈ BW := mb_8 (List.mem_of_getElem? (i := 2) rfl)
theorem mw_203 : .methodLink RX2 158 yX2_openQuarrels ∈ BW := mb_8 (List.mem_of_getElem? (i := 3) rfl)
theorem mw_204 : .instanceMethod yX2_openQuarrels ∈ BW := mb_8 (List.mem_of_getElem? (i := 4) rfl)
theorem mw_205 : .selects RX2 yX2_openQuarrels yX2_openQuarrels ∈ BW := mb_8 (List.mem_of_getElem? (i := 5) rfl)
theorem mw_206 : .methodLink RX2 162 yX2_dueQuarrels ∈ BW := mb_8 (List.mem_of_getElem? (i := 6) rfl)
theorem mw_207 : .instanceMethod yX2_dueQuarrels ∈ BW := mb_8 (List.mem_of_getElem? (i := 7) rfl)
theorem mw_208 : .selects RX2 yX2_dueQuarrels yX2_dueQuarrels ∈ BW := mb_8 (List.mem_of_getElem? (i := 8) rfl)
theorem mw_209 : .methodLink RX2 165 yX2_personsUnderOath ∈ BW := mb_8 (List.mem_of_getElem? (i := 9) rfl)
theorem mw_210 : .instanceMethod yX2_personsUnderOath ∈ BW := mb_8 (List.mem_of_getElem? (i := 10) rfl)
theorem mw_211 : .selects RX2 yX2_personsUnderOath yX2_personsUnderOath ∈ BW := mb_8 (List.mem_of_getElem? (i := 11) rfl)
theorem mw_212 : .code yX2_tellNumber cX2_tellNumber 2 (some .int) ∈ BW := mb_8 (List.mem_of_getElem? (i := 12) rfl)
theorem mw_213 : .methodLink RX3 1 objectInit ∈ BW := mb_8 (List.mem_of_getElem? (i := 13) rfl)
theorem mw_214 : .classLink RX3 7 RX2 ∈ BW := mb_8 (List.mem_of_getElem? (i := 14) rfl)
theorem mw_215 : .fieldLink RX3 10 "QuarrelWays" "town" "LQuarrelWays$Town;" ∈ BW := mb_8 (List.mem_of_getElem? (i := 15) rfl)
theorem mw_216 : .classLink RX3 16 RX0 ∈ BW := mb_8 (List.mem_of_getElem? (i := 16) rfl)
theorem mw_217 : .instantiable RX0 3 ∈ BW := mb_8 (List.mem_of_getElem? (i := 17) rfl)
theorem mw_218 : .fieldLink RX3 19 "QuarrelWays" "history" "LQuarrelWays$History;" ∈ BW := mb_8 (List.mem_of_getElem? (i := 18) rfl)
theorem mw_219 : .classLink RX3 23 RX1 ∈ BW := mb_8 (List.mem_of_getElem? (i := 19) rfl)
theorem mw_220 : .instantiable RX1 6 ∈ BW := mb_8 (List.mem_of_getElem? (i := 20) rfl)
theorem mw_221 : .initialized RX1 ∈ BW := mb_8 (List.mem_of_getElem? (i := 21) rfl)
theorem mw_222 : .fieldLink RX3 26 "QuarrelWays" "pad" "LQuarrelWays$Pad;" ∈ BW := mb_8 (List.mem_of_getElem? (i := 22) rfl)
theorem mw_223 : .fieldLink RX3 30 "QuarrelWays" "slots" "[LQuarrelWays$Town;" ∈ BW := mb_8 (List.mem_of_getElem? (i := 23) rfl)
theorem mw_224 : .instanceMethod yX0_init ∈ BW := mb_8 (List.mem_of_getElem? (i := 24) rfl)
theorem mw_225 : .instanceMethod yX1_init ∈ BW := mb_9 (List.mem_of_getElem? (i := 0) rfl)
theorem mw_226 : .code yX3_init cX3_init 1 none ∈ BW := mb_9 (List.mem_of_getElem? (i := 1) rfl)
theorem mw_227 : .instanceMethod yX0_note ∈ BW := mb_9 (List.mem_of_getElem? (i := 2) rfl)
theorem mw_228 : .selects RX0 yX0_note yX0_note ∈ BW := mb_9 (List.mem_of_getElem? (i := 3) rfl)
theorem mw_229 : .instanceMethod yX2_changeSetting ∈ BW := mb_9 (List.mem_of_getElem? (i := 4) rfl)
theorem mw_230 : .selects RX2 yX2_changeSetting yX2_changeSetting ∈ BW := mb_9 (List.mem_of_getElem? (i := 5) rfl)
theorem mw_231 : .instanceMethod yX0_keepUnlessError ∈ BW := mb_9 (List.mem_of_getElem? (i := 6) rfl)
theorem mw_232 : .selects RX0 yX0_keepUnlessError yX0_keepUnlessError ∈ BW := mb_9 (List.mem_of_getElem? (i := 7) rfl)
theorem mw_233 : .code yX3_set cX3_set 3 (some .int) ∈ BW := mb_9 (List.mem_of_getElem? (i := 8) rfl)
theorem mw_234 : .instanceMethod yX2_addPerson ∈ BW := mb_9 (List.mem_of_getElem? (i := 9) rfl)
theorem mw_235 : .selects RX2 yX2_addPerson yX2_addPerson ∈ BW := mb_9 (List.mem_of_getElem? (i := 10) rfl)
theorem mw_236 : .code yX3_person cX3_person 3 (some .int) ∈ BW := mb_9 (List.mem_of_getElem? (i := 11) rfl)
theorem mw_237 : .instanceMethod yX2_takeSecond ∈ BW := mb_9 (List.mem_of_getElem? (i := 12) rfl)
theorem mw_238 : .selects RX2 yX2_takeSecond yX2_takeSecond ∈ BW := mb_9 (List.mem_of_getElem? (i := 13) rfl)
theorem mw_239 : .code yX3_second cX3_second 3 (some .int) ∈ BW := mb_9 (List.mem_of_getElem? (i := 14) rfl)
theorem mw_240 : .instanceMethod yX2_allowOrBar ∈ BW := mb_9 (List.mem_of_getElem? (i := 15) rfl)
theorem mw_241 : .selects RX2 yX2_allowOrBar yX2_allowOrBar ∈ BW := mb_9 (List.mem_of_getElem? (i := 16) rfl)
theorem mw_242 : .code yX3_allow cX3_allow 2 (some .int) ∈ BW := mb_9 (List.mem_of_getElem? (i := 17) rfl)
theorem mw_243 : .instanceMethod yX2_addQuarrel ∈ BW := mb_9 (List.mem_of_getElem? (i := 18) rfl)
theorem mw_244 : .selects RX2 yX2_addQuarrel yX2_addQuarrel ∈ BW := mb_9 (List.mem_of_getElem? (i := 19) rfl)
theorem mw_245 : .code yX3_insult cX3_insult 4 (some .int) ∈ BW := mb_9 (List.mem_of_getElem? (i := 20) rfl)
theorem mw_246 : .instanceMethod yX2_settleBy ∈ BW := mb_9 (List.mem_of_getElem? (i := 21) rfl)
theorem mw_247 : .selects RX2 yX2_settleBy yX2_settleBy ∈ BW := mb_9 (List.mem_of_getElem? (i := 22) rfl)
theorem mw_248 : .code yX3_settle cX3_settle 3 (some .int) ∈ BW := mb_9 (List.mem_of_getElem? (i := 23) rfl)
theorem mw_249 : .instanceMethod yX2_duel ∈ BW := mb_9 (List.mem_of_getElem? (i := 24) rfl)
theorem mw_250 : .selects RX2 yX2_duel yX2_duel ∈ BW := mb_10 (List.mem_of_getElem? (i := 0) rfl)
theorem mw_251 : .code yX3_fight cX3_fight 2 (some .int) ∈ BW := mb_10 (List.mem_of_getElem? (i := 1) rfl)
theorem mw_252 : .instanceMethod yX2_takeOath ∈ BW := mb_10 (List.mem_of_getElem? (i := 2) rfl)
theorem mw_253 : .selects RX2 yX2_takeOath yX2_takeOath ∈ BW := mb_10 (List.mem_of_getElem? (i := 3) rfl)
theorem mw_254 : .code yX3_swear cX3_swear 2 (some .int) ∈ BW := mb_10 (List.mem_of_getElem? (i := 4) rfl)
theorem mw_255 : .code yJ6_bitCount_0f7a4 cJ6_bitCount_0f7a4 1 (some .int) ∈ BW := mb_10 (List.mem_of_getElem? (i := 5) rfl)
theorem mw_256 : .constant RJ6 265 1431655765 ∈ BW := mb_10 (List.mem_of_getElem? (i := 6) rfl)
theorem mw_257 : .constant RJ6 266 858993459 ∈ BW := mb_10 (List.mem_of_getElem? (i := 7) rfl)
theorem mw_258 : .constant RJ6 267 252645135 ∈ BW := mb_10 (List.mem_of_getElem? (i := 8) rfl)
theorem mw_259 : .instanceMethod yX2_moveOn ∈ BW := mb_10 (List.mem_of_getElem? (i := 9) rfl)
theorem mw_260 : .selects RX2 yX2_moveOn yX2_moveOn ∈ BW := mb_10 (List.mem_of_getElem? (i := 10) rfl)
theorem mw_261 : .methodLink RX3 71 yX3_isError ∈ BW := mb_10 (List.mem_of_getElem? (i := 11) rfl)
theorem mw_262 : .methodLink RX3 79 yJ6_bitCount_0f7a4 ∈ BW := mb_10 (List.mem_of_getElem? (i := 12) rfl)
theorem mw_263 : .static yJ6_bitCount_0f7a4 ∈ BW := mb_10 (List.mem_of_getElem? (i := 13) rfl)
theorem mw_264 : .initialized RJ6 ∈ BW := mb_10 (List.mem_of_getElem? (i := 14) rfl)
theorem mw_265 : .code yX3_pass cX3_pass 3 (some .int) ∈ BW := mb_10 (List.mem_of_getElem? (i := 15) rfl)
theorem mw_266 : .instanceMethod yX2_tellPerson ∈ BW := mb_10 (List.mem_of_getElem? (i := 16) rfl)
theorem mw_267 : .selects RX2 yX2_tellPerson yX2_tellPerson ∈ BW := mb_10 (List.mem_of_getElem? (i := 17) rfl)
theorem mw_268 : .code yX3_of cX3_of 3 (some .int) ∈ BW := mb_10 (List.mem_of_getElem? (i := 18) rfl)
theorem mw_269 : .instanceMethod yX2_tellQuarrel ∈ BW := mb_10 (List.mem_of_getElem? (i := 19) rfl)
theorem mw_270 : .selects RX2 yX2_tellQuarrel yX2_tellQuarrel ∈ BW := mb_10 (List.mem_of_getElem? (i := 20) rfl)
theorem mw_271 : .code yX3_quarrel cX3_quarrel 3 (some .int) ∈ BW := mb_10 (List.mem_of_getElem? (i := 21) rfl)
theorem mw_272 : .code yX3_record cX3_record 3 (some .int) ∈ BW := mb_10 (List.mem_of_getElem? (i := 22) rfl)
theorem mw_273 : .instanceMethod yX2_tellEvent ∈ BW := mb_10 (List.mem_of_getElem? (i := 23) rfl)
theorem mw_274 : .selects RX2 yX2_tellEvent yX2_tellEvent ∈ BW := mb_10 (List.mem_of_getElem? (i := 24) rfl)
theorem mw_275 : .instanceMethod yX2_quarrelThatPresses ∈ BW := mb_11 (List.mem_of_getElem? (i := 0) rfl)
theorem mw_276 : .selects RX2 yX2_quarrelThatPresses yX2_quarrelThatPresses ∈ BW := mb_11 (List.mem_of_getElem? (i := 1) rfl)
theorem mw_277 : .code yX3_pressing cX3_pressing 2 (some .int) ∈ BW := mb_11 (List.mem_of_getElem? (i := 2) rfl)
theorem mw_278 : .code yX3_insults cX3_insults 2 (some .int) ∈ BW := mb_11 (List.mem_of_getElem? (i := 3) rfl)
theorem mw_279 : .instanceMethod yX2_insultsFrom ∈ BW := mb_11 (List.mem_of_getElem? (i := 4) rfl)
theorem mw_280 : .selects RX2 yX2_insultsFrom yX2_insultsFrom ∈ BW := mb_11 (List.mem_of_getElem? (i := 5) rfl)
theorem mw_281 : .instanceMethod yX2_tellNumber ∈ BW := mb_11 (List.mem_of_getElem? (i := 6) rfl)
theorem mw_282 : .selects RX2 yX2_tellNumber yX2_tellNumber ∈ BW := mb_11 (List.mem_of_getElem? (i := 7) rfl)
theorem mw_283 : .code yX3_count cX3_count 2 (some .int) ∈ BW := mb_11 (List.mem_of_getElem? (i := 8) rfl)
theorem mw_284 : .code yX3_why cX3_why 2 (some .int) ∈ BW := mb_11 (List.mem_of_getElem? (i := 9) rfl)
theorem mw_285 : .static yX2_firstOf ∈ BW := mb_11 (List.mem_of_getElem? (i := 10) rfl)
theorem mw_286 : .code yX3_firstWay cX3_firstWay 2 (some .int) ∈ BW := mb_11 (List.mem_of_getElem? (i := 11) rfl)
theorem mw_287 : .instanceMethod yX2_hoursUntilWay ∈ BW := mb_11 (List.mem_of_getElem? (i := 12) rfl)
theorem mw_288 : .selects RX2 yX2_hoursUntilWay yX2_hoursUntilWay ∈ BW := mb_11 (List.mem_of_getElem? (i := 13) rfl)
theorem mw_289 : .code yX3_opensIn cX3_opensIn 2 (some .int) ∈ BW := mb_11 (List.mem_of_getElem? (i := 14) rfl)
theorem mw_290 : .instanceMethod yX2_hoursUntilDuel ∈ BW := mb_11 (List.mem_of_getElem? (i := 15) rfl)
theorem mw_291 : .selects RX2 yX2_hoursUntilDuel yX2_hoursUntilDuel ∈ BW := mb_11 (List.mem_of_getElem? (i := 16) rfl)
theorem mw_292 : .code yX3_dueIn cX3_dueIn 2 (some .int) ∈ BW := mb_11 (List.mem_of_getElem? (i := 17) rfl)
theorem mw_293 : .code yX3_ifInsulted cX3_ifInsulted 5 (some .int) ∈ BW := mb_11 (List.mem_of_getElem? (i := 18) rfl)
theorem mw_294 : .code yX3_ifFought cX3_ifFought 2 (some .int) ∈ BW := mb_11 (List.mem_of_getElem? (i := 19) rfl)
theorem mw_295 : .instanceMethod yX0_goBack ∈ BW := mb_11 (List.mem_of_getElem? (i := 20) rfl)
theorem mw_296 : .selects RX0 yX0_goBack yX0_goBack ∈ BW := mb_11 (List.mem_of_getElem? (i := 21) rfl)
theorem mw_297 : .code yX3_undo cX3_undo 1 (some .int) ∈ BW := mb_11 (List.mem_of_getElem? (i := 22) rfl)
theorem mw_298 : .code yJ9_max_7cf53 cJ9_max_7cf53 2 (some .int) ∈ BW := mb_11 (List.mem_of_getElem? (i := 23) rfl)
theorem mw_299 : .code yJ9_min_7cf53 cJ9_min_7cf53 2 (some .int) ∈ BW := mb_11 (List.mem_of_getElem? (i := 24) rfl)
theorem mw_300 : .code yL_cell cL_cell 2 (some .int) ∈ BW := mb_12 (List.mem_of_getElem? (i := 0) rfl)
theorem mw_301 : .code yL_low cL_low 2 (some .int) ∈ BW := mb_12 (List.mem_of_getElem? (i := 1) rfl)
theorem mw_302 : .constant RL 7 2147483647 ∈ BW := mb_12 (List.mem_of_getElem? (i := 2) rfl)
theorem mw_303 : .code yL_mild cL_mild 1 (some .int) ∈ BW := mb_12 (List.mem_of_getElem? (i := 3) rfl)
theorem mw_304 : .methodLink RL 10 yX3_count ∈ BW := mb_12 (List.mem_of_getElem? (i := 4) rfl)
theorem mw_305 : .instanceMethod yX3_count ∈ BW := mb_12 (List.mem_of_getElem? (i := 5) rfl)
theorem mw_306 : .selects RX3 yX3_count yX3_count ∈ BW := mb_12 (List.mem_of_getElem? (i := 6) rfl)
theorem mw_307 : .methodLink RL 14 yL_low ∈ BW := mb_12 (List.mem_of_getElem? (i := 7) rfl)
theorem mw_308 : .static yL_low ∈ BW := mb_12 (List.mem_of_getElem? (i := 8) rfl)
theorem mw_309 : .initialized RL ∈ BW := mb_12 (List.mem_of_getElem? (i := 9) rfl)
theorem mw_310 : .methodLink RL 20 yX3_insult ∈ BW := mb_12 (List.mem_of_getElem? (i := 10) rfl)
theorem mw_311 : .instanceMethod yX3_insult ∈ BW := mb_12 (List.mem_of_getElem? (i := 11) rfl)
theorem mw_312 : .selects RX3 yX3_insult yX3_insult ∈ BW := mb_12 (List.mem_of_getElem? (i := 12) rfl)
theorem mw_313 : .methodLink RL 24 yL_mild ∈ BW := mb_12 (List.mem_of_getElem? (i := 13) rfl)
theorem mw_314 : .static yL_mild ∈ BW := mb_12 (List.mem_of_getElem? (i := 14) rfl)
theorem mw_315 : .methodLink RL 27 yX3_second ∈ BW := mb_12 (List.mem_of_getElem? (i := 15) rfl)
theorem mw_316 : .instanceMethod yX3_second ∈ BW := mb_12 (List.mem_of_getElem? (i := 16) rfl)
theorem mw_317 : .selects RX3 yX3_second yX3_second ∈ BW := mb_12 (List.mem_of_getElem? (i := 17) rfl)
theorem mw_318 : .methodLink RL 30 yX3_allow ∈ BW := mb_12 (List.mem_of_getElem? (i := 18) rfl)
theorem mw_319 : .instanceMethod yX3_allow ∈ BW := mb_12 (List.mem_of_getElem? (i := 19) rfl)
theorem mw_320 : .selects RX3 yX3_allow yX3_allow ∈ BW := mb_12 (List.mem_of_getElem? (i := 20) rfl)
theorem mw_321 : .methodLink RL 33 yX3_settle ∈ BW := mb_12 (List.mem_of_getElem? (i := 21) rfl)
theorem mw_322 : .instanceMethod yX3_settle ∈ BW := mb_12 (List.mem_of_getElem? (i := 22) rfl)
theorem mw_323 : .selects RX3 yX3_settle yX3_settle ∈ BW := mb_12 (List.mem_of_getElem? (i := 23) rfl)
theorem mw_324 : .methodLink RL 36 yX3_fight ∈ BW := mb_12 (List.mem_of_getElem? (i := 24) rfl)
theorem mw_325 : .instanceMethod yX3_fight ∈ BW := mb_13 (List.mem_of_getElem? (i := 0) rfl)
theorem mw_326 : .selects RX3 yX3_fight yX3_fight ∈ BW := mb_13 (List.mem_of_getElem? (i := 1) rfl)
theorem mw_327 : .methodLink RL 39 yX3_swear ∈ BW := mb_13 (List.mem_of_getElem? (i := 2) rfl)
theorem mw_328 : .instanceMethod yX3_swear ∈ BW := mb_13 (List.mem_of_getElem? (i := 3) rfl)
theorem mw_329 : .selects RX3 yX3_swear yX3_swear ∈ BW := mb_13 (List.mem_of_getElem? (i := 4) rfl)
theorem mw_330 : .methodLink RL 42 yX3_person ∈ BW := mb_13 (List.mem_of_getElem? (i := 5) rfl)
theorem mw_331 : .instanceMethod yX3_person ∈ BW := mb_13 (List.mem_of_getElem? (i := 6) rfl)
theorem mw_332 : .selects RX3 yX3_person yX3_person ∈ BW := mb_13 (List.mem_of_getElem? (i := 7) rfl)
theorem mw_333 : .methodLink RL 45 yX3_set ∈ BW := mb_13 (List.mem_of_getElem? (i := 8) rfl)
theorem mw_334 : .instanceMethod yX3_set ∈ BW := mb_13 (List.mem_of_getElem? (i := 9) rfl)
theorem mw_335 : .selects RX3 yX3_set yX3_set ∈ BW := mb_13 (List.mem_of_getElem? (i := 10) rfl)
theorem mw_336 : .methodLink RL 48 yX3_pass ∈ BW := mb_13 (List.mem_of_getElem? (i := 11) rfl)
theorem mw_337 : .instanceMethod yX3_pass ∈ BW := mb_13 (List.mem_of_getElem? (i := 12) rfl)
theorem mw_338 : .selects RX3 yX3_pass yX3_pass ∈ BW := mb_13 (List.mem_of_getElem? (i := 13) rfl)
theorem mw_339 : .code yL_does cL_does 7 (some .int) ∈ BW := mb_13 (List.mem_of_getElem? (i := 14) rfl)
theorem mw_340 : .code yL_bits cL_bits 3 (some .int) ∈ BW := mb_13 (List.mem_of_getElem? (i := 15) rfl)
theorem mw_341 : .methodLink RL 51 yX3_of ∈ BW := mb_13 (List.mem_of_getElem? (i := 16) rfl)
theorem mw_342 : .instanceMethod yX3_of ∈ BW := mb_13 (List.mem_of_getElem? (i := 17) rfl)
theorem mw_343 : .selects RX3 yX3_of yX3_of ∈ BW := mb_13 (List.mem_of_getElem? (i := 18) rfl)
theorem mw_344 : .methodLink RL 54 yX3_record ∈ BW := mb_13 (List.mem_of_getElem? (i := 19) rfl)
theorem mw_345 : .instanceMethod yX3_record ∈ BW := mb_13 (List.mem_of_getElem? (i := 20) rfl)
theorem mw_346 : .selects RX3 yX3_record yX3_record ∈ BW := mb_13 (List.mem_of_getElem? (i := 21) rfl)
theorem mw_347 : .methodLink RL 57 yX3_quarrel ∈ BW := mb_13 (List.mem_of_getElem? (i := 22) rfl)
theorem mw_348 : .instanceMethod yX3_quarrel ∈ BW := mb_13 (List.mem_of_getElem? (i := 23) rfl)
theorem mw_349 : .selects RX3 yX3_quarrel yX3_quarrel ∈ BW := mb_13 (List.mem_of_getElem? (i := 24) rfl)
theorem mw_350 : .code yL_ways cL_ways 14 (some .int) ∈ BW := mb_14 (List.mem_of_getElem? (i := 0) rfl)
theorem mw_351 : .methodLink RL 60 yL_ways ∈ BW := mb_14 (List.mem_of_getElem? (i := 1) rfl)
theorem mw_352 : .static yL_ways ∈ BW := mb_14 (List.mem_of_getElem? (i := 2) rfl)
theorem mw_353 : .methodLink RL 64 yX3_firstWay ∈ BW := mb_14 (List.mem_of_getElem? (i := 3) rfl)
theorem mw_354 : .instanceMethod yX3_firstWay ∈ BW := mb_14 (List.mem_of_getElem? (i := 4) rfl)
theorem mw_355 : .selects RX3 yX3_firstWay yX3_firstWay ∈ BW := mb_14 (List.mem_of_getElem? (i := 5) rfl)
theorem mw_356 : .methodLink RL 67 yX3_why ∈ BW := mb_14 (List.mem_of_getElem? (i := 6) rfl)
theorem mw_357 : .instanceMethod yX3_why ∈ BW := mb_14 (List.mem_of_getElem? (i := 7) rfl)
theorem mw_358 : .selects RX3 yX3_why yX3_why ∈ BW := mb_14 (List.mem_of_getElem? (i := 8) rfl)
theorem mw_359 : .methodLink RL 70 yX3_ifFought ∈ BW := mb_14 (List.mem_of_getElem? (i := 9) rfl)
theorem mw_360 : .instanceMethod yX3_ifFought ∈ BW := mb_14 (List.mem_of_getElem? (i := 10) rfl)
theorem mw_361 : .selects RX3 yX3_ifFought yX3_ifFought ∈ BW := mb_14 (List.mem_of_getElem? (i := 11) rfl)
theorem mw_362 : .methodLink RL 73 yL_bits ∈ BW := mb_14 (List.mem_of_getElem? (i := 12) rfl)
theorem mw_363 : .static yL_bits ∈ BW := mb_14 (List.mem_of_getElem? (i := 13) rfl)
theorem mw_364 : .code yL_areQuarrelsSo cL_areQuarrelsSo 14 (some .boolean) ∈ BW := mb_14 (List.mem_of_getElem? (i := 14) rfl)
theorem mw_365 : .methodLink RL 76 yX3_pressing ∈ BW := mb_14 (List.mem_of_getElem? (i := 15) rfl)
theorem mw_366 : .instanceMethod yX3_pressing ∈ BW := mb_14 (List.mem_of_getElem? (i := 16) rfl)
theorem mw_367 : .selects RX3 yX3_pressing yX3_pressing ∈ BW := mb_14 (List.mem_of_getElem? (i := 17) rfl)
theorem mw_368 : .methodLink RL 79 yX3_insults ∈ BW := mb_14 (List.mem_of_getElem? (i := 18) rfl)
theorem mw_369 : .instanceMethod yX3_insults ∈ BW := mb_14 (List.mem_of_getElem? (i := 19) rfl)
theorem mw_370 : .selects RX3 yX3_insults yX3_insults ∈ BW := mb_14 (List.mem_of_getElem? (i := 20) rfl)
theorem mw_371 : .code yL_arePersonsSo cL_arePersonsSo 13 (some .boolean) ∈ BW := mb_14 (List.mem_of_getElem? (i := 21) rfl)
theorem mw_372 : .methodLink RL 82 yX3_opensIn ∈ BW := mb_14 (List.mem_of_getElem? (i := 22) rfl)
theorem mw_373 : .instanceMethod yX3_opensIn ∈ BW := mb_14 (List.mem_of_getElem? (i := 23) rfl)
theorem mw_374 : .selects RX3 yX3_opensIn yX3_opensIn ∈ BW := mb_14 (List.mem_of_getElem? (i := 24) rfl)
theorem mw_375 : .methodLink RL 85 yX3_dueIn ∈ BW := mb_15 (List.mem_of_getElem? (i := 0) rfl)
theorem mw_376 : .instanceMethod yX3_dueIn ∈ BW := mb_15 (List.mem_of_getElem? (i := 1) rfl)
theorem mw_377 : .selects RX3 yX3_dueIn yX3_dueIn ∈ BW := mb_15 (List.mem_of_getElem? (i := 2) rfl)
theorem mw_378 : .methodLink RL 88 yX3_undo ∈ BW := mb_15 (List.mem_of_getElem? (i := 3) rfl)
theorem mw_379 : .instanceMethod yX3_undo ∈ BW := mb_15 (List.mem_of_getElem? (i := 4) rfl)
theorem mw_380 : .selects RX3 yX3_undo yX3_undo ∈ BW := mb_15 (List.mem_of_getElem? (i := 5) rfl)
theorem mw_381 : .code yL_isTimeSo cL_isTimeSo 7 (some .boolean) ∈ BW := mb_15 (List.mem_of_getElem? (i := 6) rfl)
theorem mw_382 : .methodLink RL 92 yX3_ifInsulted ∈ BW := mb_15 (List.mem_of_getElem? (i := 7) rfl)
theorem mw_383 : .instanceMethod yX3_ifInsulted ∈ BW := mb_15 (List.mem_of_getElem? (i := 8) rfl)
theorem mw_384 : .selects RX3 yX3_ifInsulted yX3_ifInsulted ∈ BW := mb_15 (List.mem_of_getElem? (i := 9) rfl)
theorem mw_385 : .code yL_isInsultSo cL_isInsultSo 8 (some .boolean) ∈ BW := mb_15 (List.mem_of_getElem? (i := 10) rfl)
theorem mw_386 : .classLink RL 8 RX3 ∈ BW := mb_15 (List.mem_of_getElem? (i := 11) rfl)
theorem mw_387 : .instantiable RX3 4 ∈ BW := mb_15 (List.mem_of_getElem? (i := 12) rfl)
theorem mw_388 : .methodLink RL 95 yX3_init ∈ BW := mb_15 (List.mem_of_getElem? (i := 13) rfl)
theorem mw_389 : .instanceMethod yX3_init ∈ BW := mb_15 (List.mem_of_getElem? (i := 14) rfl)
theorem mw_390 : .methodLink RL 96 yL_cell ∈ BW := mb_15 (List.mem_of_getElem? (i := 15) rfl)
theorem mw_391 : .static yL_cell ∈ BW := mb_15 (List.mem_of_getElem? (i := 16) rfl)
theorem mw_392 : .methodLink RL 100 yL_does ∈ BW := mb_15 (List.mem_of_getElem? (i := 17) rfl)
theorem mw_393 : .static yL_does ∈ BW := mb_15 (List.mem_of_getElem? (i := 18) rfl)
theorem mw_394 : .methodLink RL 104 yL_areQuarrelsSo ∈ BW := mb_15 (List.mem_of_getElem? (i := 19) rfl)
theorem mw_395 : .static yL_areQuarrelsSo ∈ BW := mb_15 (List.mem_of_getElem? (i := 20) rfl)
theorem mw_396 : .methodLink RL 108 yL_arePersonsSo ∈ BW := mb_15 (List.mem_of_getElem? (i := 21) rfl)
theorem mw_397 : .static yL_arePersonsSo ∈ BW := mb_15 (List.mem_of_getElem? (i := 22) rfl)
theorem mw_398 : .methodLink RL 111 yL_isInsultSo ∈ BW := mb_15 (List.mem_of_getElem? (i := 23) rfl)
theorem mw_399 : .static yL_isInsultSo ∈ BW := mb_15 (List.mem_of_getElem? (i := 24) rfl)
theorem mw_400 : .methodLink RL 115 yL_isTimeSo ∈ BW := mb_16 (List.mem_of_getElem? (i := 0) rfl)
theorem mw_401 : .static yL_isTimeSo ∈ BW := mb_16 (List.mem_of_getElem? (i := 1) rfl)
theorem bi_0 : ∀ w ∈ B0, w ∈ lw_tbl := List.forall_mem_cons.mpr ⟨(List.mem_append_right _ (List.mem_append_left _ (List.mem_of_getElem? (i := 25) rfl))), List.forall_mem_cons.mpr ⟨(List.mem_append_right _ (List.mem_append_left _ (List.mem_of_getElem? (i := 31) rfl))), List.forall_mem_cons.mpr ⟨(List.mem_append_right _ (List.mem_append_left _ (List.mem_of_getElem? (i := 20) rfl))), List.forall_mem_cons.mpr ⟨(List.mem_append_right _ (List.mem_append_left _ (List.mem_of_getElem? (i := 21) rfl))), List.forall_mem_cons.mpr ⟨(List.mem_append_right _ (List.mem_append_left _ (List.mem_of_getElem? (i := 14) rfl))), List.forall_mem_cons.mpr ⟨(List.mem_append_right _ (List.mem_append_left _ (List.mem_of_getElem? (i := 15) rfl))), List.forall_mem_cons.mpr ⟨(List.mem_append_right _ (List.mem_append_left _ (List.mem_of_getElem? (i := 26) rfl))), List.forall_mem_cons.mpr ⟨(List.mem_append_right _ (List.mem_append_left _ (List.mem_of_getElem? (i := 27) rfl))), List.forall_mem_cons.mpr ⟨(List.mem_append_right _ (List.mem_append_left _ (List.mem_of_getElem? (i := 28) rfl))), List.forall_mem_cons.mpr ⟨(List.mem_append_right _ (List.mem_append_left _ (List.mem_of_getElem? (i := 29) rfl))), List.forall_mem_cons.mpr ⟨(List.mem_append_right _ (List.mem_append_left _ (List.mem_of_getElem? (i := 30) rfl))), List.forall_mem_cons.mpr ⟨(List.mem_append_right _ (List.mem_append_left _ (List.mem_of_getElem? (i := 45) rfl))), List.forall_mem_cons.mpr ⟨(List.mem_append_right _ (List.mem_append_left _ (List.mem_of_getElem? (i := 22) rfl))), List.forall_mem_cons.mpr ⟨(List.mem_append_right _ (List.mem_append_left _ (List.mem_of_getElem? (i := 24) rfl))), List.forall_mem_cons.mpr ⟨(List.mem_append_left _ (List.mem_of_getElem? (i := 0) rfl)), List.forall_mem_cons.mpr ⟨(List.mem_append_right _ (List.mem_append_left _ (List.mem_of_getElem? (i := 2) rfl))), List.forall_mem_cons.mpr ⟨(List.mem_append_right _ (List.mem_append_left _ (List.mem_of_getElem? (i := 50) rfl))), List.forall_mem_cons.mpr ⟨(List.mem_append_right _ (List.mem_append_left _ (List.mem_of_getElem? (i := 51) rfl))), List.forall_mem_cons.mpr ⟨(List.mem_append_right _ (List.mem_append_left _ (List.mem_of_getElem? (i := 52) rfl))), List.forall_mem_cons.mpr ⟨(List.mem_append_right _ (List.mem_append_left _ (List.mem_of_getElem? (i := 55) rfl))), List.forall_mem_cons.mpr ⟨(List.mem_append_right _ (List.mem_append_left _ (List.mem_of_getElem? (i := 56) rfl))), List.forall_mem_cons.mpr ⟨(List.mem_append_right _ (List.mem_append_left _ (List.mem_of_getElem? (i := 57) rfl))), List.forall_mem_cons.mpr ⟨(List.mem_append_right _ (List.mem_append_left _ (List.mem_of_getElem? (i := 17) rfl))), List.forall_mem_cons.mpr ⟨(List.mem_append_right _ (List.mem_append_left _ (List.mem_of_getElem? (i := 19) rfl))), List.forall_mem_cons.mpr ⟨(List.mem_append_right _ (List.mem_append_left _ (List.mem_of_getElem? (i := 123) rfl))), fun _ h => absurd h List.not_mem_nil⟩⟩⟩⟩⟩⟩⟩⟩⟩⟩⟩⟩⟩⟩⟩⟩⟩⟩⟩⟩⟩⟩⟩⟩⟩
theorem bg_0 : B0.all goodWord = true := by decide +kernel
theorem bi_1 : ∀ w ∈ B1, w ∈ lw_tbl := List.forall_mem_cons.mpr ⟨(List.mem_append_right _ (List.mem_append_left _ (List.mem_of_getElem? (i := 120) rfl))), List.forall_mem_cons.mpr ⟨(List.mem_append_right _ (List.mem_append_left _ (List.mem_of_getElem? (i := 121) rfl))), List.forall_mem_cons.mpr ⟨(List.mem_append_right _ (List.mem_append_left _ (List.mem_of_getElem? (i := 122) rfl))), List.forall_mem_cons.mpr ⟨(List.mem_append_right _ (List.mem_append_left _ (List.mem_of_getElem? (i := 5) rfl))), List.forall_mem_cons.mpr ⟨(List.mem_append_right _ (List.mem_append_left _ (List.mem_of_getElem? (i := 116) rfl))), List.forall_mem_cons.mpr ⟨(List.mem_append_right _ (List.mem_append_left _ (List.mem_of_getElem? (i := 117) rfl))), List.forall_mem_cons.mpr ⟨(List.mem_append_right _ (List.mem_append_left _ (List.mem_of_getElem? (i := 119) rfl))), List.forall_mem_cons.mpr ⟨(List.mem_append_left _ (List.mem_of_getElem? (i := 3) rfl)), List.forall_mem_cons.mpr ⟨(List.mem_append_right _ (List.mem_append_left _ (List.mem_of_getElem? (i := 3) rfl))), List.forall_mem_cons.mpr ⟨(List.mem_append_right _ (List.mem_append_left _ (List.mem_of_getElem? (i := 127) rfl))), List.forall_mem_cons.mpr ⟨(List.mem_append_right _ (List.mem_append_left _ (List.mem_of_getElem? (i := 128) rfl))), List.forall_mem_cons.mpr ⟨(List.mem_append_right _ (List.mem_append_left _ (List.mem_of_getElem? (i := 129) rfl))), List.forall_mem_cons.mpr ⟨(List.mem_append_right _ (List.mem_append_left _ (List.mem_of_getElem? (i := 130) rfl))), List.forall_mem_cons.mpr ⟨(List.mem_append_right _ (List.mem_append_left _ (List.mem_of_getElem? (i := 131) rfl))), List.forall_mem_cons.mpr ⟨(List.mem_append_right _ (List.mem_append_left _ (List.mem_of_getElem? (i := 133) rfl))), List.forall_mem_cons.mpr ⟨(List.mem_append_right _ (List.mem_append_left _ (List.mem_of_getElem? (i := 132) rfl))), List.forall_mem_cons.mpr ⟨(List.mem_append_right _ (List.mem_append_left _ (List.mem_of_getElem? (i := 6) rfl))), List.forall_mem_cons.mpr ⟨(List.mem_append_right _ (List.mem_append_left _ (List.mem_of_getElem? (i := 113) rfl))), List.forall_mem_cons.mpr ⟨(List.mem_append_right _ (List.mem_append_left _ (List.mem_of_getElem? (i := 115) rfl))), List.forall_mem_cons.mpr ⟨(List.mem_append_left _ (List.mem_of_getElem? (i := 2) rfl)), List.forall_mem_cons.mpr ⟨(List.mem_append_right _ (List.mem_append_left _ (List.mem_of_getElem? (i := 126) rfl))), List.forall_mem_cons.mpr ⟨(List.mem_append_left _ (List.mem_of_getElem? (i := 4) rfl)), List.forall_mem_cons.mpr ⟨(List.mem_append_right _ (List.mem_append_left _ (List.mem_of_getElem? (i := 112) rfl))), List.forall_mem_cons.mpr ⟨(List.mem_append_right _ (List.mem_append_left _ (List.mem_of_getElem? (i := 147) rfl))), List.forall_mem_cons.mpr ⟨(List.mem_append_right _ (List.mem_append_left _ (List.mem_of_getElem? (i := 144) rfl))), fun _ h => absurd h List.not_mem_nil⟩⟩⟩⟩⟩⟩⟩⟩⟩⟩⟩⟩⟩⟩⟩⟩⟩⟩⟩⟩⟩⟩⟩⟩⟩
theorem bg_1 : B1.all goodWord = true := by decide +kernel
theorem bi_2 : ∀ w ∈ B2, w ∈ lw_tbl := List.forall_mem_cons.mpr ⟨(List.mem_append_right _ (List.mem_append_left _ (List.mem_of_getElem? (i := 146) rfl))), List.forall_mem_cons.mpr ⟨(List.mem_append_right _ (List.mem_append_left _ (List.mem_of_getElem? (i := 1) rfl))), List.forall_mem_cons.mpr ⟨(List.mem_append_right _ (List.mem_append_right _ (List.mem_append_left _ (List.mem_of_getElem? (i := 232) rfl)))), List.forall_mem_cons.mpr ⟨(List.mem_append_right _ (List.mem_append_left _ (List.mem_of_getElem? (i := 70) rfl))), List.forall_mem_cons.mpr ⟨(List.mem_append_right _ (List.mem_append_left _ (List.mem_of_getElem? (i := 71) rfl))), List.forall_mem_cons.mpr ⟨(List.mem_append_right _ (List.mem_append_left _ (List.mem_of_getElem? (i := 72) rfl))), List.forall_mem_cons.mpr ⟨(List.mem_append_right _ (List.mem_append_left _ (List.mem_of_getElem? (i := 73) rfl))), List.forall_mem_cons.mpr ⟨(List.mem_append_right _ (List.mem_append_left _ (List.mem_of_getElem? (i := 75) rfl))), List.forall_mem_cons.mpr ⟨(List.mem_append_right _ (List.mem_append_left _ (List.mem_of_getElem? (i := 76) rfl))), List.forall_mem_cons.mpr ⟨(List.mem_append_right _ (List.mem_append_left _ (List.mem_of_getElem? (i := 77) rfl))), List.forall_mem_cons.mpr ⟨(List.mem_append_right _ (List.mem_append_left _ (List.mem_of_getElem? (i := 78) rfl))), List.forall_mem_cons.mpr ⟨(List.mem_append_right _ (List.mem_append_left _ (List.mem_of_getElem? (i := 167) rfl))), List.forall_mem_cons.mpr ⟨(List.mem_append_right _ (List.mem_append_right _ (List.mem_append_left _ (List.mem_of_getElem? (i := 3) rfl)))), List.forall_mem_cons.mpr ⟨(List.mem_append_right _ (List.mem_append_right _ (List.mem_append_left _ (List.mem_of_getElem? (i := 46) rfl)))), List.forall_mem_cons.mpr ⟨(List.mem_append_right _ (List.mem_append_left _ (List.mem_of_getElem? (i := 163) rfl))), List.forall_mem_cons.mpr ⟨(List.mem_append_right _ (List.mem_append_left _ (List.mem_of_getElem? (i := 164) rfl))), List.forall_mem_cons.mpr ⟨(List.mem_append_right _ (List.mem_append_left _ (List.mem_of_getElem? (i := 166) rfl))), List.forall_mem_cons.mpr ⟨(List.mem_append_left _ (List.mem_of_getElem? (i := 10) rfl)), List.forall_mem_cons.mpr ⟨(List.mem_append_right _ (List.mem_append_right _ (List.mem_append_left _ (List.mem_of_getElem? (i := 209) rfl)))), List.forall_mem_cons.mpr ⟨(List.mem_append_right _ (List.mem_append_left _ (List.mem_of_getElem? (i := 179) rfl))), List.forall_mem_cons.mpr ⟨(List.mem_append_right _ (List.mem_append_left _ (List.mem_of_getElem? (i := 195) rfl))), List.forall_mem_cons.mpr ⟨(List.mem_append_right _ (List.mem_append_left _ (List.mem_of_getElem? (i := 196) rfl))), List.forall_mem_cons.mpr ⟨(List.mem_append_right _ (List.mem_append_left _ (List.mem_of_getElem? (i := 197) rfl))), List.forall_mem_cons.mpr ⟨(List.mem_append_right _ (List.mem_append_left _ (List.mem_of_getElem? (i := 198) rfl))), List.forall_mem_cons.mpr ⟨(List.mem_append_right _ (List.mem_append_left _ (List.mem_of_getElem? (i := 140) rfl))), fun _ h => absurd h List.not_mem_nil⟩⟩⟩⟩⟩⟩⟩⟩⟩⟩⟩⟩⟩⟩⟩⟩⟩⟩⟩⟩⟩⟩⟩⟩⟩
theorem bg_2 : B2.all goodWord = true := by decide +kernel
theorem bi_3 : ∀ w ∈ B3, w ∈ lw_tbl := List.forall_mem_cons.mpr ⟨(List.mem_append_right _ (List.mem_append_right _ (List.mem_append_left _ (List.mem_of_getElem? (i := 6) rfl)))), List.forall_mem_cons.mpr ⟨(List.mem_append_right _ (List.mem_append_left _ (List.mem_of_getElem? (i := 205) rfl))), List.forall_mem_cons.mpr ⟨(List.mem_append_right _ (List.mem_append_right _ (List.mem_append_left _ (List.mem_of_getElem? (i := 86) rfl)))), List.forall_mem_cons.mpr ⟨(List.mem_append_right _ (List.mem_append_right _ (List.mem_append_left _ (List.mem_of_getElem? (i := 87) rfl)))), List.forall_mem_cons.mpr ⟨(List.mem_append_right _ (List.mem_append_right _ (List.mem_append_left _ (List.mem_of_getElem? (i := 89) rfl)))), List.forall_mem_cons.mpr ⟨(List.mem_append_right _ (List.mem_append_left _ (List.mem_of_getElem? (i := 137) rfl))), List.forall_mem_cons.mpr ⟨(List.mem_append_right _ (List.mem_append_left _ (List.mem_of_getElem? (i := 138) rfl))), List.forall_mem_cons.mpr ⟨(List.mem_append_right _ (List.mem_append_left _ (List.mem_of_getElem? (i := 139) rfl))), List.forall_mem_cons.mpr ⟨(List.mem_append_right _ (List.mem_append_right _ (List.mem_append_left _ (List.mem_of_getElem? (i := 26) rfl)))), List.forall_mem_cons.mpr ⟨(List.mem_append_right _ (List.mem_append_right _ (List.mem_append_left _ (List.mem_of_getElem? (i := 0) rfl)))), List.forall_mem_cons.mpr ⟨(List.mem_append_right _ (List.mem_append_right _ (List.mem_append_left _ (List.mem_of_getElem? (i := 2) rfl)))), List.forall_mem_cons.mpr ⟨(List.mem_append_left _ (List.mem_of_getElem? (i := 24) rfl)), List.forall_mem_cons.mpr ⟨(List.mem_append_right _ (List.mem_append_right _ (List.mem_append_left _ (List.mem_of_getElem? (i := 34) rfl)))), List.forall_mem_cons.mpr ⟨(List.mem_append_right _ (List.mem_append_left _ (List.mem_of_getElem? (i := 239) rfl))), List.forall_mem_cons.mpr ⟨(List.mem_append_right _ (List.mem_append_right _ (List.mem_append_left _ (List.mem_of_getElem? (i := 4) rfl)))), List.forall_mem_cons.mpr ⟨(List.mem_append_right _ (List.mem_append_right _ (List.mem_append_left _ (List.mem_of_getElem? (i := 5) rfl)))), List.forall_mem_cons.mpr ⟨(List.mem_append_right _ (List.mem_append_right _ (List.mem_append_left _ (List.mem_of_getElem? (i := 10) rfl)))), List.forall_mem_cons.mpr ⟨(List.mem_append_right _ (List.mem_append_left _ (List.mem_of_getElem? (i := 160) rfl))), List.forall_mem_cons.mpr ⟨(List.mem_append_right _ (List.mem_append_left _ (List.mem_of_getElem? (i := 162) rfl))), List.forall_mem_cons.mpr ⟨(List.mem_append_left _ (List.mem_of_getElem? (i := 9) rfl)), List.forall_mem_cons.mpr ⟨(List.mem_append_right _ (List.mem_append_left _ (List.mem_of_getElem? (i := 203) rfl))), List.forall_mem_cons.mpr ⟨(List.mem_append_right _ (List.mem_append_left _ (List.mem_of_getElem? (i := 204) rfl))), List.forall_mem_cons.mpr ⟨(List.mem_append_right _ (List.mem_append_right _ (List.mem_append_left _ (List.mem_of_getElem? (i := 14) rfl)))), List.forall_mem_cons.mpr ⟨(List.mem_append_right _ (List.mem_append_right _ (List.mem_append_left _ (List.mem_of_getElem? (i := 15) rfl)))), List.forall_mem_cons.mpr ⟨(List.mem_append_right _ (List.mem_append_left _ (List.mem_of_getElem? (i := 236) rfl))), fun _ h => absurd h List.not_mem_nil⟩⟩⟩⟩⟩⟩⟩⟩⟩⟩⟩⟩⟩⟩⟩⟩⟩⟩⟩⟩⟩⟩⟩⟩⟩
theorem bg_3 : B3.all goodWord = true := by decide +kernel
theorem bi_4 : ∀ w ∈ B4, w ∈ lw_tbl := List.forall_mem_cons.mpr ⟨(List.mem_append_right _ (List.mem_append_left _ (List.mem_of_getElem? (i := 238) rfl))), List.forall_mem_cons.mpr ⟨(List.mem_append_left _ (List.mem_of_getElem? (i := 23) rfl)), List.forall_mem_cons.mpr ⟨(List.mem_append_right _ (List.mem_append_right _ (List.mem_append_left _ (List.mem_of_getElem? (i := 7) rfl)))), List.forall_mem_cons.mpr ⟨(List.mem_append_right _ (List.mem_append_right _ (List.mem_append_left _ (List.mem_of_getElem? (i := 9) rfl)))), List.forall_mem_cons.mpr ⟨(List.mem_append_left _ (List.mem_of_getElem? (i := 25) rfl)), List.forall_mem_cons.mpr ⟨(List.mem_append_right _ (List.mem_append_right _ (List.mem_append_left _ (List.mem_of_getElem? (i := 11) rfl)))), List.forall_mem_cons.mpr ⟨(List.mem_append_right _ (List.mem_append_right _ (List.mem_append_left _ (List.mem_of_getElem? (i := 13) rfl)))), List.forall_mem_cons.mpr ⟨(List.mem_append_left _ (List.mem_of_getElem? (i := 26) rfl)), List.forall_mem_cons.mpr ⟨(List.mem_append_right _ (List.mem_append_left _ (List.mem_of_getElem? (i := 235) rfl))), List.forall_mem_cons.mpr ⟨(List.mem_append_right _ (List.mem_append_left _ (List.mem_of_getElem? (i := 187) rfl))), List.forall_mem_cons.mpr ⟨(List.mem_append_right _ (List.mem_append_left _ (List.mem_of_getElem? (i := 191) rfl))), List.forall_mem_cons.mpr ⟨(List.mem_append_right _ (List.mem_append_left _ (List.mem_of_getElem? (i := 202) rfl))), List.forall_mem_cons.mpr ⟨(List.mem_append_right _ (List.mem_append_left _ (List.mem_of_getElem? (i := 184) rfl))), List.forall_mem_cons.mpr ⟨(List.mem_append_right _ (List.mem_append_left _ (List.mem_of_getElem? (i := 186) rfl))), List.forall_mem_cons.mpr ⟨(List.mem_append_left _ (List.mem_of_getElem? (i := 15) rfl)), List.forall_mem_cons.mpr ⟨(List.mem_append_right _ (List.mem_append_left _ (List.mem_of_getElem? (i := 188) rfl))), List.forall_mem_cons.mpr ⟨(List.mem_append_right _ (List.mem_append_left _ (List.mem_of_getElem? (i := 190) rfl))), List.forall_mem_cons.mpr ⟨(List.mem_append_left _ (List.mem_of_getElem? (i := 16) rfl)), List.forall_mem_cons.mpr ⟨(List.mem_append_right _ (List.mem_append_left _ (List.mem_of_getElem? (i := 192) rfl))), List.forall_mem_cons.mpr ⟨(List.mem_append_right _ (List.mem_append_left _ (List.mem_of_getElem? (i := 194) rfl))), List.forall_mem_cons.mpr ⟨(List.mem_append_left _ (List.mem_of_getElem? (i := 17) rfl)), List.forall_mem_cons.mpr ⟨(List.mem_append_right _ (List.mem_append_left _ (List.mem_of_getElem? (i := 199) rfl))), List.forall_mem_cons.mpr ⟨(List.mem_append_right _ (List.mem_append_left _ (List.mem_of_getElem? (i := 201) rfl))), List.forall_mem_cons.mpr ⟨(List.mem_append_left _ (List.mem_of_getElem? (i := 18) rfl)), List.forall_mem_cons.mpr ⟨(List.mem_append_right _ (List.mem_append_left _ (List.mem_of_getElem? (i := 183) rfl))), fun _ h => absurd h List.not_mem_nil⟩⟩⟩⟩⟩⟩⟩⟩⟩⟩⟩⟩⟩⟩⟩⟩⟩⟩⟩⟩⟩⟩⟩⟩⟩
theorem bg_4 : B4.all goodWord = true := by decide +kernel
theorem bi_5 : ∀ w ∈ B5, w ∈ lw_tbl := List.forall_mem_cons.mpr ⟨(List.mem_append_right _ (List.mem_append_left _ (List.mem_of_getElem? (i := 176) rfl))), List.forall_mem_cons.mpr ⟨(List.mem_append_right _ (List.mem_append_left _ (List.mem_of_getElem? (i := 178) rfl))), List.forall_mem_cons.mpr ⟨(List.mem_append_left _ (List.mem_of_getElem? (i := 13) rfl)), List.forall_mem_cons.mpr ⟨(List.mem_append_right _ (List.mem_append_left _ (List.mem_of_getElem? (i := 180) rfl))), List.forall_mem_cons.mpr ⟨(List.mem_append_right _ (List.mem_append_left _ (List.mem_of_getElem? (i := 182) rfl))), List.forall_mem_cons.mpr ⟨(List.mem_append_left _ (List.mem_of_getElem? (i := 14) rfl)), List.forall_mem_cons.mpr ⟨(List.mem_append_right _ (List.mem_append_left _ (List.mem_of_getElem? (i := 175) rfl))), List.forall_mem_cons.mpr ⟨(List.mem_append_right _ (List.mem_append_right _ (List.mem_append_left _ (List.mem_of_getElem? (i := 50) rfl)))), List.forall_mem_cons.mpr ⟨(List.mem_append_right _ (List.mem_append_left _ (List.mem_of_getElem? (i := 213) rfl))), List.forall_mem_cons.mpr ⟨(List.mem_append_right _ (List.mem_append_right _ (List.mem_append_left _ (List.mem_of_getElem? (i := 43) rfl)))), List.forall_mem_cons.mpr ⟨(List.mem_append_right _ (List.mem_append_right _ (List.mem_append_left _ (List.mem_of_getElem? (i := 45) rfl)))), List.forall_mem_cons.mpr ⟨(List.mem_append_left _ (List.mem_of_getElem? (i := 30) rfl)), List.forall_mem_cons.mpr ⟨(List.mem_append_right _ (List.mem_append_left _ (List.mem_of_getElem? (i := 172) rfl))), List.forall_mem_cons.mpr ⟨(List.mem_append_right _ (List.mem_append_left _ (List.mem_of_getElem? (i := 174) rfl))), List.forall_mem_cons.mpr ⟨(List.mem_append_left _ (List.mem_of_getElem? (i := 12) rfl)), List.forall_mem_cons.mpr ⟨(List.mem_append_right _ (List.mem_append_right _ (List.mem_append_left _ (List.mem_of_getElem? (i := 47) rfl)))), List.forall_mem_cons.mpr ⟨(List.mem_append_right _ (List.mem_append_right _ (List.mem_append_left _ (List.mem_of_getElem? (i := 49) rfl)))), List.forall_mem_cons.mpr ⟨(List.mem_append_left _ (List.mem_of_getElem? (i := 31) rfl)), List.forall_mem_cons.mpr ⟨(List.mem_append_right _ (List.mem_append_left _ (List.mem_of_getElem? (i := 210) rfl))), List.forall_mem_cons.mpr ⟨(List.mem_append_right _ (List.mem_append_left _ (List.mem_of_getElem? (i := 212) rfl))), List.forall_mem_cons.mpr ⟨(List.mem_append_left _ (List.mem_of_getElem? (i := 20) rfl)), List.forall_mem_cons.mpr ⟨(List.mem_append_right _ (List.mem_append_right _ (List.mem_append_left _ (List.mem_of_getElem? (i := 42) rfl)))), List.forall_mem_cons.mpr ⟨(List.mem_append_right _ (List.mem_append_left _ (List.mem_of_getElem? (i := 209) rfl))), List.forall_mem_cons.mpr ⟨(List.mem_append_right _ (List.mem_append_right _ (List.mem_append_left _ (List.mem_of_getElem? (i := 66) rfl)))), List.forall_mem_cons.mpr ⟨(List.mem_append_right _ (List.mem_append_right _ (List.mem_append_left _ (List.mem_of_getElem? (i := 62) rfl)))), fun _ h => absurd h List.not_mem_nil⟩⟩⟩⟩⟩⟩⟩⟩⟩⟩⟩⟩⟩⟩⟩⟩⟩⟩⟩⟩⟩⟩⟩⟩⟩
theorem bg_5 : B5.all goodWord = true := by decide +kernel
theorem bi_6 : ∀ w ∈ B6, w ∈ lw_tbl := List.forall_mem_cons.mpr ⟨(List.mem_append_right _ (List.mem_append_right _ (List.mem_append_left _ (List.mem_of_getElem? (i := 63) rfl)))), List.forall_mem_cons.mpr ⟨(List.mem_append_right _ (List.mem_append_right _ (List.mem_append_left _ (List.mem_of_getElem? (i := 65) rfl)))), List.forall_mem_cons.mpr ⟨(List.mem_append_left _ (List.mem_of_getElem? (i := 34) rfl)), List.forall_mem_cons.mpr ⟨(List.mem_append_right _ (List.mem_append_right _ (List.mem_append_left _ (List.mem_of_getElem? (i := 70) rfl)))), List.forall_mem_cons.mpr ⟨(List.mem_append_right _ (List.mem_append_left _ (List.mem_of_getElem? (i := 206) rfl))), List.forall_mem_cons.mpr ⟨(List.mem_append_right _ (List.mem_append_left _ (List.mem_of_getElem? (i := 208) rfl))), List.forall_mem_cons.mpr ⟨(List.mem_append_left _ (List.mem_of_getElem? (i := 19) rfl)), List.forall_mem_cons.mpr ⟨(List.mem_append_right _ (List.mem_append_right _ (List.mem_append_left _ (List.mem_of_getElem? (i := 59) rfl)))), List.forall_mem_cons.mpr ⟨(List.mem_append_right _ (List.mem_append_right _ (List.mem_append_left _ (List.mem_of_getElem? (i := 61) rfl)))), List.forall_mem_cons.mpr ⟨(List.mem_append_left _ (List.mem_of_getElem? (i := 33) rfl)), List.forall_mem_cons.mpr ⟨(List.mem_append_right _ (List.mem_append_right _ (List.mem_append_left _ (List.mem_of_getElem? (i := 67) rfl)))), List.forall_mem_cons.mpr ⟨(List.mem_append_right _ (List.mem_append_right _ (List.mem_append_left _ (List.mem_of_getElem? (i := 69) rfl)))), List.forall_mem_cons.mpr ⟨(List.mem_append_left _ (List.mem_of_getElem? (i := 35) rfl)), List.forall_mem_cons.mpr ⟨(List.mem_append_right _ (List.mem_append_right _ (List.mem_append_left _ (List.mem_of_getElem? (i := 58) rfl)))), List.forall_mem_cons.mpr ⟨(List.mem_append_right _ (List.mem_append_right _ (List.mem_append_left _ (List.mem_of_getElem? (i := 78) rfl)))), List.forall_mem_cons.mpr ⟨(List.mem_append_right _ (List.mem_append_right _ (List.mem_append_left _ (List.mem_of_getElem? (i := 98) rfl)))), List.forall_mem_cons.mpr ⟨(List.mem_append_right _ (List.mem_append_right _ (List.mem_append_left _ (List.mem_of_getElem? (i := 153) rfl)))), List.forall_mem_cons.mpr ⟨(List.mem_append_right _ (List.mem_append_right _ (List.mem_append_left _ (List.mem_of_getElem? (i := 213) rfl)))), List.forall_mem_cons.mpr ⟨(List.mem_append_right _ (List.mem_append_right _ (List.mem_append_left _ (List.mem_of_getElem? (i := 216) rfl)))), List.forall_mem_cons.mpr ⟨(List.mem_append_right _ (List.mem_append_right _ (List.mem_append_left _ (List.mem_of_getElem? (i := 206) rfl)))), List.forall_mem_cons.mpr ⟨(List.mem_append_right _ (List.mem_append_right _ (List.mem_append_left _ (List.mem_of_getElem? (i := 208) rfl)))), List.forall_mem_cons.mpr ⟨(List.mem_append_left _ (List.mem_of_getElem? (i := 49) rfl)), List.forall_mem_cons.mpr ⟨(List.mem_append_right _ (List.mem_append_right _ (List.mem_append_left _ (List.mem_of_getElem? (i := 210) rfl)))), List.forall_mem_cons.mpr ⟨(List.mem_append_right _ (List.mem_append_right _ (List.mem_append_left _ (List.mem_of_getElem? (i := 212) rfl)))), List.forall_mem_cons.mpr ⟨(List.mem_append_left _ (List.mem_of_getElem? (i := 50) rfl)), fun _ h => absurd h List.not_mem_nil⟩⟩⟩⟩⟩⟩⟩⟩⟩⟩⟩⟩⟩⟩⟩⟩⟩⟩⟩⟩⟩⟩⟩⟩⟩
theorem bg_6 : B6.all goodWord = true := by decide +kernel
theorem bi_7 : ∀ w ∈ B7, w ∈ lw_tbl := List.forall_mem_cons.mpr ⟨(List.mem_append_right _ (List.mem_append_right _ (List.mem_append_left _ (List.mem_of_getElem? (i := 214) rfl)))), List.forall_mem_cons.mpr ⟨(List.mem_append_right _ (List.mem_append_right _ (List.mem_append_left _ (List.mem_of_getElem? (i := 215) rfl)))), List.forall_mem_cons.mpr ⟨(List.mem_append_right _ (List.mem_append_right _ (List.mem_append_left _ (List.mem_of_getElem? (i := 205) rfl)))), List.forall_mem_cons.mpr ⟨(List.mem_append_right _ (List.mem_append_right _ (List.mem_append_left _ (List.mem_of_getElem? (i := 224) rfl)))), List.forall_mem_cons.mpr ⟨(List.mem_append_right _ (List.mem_append_right _ (List.mem_append_left _ (List.mem_of_getElem? (i := 132) rfl)))), List.forall_mem_cons.mpr ⟨(List.mem_append_right _ (List.mem_append_right _ (List.mem_append_left _ (List.mem_of_getElem? (i := 136) rfl)))), List.forall_mem_cons.mpr ⟨(List.mem_append_right _ (List.mem_append_right _ (List.mem_append_left _ (List.mem_of_getElem? (i := 129) rfl)))), List.forall_mem_cons.mpr ⟨(List.mem_append_right _ (List.mem_append_right _ (List.mem_append_left _ (List.mem_of_getElem? (i := 131) rfl)))), List.forall_mem_cons.mpr ⟨(List.mem_append_left _ (List.mem_of_getElem? (i := 41) rfl)), List.forall_mem_cons.mpr ⟨(List.mem_append_right _ (List.mem_append_right _ (List.mem_append_left _ (List.mem_of_getElem? (i := 133) rfl)))), List.forall_mem_cons.mpr ⟨(List.mem_append_right _ (List.mem_append_right _ (List.mem_append_left _ (List.mem_of_getElem? (i := 135) rfl)))), List.forall_mem_cons.mpr ⟨(List.mem_append_left _ (List.mem_of_getElem? (i := 42) rfl)), List.forall_mem_cons.mpr ⟨(List.mem_append_right _ (List.mem_append_right _ (List.mem_append_left _ (List.mem_of_getElem? (i := 128) rfl)))), List.forall_mem_cons.mpr ⟨(List.mem_append_right _ (List.mem_append_right _ (List.mem_append_left _ (List.mem_of_getElem? (i := 117) rfl)))), List.forall_mem_cons.mpr ⟨(List.mem_append_right _ (List.mem_append_right _ (List.mem_append_left _ (List.mem_of_getElem? (i := 144) rfl)))), List.forall_mem_cons.mpr ⟨(List.mem_append_right _ (List.mem_append_right _ (List.mem_append_left _ (List.mem_of_getElem? (i := 185) rfl)))), List.forall_mem_cons.mpr ⟨(List.mem_append_right _ (List.mem_append_right _ (List.mem_append_left _ (List.mem_of_getElem? (i := 181) rfl)))), List.forall_mem_cons.mpr ⟨(List.mem_append_right _ (List.mem_append_right _ (List.mem_append_left _ (List.mem_of_getElem? (i := 182) rfl)))), List.forall_mem_cons.mpr ⟨(List.mem_append_right _ (List.mem_append_right _ (List.mem_append_left _ (List.mem_of_getElem? (i := 184) rfl)))), List.forall_mem_cons.mpr ⟨(List.mem_append_left _ (List.mem_of_getElem? (i := 46) rfl)), List.forall_mem_cons.mpr ⟨(List.mem_append_right _ (List.mem_append_right _ (List.mem_append_left _ (List.mem_of_getElem? (i := 177) rfl)))), List.forall_mem_cons.mpr ⟨(List.mem_append_right _ (List.mem_append_right _ (List.mem_append_left _ (List.mem_of_getElem? (i := 178) rfl)))), List.forall_mem_cons.mpr ⟨(List.mem_append_right _ (List.mem_append_right _ (List.mem_append_left _ (List.mem_of_getElem? (i := 180) rfl)))), List.forall_mem_cons.mpr ⟨(List.mem_append_left _ (List.mem_of_getElem? (i := 45) rfl)), List.forall_mem_cons.mpr ⟨(List.mem_append_right _ (List.mem_append_right _ (List.mem_append_left _ (List.mem_of_getElem? (i := 193) rfl)))), fun _ h => absurd h List.not_mem_nil⟩⟩⟩⟩⟩⟩⟩⟩⟩⟩⟩⟩⟩⟩⟩⟩⟩⟩⟩⟩⟩⟩⟩⟩⟩
theorem bg_7 : B7.all goodWord = true := by decide +kernel
theorem bi_8 : ∀ w ∈ B8, w ∈ lw_tbl := List.forall_mem_cons.mpr ⟨(List.mem_append_right _ (List.mem_append_left _ (List.mem_of_getElem? (i := 159) rfl))), List.forall_mem_cons.mpr ⟨(List.mem_append_right _ (List.mem_append_left _ (List.mem_of_getElem? (i := 171) rfl))), List.forall_mem_cons.mpr ⟨(List.mem_append_right _ (List.mem_append_left _ (List.mem_of_getElem? (i := 217) rfl))), List.forall_mem_cons.mpr ⟨(List.mem_append_right _ (List.mem_append_left _ (List.mem_of_getElem? (i := 156) rfl))), List.forall_mem_cons.mpr ⟨(List.mem_append_right _ (List.mem_append_left _ (List.mem_of_getElem? (i := 158) rfl))), List.forall_mem_cons.mpr ⟨(List.mem_append_left _ (List.mem_of_getElem? (i := 8) rfl)), List.forall_mem_cons.mpr ⟨(List.mem_append_right _ (List.mem_append_left _ (List.mem_of_getElem? (i := 168) rfl))), List.forall_mem_cons.mpr ⟨(List.mem_append_right _ (List.mem_append_left _ (List.mem_of_getElem? (i := 170) rfl))), List.forall_mem_cons.mpr ⟨(List.mem_append_left _ (List.mem_of_getElem? (i := 11) rfl)), List.forall_mem_cons.mpr ⟨(List.mem_append_right _ (List.mem_append_left _ (List.mem_of_getElem? (i := 214) rfl))), List.forall_mem_cons.mpr ⟨(List.mem_append_right _ (List.mem_append_left _ (List.mem_of_getElem? (i := 216) rfl))), List.forall_mem_cons.mpr ⟨(List.mem_append_left _ (List.mem_of_getElem? (i := 21) rfl)), List.forall_mem_cons.mpr ⟨(List.mem_append_right _ (List.mem_append_left _ (List.mem_of_getElem? (i := 155) rfl))), List.forall_mem_cons.mpr ⟨(List.mem_append_right _ (List.mem_append_left _ (List.mem_of_getElem? (i := 13) rfl))), List.forall_mem_cons.mpr ⟨(List.mem_append_right _ (List.mem_append_left _ (List.mem_of_getElem? (i := 16) rfl))), List.forall_mem_cons.mpr ⟨(List.mem_append_right _ (List.mem_append_left _ (List.mem_of_getElem? (i := 92) rfl))), List.forall_mem_cons.mpr ⟨(List.mem_append_right _ (List.mem_append_left _ (List.mem_of_getElem? (i := 46) rfl))), List.forall_mem_cons.mpr ⟨(List.mem_append_right _ (List.mem_append_left _ (List.mem_of_getElem? (i := 47) rfl))), List.forall_mem_cons.mpr ⟨(List.mem_append_right _ (List.mem_append_left _ (List.mem_of_getElem? (i := 93) rfl))), List.forall_mem_cons.mpr ⟨(List.mem_append_right _ (List.mem_append_left _ (List.mem_of_getElem? (i := 66) rfl))), List.forall_mem_cons.mpr ⟨(List.mem_append_right _ (List.mem_append_left _ (List.mem_of_getElem? (i := 67) rfl))), List.forall_mem_cons.mpr ⟨(List.mem_append_right _ (List.mem_append_left _ (List.mem_of_getElem? (i := 4) rfl))), List.forall_mem_cons.mpr ⟨(List.mem_append_right _ (List.mem_append_left _ (List.mem_of_getElem? (i := 94) rfl))), List.forall_mem_cons.mpr ⟨(List.mem_append_right _ (List.mem_append_left _ (List.mem_of_getElem? (i := 95) rfl))), List.forall_mem_cons.mpr ⟨(List.mem_append_right _ (List.mem_append_left _ (List.mem_of_getElem? (i := 49) rfl))), fun _ h => absurd h List.not_mem_nil⟩⟩⟩⟩⟩⟩⟩⟩⟩⟩⟩⟩⟩⟩⟩⟩⟩⟩⟩⟩⟩⟩⟩⟩⟩
theorem bg_8 : B8.all goodWord = true := by decide +kernel
theorem bi_9 : ∀ w ∈ B9, w ∈ lw_tbl := List.forall_mem_cons.mpr ⟨(List.mem_append_right _ (List.mem_append_left _ (List.mem_of_getElem? (i := 69) rfl))), List.forall_mem_cons.mpr ⟨(List.mem_append_right _ (List.mem_append_left _ (List.mem_of_getElem? (i := 12) rfl))), List.forall_mem_cons.mpr ⟨(List.mem_append_right _ (List.mem_append_left _ (List.mem_of_getElem? (i := 111) rfl))), List.forall_mem_cons.mpr ⟨(List.mem_append_left _ (List.mem_of_getElem? (i := 1) rfl)), List.forall_mem_cons.mpr ⟨(List.mem_append_right _ (List.mem_append_right _ (List.mem_append_left _ (List.mem_of_getElem? (i := 85) rfl)))), List.forall_mem_cons.mpr ⟨(List.mem_append_left _ (List.mem_of_getElem? (i := 37) rfl)), List.forall_mem_cons.mpr ⟨(List.mem_append_right _ (List.mem_append_left _ (List.mem_of_getElem? (i := 143) rfl))), List.forall_mem_cons.mpr ⟨(List.mem_append_left _ (List.mem_of_getElem? (i := 6) rfl)), List.forall_mem_cons.mpr ⟨(List.mem_append_right _ (List.mem_append_right _ (List.mem_append_left _ (List.mem_of_getElem? (i := 82) rfl)))), List.forall_mem_cons.mpr ⟨(List.mem_append_right _ (List.mem_append_left _ (List.mem_of_getElem? (i := 136) rfl))), List.forall_mem_cons.mpr ⟨(List.mem_append_left _ (List.mem_of_getElem? (i := 5) rfl)), List.forall_mem_cons.mpr ⟨(List.mem_append_right _ (List.mem_append_left _ (List.mem_of_getElem? (i := 108) rfl))), List.forall_mem_cons.mpr ⟨(List.mem_append_right _ (List.mem_append_right _ (List.mem_append_left _ (List.mem_of_getElem? (i := 25) rfl)))), List.forall_mem_cons.mpr ⟨(List.mem_append_left _ (List.mem_of_getElem? (i := 27) rfl)), List.forall_mem_cons.mpr ⟨(List.mem_append_right _ (List.mem_append_right _ (List.mem_append_left _ (List.mem_of_getElem? (i := 22) rfl)))), List.forall_mem_cons.mpr ⟨(List.mem_append_right _ (List.mem_append_right _ (List.mem_append_left _ (List.mem_of_getElem? (i := 33) rfl)))), List.forall_mem_cons.mpr ⟨(List.mem_append_left _ (List.mem_of_getElem? (i := 28) rfl)), List.forall_mem_cons.mpr ⟨(List.mem_append_right _ (List.mem_append_right _ (List.mem_append_left _ (List.mem_of_getElem? (i := 30) rfl)))), List.forall_mem_cons.mpr ⟨(List.mem_append_right _ (List.mem_append_left _ (List.mem_of_getElem? (i := 234) rfl))), List.forall_mem_cons.mpr ⟨(List.mem_append_left _ (List.mem_of_getElem? (i := 22) rfl)), List.forall_mem_cons.mpr ⟨(List.mem_append_right _ (List.mem_append_left _ (List.mem_of_getElem? (i := 231) rfl))), List.forall_mem_cons.mpr ⟨(List.mem_append_right _ (List.mem_append_right _ (List.mem_append_left _ (List.mem_of_getElem? (i := 41) rfl)))), List.forall_mem_cons.mpr ⟨(List.mem_append_left _ (List.mem_of_getElem? (i := 29) rfl)), List.forall_mem_cons.mpr ⟨(List.mem_append_right _ (List.mem_append_right _ (List.mem_append_left _ (List.mem_of_getElem? (i := 38) rfl)))), List.forall_mem_cons.mpr ⟨(List.mem_append_right _ (List.mem_append_right _ (List.mem_append_left _ (List.mem_of_getElem? (i := 57) rfl)))), fun _ h => absurd h List.not_mem_nil⟩⟩⟩⟩⟩⟩⟩⟩⟩⟩⟩⟩⟩⟩⟩⟩⟩⟩⟩⟩⟩⟩⟩⟩⟩
theorem bg_9 : B9.all goodWord = true := by decide +kernel
theorem bi_10 : ∀ w ∈ B10, w ∈ lw_tbl := List.forall_mem_cons.mpr ⟨(List.mem_append_left _ (List.mem_of_getElem? (i := 32) rfl)), List.forall_mem_cons.mpr ⟨(List.mem_append_right _ (List.mem_append_right _ (List.mem_append_left _ (List.mem_of_getElem? (i := 54) rfl)))), List.forall_mem_cons.mpr ⟨(List.mem_append_right _ (List.mem_append_right _ (List.mem_append_left _ (List.mem_of_getElem? (i := 77) rfl)))), List.forall_mem_cons.mpr ⟨(List.mem_append_left _ (List.mem_of_getElem? (i := 36) rfl)), List.forall_mem_cons.mpr ⟨(List.mem_append_right _ (List.mem_append_right _ (List.mem_append_left _ (List.mem_of_getElem? (i := 74) rfl)))), List.forall_mem_cons.mpr ⟨(List.mem_append_right _ (List.mem_append_right _ (List.mem_append_left _ (List.mem_of_getElem? (i := 103) rfl)))), List.forall_mem_cons.mpr ⟨(List.mem_append_right _ (List.mem_append_right _ (List.mem_append_left _ (List.mem_of_getElem? (i := 104) rfl)))), List.forall_mem_cons.mpr ⟨(List.mem_append_right _ (List.mem_append_right _ (List.mem_append_left _ (List.mem_of_getElem? (i := 105) rfl)))), List.forall_mem_cons.mpr ⟨(List.mem_append_right _ (List.mem_append_right _ (List.mem_append_left _ (List.mem_of_getElem? (i := 106) rfl)))), List.forall_mem_cons.mpr ⟨(List.mem_append_right _ (List.mem_append_right _ (List.mem_append_left _ (List.mem_of_getElem? (i := 97) rfl)))), List.forall_mem_cons.mpr ⟨(List.mem_append_left _ (List.mem_of_getElem? (i := 38) rfl)), List.forall_mem_cons.mpr ⟨(List.mem_append_right _ (List.mem_append_right _ (List.mem_append_left _ (List.mem_of_getElem? (i := 99) rfl)))), List.forall_mem_cons.mpr ⟨(List.mem_append_right _ (List.mem_append_right _ (List.mem_append_left _ (List.mem_of_getElem? (i := 101) rfl)))), List.forall_mem_cons.mpr ⟨(List.mem_append_right _ (List.mem_append_right _ (List.mem_append_left _ (List.mem_of_getElem? (i := 102) rfl)))), List.forall_mem_cons.mpr ⟨(List.mem_append_right _ (List.mem_append_left _ (List.mem_of_getElem? (i := 7) rfl))), List.forall_mem_cons.mpr ⟨(List.mem_append_right _ (List.mem_append_right _ (List.mem_append_left _ (List.mem_of_getElem? (i := 94) rfl)))), List.forall_mem_cons.mpr ⟨(List.mem_append_right _ (List.mem_append_right _ (List.mem_append_left _ (List.mem_of_getElem? (i := 127) rfl)))), List.forall_mem_cons.mpr ⟨(List.mem_append_left _ (List.mem_of_getElem? (i := 40) rfl)), List.forall_mem_cons.mpr ⟨(List.mem_append_right _ (List.mem_append_right _ (List.mem_append_left _ (List.mem_of_getElem? (i := 124) rfl)))), List.forall_mem_cons.mpr ⟨(List.mem_append_right _ (List.mem_append_right _ (List.mem_append_left _ (List.mem_of_getElem? (i := 116) rfl)))), List.forall_mem_cons.mpr ⟨(List.mem_append_left _ (List.mem_of_getElem? (i := 39) rfl)), List.forall_mem_cons.mpr ⟨(List.mem_append_right _ (List.mem_append_right _ (List.mem_append_left _ (List.mem_of_getElem? (i := 113) rfl)))), List.forall_mem_cons.mpr ⟨(List.mem_append_right _ (List.mem_append_right _ (List.mem_append_left _ (List.mem_of_getElem? (i := 140) rfl)))), List.forall_mem_cons.mpr ⟨(List.mem_append_right _ (List.mem_append_right _ (List.mem_append_left _ (List.mem_of_getElem? (i := 143) rfl)))), List.forall_mem_cons.mpr ⟨(List.mem_append_left _ (List.mem_of_getElem? (i := 43) rfl)), fun _ h => absurd h List.not_mem_nil⟩⟩⟩⟩⟩⟩⟩⟩⟩⟩⟩⟩⟩⟩⟩⟩⟩⟩⟩⟩⟩⟩⟩⟩⟩
theorem bg_10 : B10.all goodWord = true := by decide +kernel
theorem bi_11 : ∀ w ∈ B11, w ∈ lw_tbl := List.forall_mem_cons.mpr ⟨(List.mem_append_right _ (List.mem_append_right _ (List.mem_append_left _ (List.mem_of_getElem? (i := 176) rfl)))), List.forall_mem_cons.mpr ⟨(List.mem_append_left _ (List.mem_of_getElem? (i := 44) rfl)), List.forall_mem_cons.mpr ⟨(List.mem_append_right _ (List.mem_append_right _ (List.mem_append_left _ (List.mem_of_getElem? (i := 173) rfl)))), List.forall_mem_cons.mpr ⟨(List.mem_append_right _ (List.mem_append_right _ (List.mem_append_left _ (List.mem_of_getElem? (i := 189) rfl)))), List.forall_mem_cons.mpr ⟨(List.mem_append_right _ (List.mem_append_right _ (List.mem_append_left _ (List.mem_of_getElem? (i := 192) rfl)))), List.forall_mem_cons.mpr ⟨(List.mem_append_left _ (List.mem_of_getElem? (i := 47) rfl)), List.forall_mem_cons.mpr ⟨(List.mem_append_right _ (List.mem_append_left _ (List.mem_of_getElem? (i := 154) rfl))), List.forall_mem_cons.mpr ⟨(List.mem_append_left _ (List.mem_of_getElem? (i := 7) rfl)), List.forall_mem_cons.mpr ⟨(List.mem_append_right _ (List.mem_append_left _ (List.mem_of_getElem? (i := 151) rfl))), List.forall_mem_cons.mpr ⟨(List.mem_append_right _ (List.mem_append_right _ (List.mem_append_left _ (List.mem_of_getElem? (i := 157) rfl)))), List.forall_mem_cons.mpr ⟨(List.mem_append_right _ (List.mem_append_right _ (List.mem_append_left _ (List.mem_of_getElem? (i := 152) rfl)))), List.forall_mem_cons.mpr ⟨(List.mem_append_right _ (List.mem_append_right _ (List.mem_append_left _ (List.mem_of_getElem? (i := 148) rfl)))), List.forall_mem_cons.mpr ⟨(List.mem_append_right _ (List.mem_append_right _ (List.mem_append_left _ (List.mem_of_getElem? (i := 204) rfl)))), List.forall_mem_cons.mpr ⟨(List.mem_append_left _ (List.mem_of_getElem? (i := 48) rfl)), List.forall_mem_cons.mpr ⟨(List.mem_append_right _ (List.mem_append_right _ (List.mem_append_left _ (List.mem_of_getElem? (i := 200) rfl)))), List.forall_mem_cons.mpr ⟨(List.mem_append_right _ (List.mem_append_right _ (List.mem_append_left _ (List.mem_of_getElem? (i := 223) rfl)))), List.forall_mem_cons.mpr ⟨(List.mem_append_left _ (List.mem_of_getElem? (i := 51) rfl)), List.forall_mem_cons.mpr ⟨(List.mem_append_right _ (List.mem_append_right _ (List.mem_append_left _ (List.mem_of_getElem? (i := 220) rfl)))), List.forall_mem_cons.mpr ⟨(List.mem_append_right _ (List.mem_append_right _ (List.mem_append_left _ (List.mem_of_getElem? (i := 239) rfl)))), List.forall_mem_cons.mpr ⟨(List.mem_append_right _ (List.mem_append_right _ (List.mem_append_left _ (List.mem_of_getElem? (i := 162) rfl)))), List.forall_mem_cons.mpr ⟨(List.mem_append_right _ (List.mem_append_right _ (List.mem_append_left _ (List.mem_of_getElem? (i := 231) rfl)))), List.forall_mem_cons.mpr ⟨(List.mem_append_left _ (List.mem_of_getElem? (i := 52) rfl)), List.forall_mem_cons.mpr ⟨(List.mem_append_right _ (List.mem_append_right _ (List.mem_append_left _ (List.mem_of_getElem? (i := 228) rfl)))), List.forall_mem_cons.mpr ⟨(List.mem_append_right _ (List.mem_append_left _ (List.mem_of_getElem? (i := 198) rfl))), List.forall_mem_cons.mpr ⟨(List.mem_append_right _ (List.mem_append_left _ (List.mem_of_getElem? (i := 130) rfl))), fun _ h => absurd h List.not_mem_nil⟩⟩⟩⟩⟩⟩⟩⟩⟩⟩⟩⟩⟩⟩⟩⟩⟩⟩⟩⟩⟩⟩⟩⟩⟩
theorem bg_11 : B11.all goodWord = true := by decide +kernel
theorem bi_12 : ∀ w ∈ B12, w ∈ lw_tbl := List.forall_mem_cons.mpr ⟨(List.mem_append_right _ (List.mem_append_left _ (List.mem_of_getElem? (i := 220) rfl))), List.forall_mem_cons.mpr ⟨(List.mem_append_right _ (List.mem_append_left _ (List.mem_of_getElem? (i := 223) rfl))), List.forall_mem_cons.mpr ⟨(List.mem_append_right _ (List.mem_append_left _ (List.mem_of_getElem? (i := 224) rfl))), List.forall_mem_cons.mpr ⟨(List.mem_append_right _ (List.mem_append_right _ (List.mem_append_left _ (List.mem_of_getElem? (i := 18) rfl)))), List.forall_mem_cons.mpr ⟨(List.mem_append_right _ (List.mem_append_left _ (List.mem_of_getElem? (i := 148) rfl))), List.forall_mem_cons.mpr ⟨(List.mem_append_right _ (List.mem_append_left _ (List.mem_of_getElem? (i := 149) rfl))), List.forall_mem_cons.mpr ⟨(List.mem_append_right _ (List.mem_append_left _ (List.mem_of_getElem? (i := 150) rfl))), List.forall_mem_cons.mpr ⟨(List.mem_append_right _ (List.mem_append_left _ (List.mem_of_getElem? (i := 221) rfl))), List.forall_mem_cons.mpr ⟨(List.mem_append_right _ (List.mem_append_left _ (List.mem_of_getElem? (i := 222) rfl))), List.forall_mem_cons.mpr ⟨(List.mem_append_right _ (List.mem_append_left _ (List.mem_of_getElem? (i := 0) rfl))), List.forall_mem_cons.mpr ⟨(List.mem_append_right _ (List.mem_append_left _ (List.mem_of_getElem? (i := 228) rfl))), List.forall_mem_cons.mpr ⟨(List.mem_append_right _ (List.mem_append_left _ (List.mem_of_getElem? (i := 229) rfl))), List.forall_mem_cons.mpr ⟨(List.mem_append_right _ (List.mem_append_left _ (List.mem_of_getElem? (i := 230) rfl))), List.forall_mem_cons.mpr ⟨(List.mem_append_right _ (List.mem_append_right _ (List.mem_append_left _ (List.mem_of_getElem? (i := 16) rfl)))), List.forall_mem_cons.mpr ⟨(List.mem_append_right _ (List.mem_append_right _ (List.mem_append_left _ (List.mem_of_getElem? (i := 17) rfl)))), List.forall_mem_cons.mpr ⟨(List.mem_append_right _ (List.mem_append_right _ (List.mem_append_left _ (List.mem_of_getElem? (i := 19) rfl)))), List.forall_mem_cons.mpr ⟨(List.mem_append_right _ (List.mem_append_right _ (List.mem_append_left _ (List.mem_of_getElem? (i := 20) rfl)))), List.forall_mem_cons.mpr ⟨(List.mem_append_right _ (List.mem_append_right _ (List.mem_append_left _ (List.mem_of_getElem? (i := 21) rfl)))), List.forall_mem_cons.mpr ⟨(List.mem_append_right _ (List.mem_append_right _ (List.mem_append_left _ (List.mem_of_getElem? (i := 27) rfl)))), List.forall_mem_cons.mpr ⟨(List.mem_append_right _ (List.mem_append_right _ (List.mem_append_left _ (List.mem_of_getElem? (i := 28) rfl)))), List.forall_mem_cons.mpr ⟨(List.mem_append_right _ (List.mem_append_right _ (List.mem_append_left _ (List.mem_of_getElem? (i := 29) rfl)))), List.forall_mem_cons.mpr ⟨(List.mem_append_right _ (List.mem_append_right _ (List.mem_append_left _ (List.mem_of_getElem? (i := 35) rfl)))), List.forall_mem_cons.mpr ⟨(List.mem_append_right _ (List.mem_append_right _ (List.mem_append_left _ (List.mem_of_getElem? (i := 36) rfl)))), List.forall_mem_cons.mpr ⟨(List.mem_append_right _ (List.mem_append_right _ (List.mem_append_left _ (List.mem_of_getElem? (i := 37) rfl)))), List.forall_mem_cons.mpr ⟨(List.mem_append_right _ (List.mem_append_right _ (List.mem_append_left _ (List.mem_of_getElem? (i := 51) rfl)))), fun _ h => absurd h List.not_mem_nil⟩⟩⟩⟩⟩⟩⟩⟩⟩⟩⟩⟩⟩⟩⟩⟩⟩⟩⟩⟩⟩⟩⟩⟩⟩
theorem bg_12 : B12.all goodWord = true := by decide +kernel
theorem bi_13 : ∀ w ∈ B13, w ∈ lw_tbl := List.forall_mem_cons.mpr ⟨(List.mem_append_right _ (List.mem_append_right _ (List.mem_append_left _ (List.mem_of_getElem? (i := 52) rfl)))), List.forall_mem_cons.mpr ⟨(List.mem_append_right _ (List.mem_append_right _ (List.mem_append_left _ (List.mem_of_getElem? (i := 53) rfl)))), List.forall_mem_cons.mpr ⟨(List.mem_append_right _ (List.mem_append_right _ (List.mem_append_left _ (List.mem_of_getElem? (i := 71) rfl)))), List.forall_mem_cons.mpr ⟨(List.mem_append_right _ (List.mem_append_right _ (List.mem_append_left _ (List.mem_of_getElem? (i := 72) rfl)))), List.forall_mem_cons.mpr ⟨(List.mem_append_right _ (List.mem_append_right _ (List.mem_append_left _ (List.mem_of_getElem? (i := 73) rfl)))), List.forall_mem_cons.mpr ⟨(List.mem_append_right _ (List.mem_append_left _ (List.mem_of_getElem? (i := 105) rfl))), List.forall_mem_cons.mpr ⟨(List.mem_append_right _ (List.mem_append_left _ (List.mem_of_getElem? (i := 106) rfl))), List.forall_mem_cons.mpr ⟨(List.mem_append_right _ (List.mem_append_left _ (List.mem_of_getElem? (i := 107) rfl))), List.forall_mem_cons.mpr ⟨(List.mem_append_right _ (List.mem_append_right _ (List.mem_append_left _ (List.mem_of_getElem? (i := 79) rfl)))), List.forall_mem_cons.mpr ⟨(List.mem_append_right _ (List.mem_append_right _ (List.mem_append_left _ (List.mem_of_getElem? (i := 80) rfl)))), List.forall_mem_cons.mpr ⟨(List.mem_append_right _ (List.mem_append_right _ (List.mem_append_left _ (List.mem_of_getElem? (i := 81) rfl)))), List.forall_mem_cons.mpr ⟨(List.mem_append_right _ (List.mem_append_right _ (List.mem_append_left _ (List.mem_of_getElem? (i := 91) rfl)))), List.forall_mem_cons.mpr ⟨(List.mem_append_right _ (List.mem_append_right _ (List.mem_append_left _ (List.mem_of_getElem? (i := 92) rfl)))), List.forall_mem_cons.mpr ⟨(List.mem_append_right _ (List.mem_append_right _ (List.mem_append_left _ (List.mem_of_getElem? (i := 93) rfl)))), List.forall_mem_cons.mpr ⟨(List.mem_append_right _ (List.mem_append_left _ (List.mem_of_getElem? (i := 227) rfl))), List.forall_mem_cons.mpr ⟨(List.mem_append_right _ (List.mem_append_right _ (List.mem_append_left _ (List.mem_of_getElem? (i := 166) rfl)))), List.forall_mem_cons.mpr ⟨(List.mem_append_right _ (List.mem_append_right _ (List.mem_append_left _ (List.mem_of_getElem? (i := 121) rfl)))), List.forall_mem_cons.mpr ⟨(List.mem_append_right _ (List.mem_append_right _ (List.mem_append_left _ (List.mem_of_getElem? (i := 122) rfl)))), List.forall_mem_cons.mpr ⟨(List.mem_append_right _ (List.mem_append_right _ (List.mem_append_left _ (List.mem_of_getElem? (i := 123) rfl)))), List.forall_mem_cons.mpr ⟨(List.mem_append_right _ (List.mem_append_right _ (List.mem_append_left _ (List.mem_of_getElem? (i := 137) rfl)))), List.forall_mem_cons.mpr ⟨(List.mem_append_right _ (List.mem_append_right _ (List.mem_append_left _ (List.mem_of_getElem? (i := 138) rfl)))), List.forall_mem_cons.mpr ⟨(List.mem_append_right _ (List.mem_append_right _ (List.mem_append_left _ (List.mem_of_getElem? (i := 139) rfl)))), List.forall_mem_cons.mpr ⟨(List.mem_append_right _ (List.mem_append_right _ (List.mem_append_left _ (List.mem_of_getElem? (i := 110) rfl)))), List.forall_mem_cons.mpr ⟨(List.mem_append_right _ (List.mem_append_right _ (List.mem_append_left _ (List.mem_of_getElem? (i := 111) rfl)))), List.forall_mem_cons.mpr ⟨(List.mem_append_right _ (List.mem_append_right _ (List.mem_append_left _ (List.mem_of_getElem? (i := 112) rfl)))), fun _ h => absurd h List.not_mem_nil⟩⟩⟩⟩⟩⟩⟩⟩⟩⟩⟩⟩⟩⟩⟩⟩⟩⟩⟩⟩⟩⟩⟩⟩⟩
theorem bg_13 : B13.all goodWord = true := by decide +kernel
theorem bi_14 : ∀ w ∈ B14, w ∈ lw_tbl := List.forall_mem_cons.mpr ⟨(List.mem_append_right _ (List.mem_append_right _ (List.mem_append_left _ (List.mem_of_getElem? (i := 120) rfl)))), List.forall_mem_cons.mpr ⟨(List.mem_append_right _ (List.mem_append_right _ (List.mem_append_left _ (List.mem_of_getElem? (i := 118) rfl)))), List.forall_mem_cons.mpr ⟨(List.mem_append_right _ (List.mem_append_right _ (List.mem_append_left _ (List.mem_of_getElem? (i := 119) rfl)))), List.forall_mem_cons.mpr ⟨(List.mem_append_right _ (List.mem_append_right _ (List.mem_append_left _ (List.mem_of_getElem? (i := 145) rfl)))), List.forall_mem_cons.mpr ⟨(List.mem_append_right _ (List.mem_append_right _ (List.mem_append_left _ (List.mem_of_getElem? (i := 146) rfl)))), List.forall_mem_cons.mpr ⟨(List.mem_append_right _ (List.mem_append_right _ (List.mem_append_left _ (List.mem_of_getElem? (i := 147) rfl)))), List.forall_mem_cons.mpr ⟨(List.mem_append_right _ (List.mem_append_right _ (List.mem_append_left _ (List.mem_of_getElem? (i := 154) rfl)))), List.forall_mem_cons.mpr ⟨(List.mem_append_right _ (List.mem_append_right _ (List.mem_append_left _ (List.mem_of_getElem? (i := 155) rfl)))), List.forall_mem_cons.mpr ⟨(List.mem_append_right _ (List.mem_append_right _ (List.mem_append_left _ (List.mem_of_getElem? (i := 156) rfl)))), List.forall_mem_cons.mpr ⟨(List.mem_append_right _ (List.mem_append_right _ (List.mem_append_left _ (List.mem_of_getElem? (i := 159) rfl)))), List.forall_mem_cons.mpr ⟨(List.mem_append_right _ (List.mem_append_right _ (List.mem_append_left _ (List.mem_of_getElem? (i := 160) rfl)))), List.forall_mem_cons.mpr ⟨(List.mem_append_right _ (List.mem_append_right _ (List.mem_append_left _ (List.mem_of_getElem? (i := 161) rfl)))), List.forall_mem_cons.mpr ⟨(List.mem_append_right _ (List.mem_append_right _ (List.mem_append_left _ (List.mem_of_getElem? (i := 164) rfl)))), List.forall_mem_cons.mpr ⟨(List.mem_append_right _ (List.mem_append_right _ (List.mem_append_left _ (List.mem_of_getElem? (i := 165) rfl)))), List.forall_mem_cons.mpr ⟨(List.mem_append_right _ (List.mem_append_right _ (List.mem_append_left _ (List.mem_of_getElem? (i := 109) rfl)))), List.forall_mem_cons.mpr ⟨(List.mem_append_right _ (List.mem_append_right _ (List.mem_append_left _ (List.mem_of_getElem? (i := 170) rfl)))), List.forall_mem_cons.mpr ⟨(List.mem_append_right _ (List.mem_append_right _ (List.mem_append_left _ (List.mem_of_getElem? (i := 171) rfl)))), List.forall_mem_cons.mpr ⟨(List.mem_append_right _ (List.mem_append_right _ (List.mem_append_left _ (List.mem_of_getElem? (i := 172) rfl)))), List.forall_mem_cons.mpr ⟨(List.mem_append_right _ (List.mem_append_right _ (List.mem_append_left _ (List.mem_of_getElem? (i := 186) rfl)))), List.forall_mem_cons.mpr ⟨(List.mem_append_right _ (List.mem_append_right _ (List.mem_append_left _ (List.mem_of_getElem? (i := 187) rfl)))), List.forall_mem_cons.mpr ⟨(List.mem_append_right _ (List.mem_append_right _ (List.mem_append_left _ (List.mem_of_getElem? (i := 188) rfl)))), List.forall_mem_cons.mpr ⟨(List.mem_append_right _ (List.mem_append_right _ (List.mem_append_left _ (List.mem_of_getElem? (i := 169) rfl)))), List.forall_mem_cons.mpr ⟨(List.mem_append_right _ (List.mem_append_right _ (List.mem_append_left _ (List.mem_of_getElem? (i := 197) rfl)))), List.forall_mem_cons.mpr ⟨(List.mem_append_right _ (List.mem_append_right _ (List.mem_append_left _ (List.mem_of_getElem? (i := 198) rfl)))), List.forall_mem_cons.mpr ⟨(List.mem_append_right _ (List.mem_append_right _ (List.mem_append_left _ (List.mem_of_getElem? (i := 199) rfl)))), fun _ h => absurd h List.not_mem_nil⟩⟩⟩⟩⟩⟩⟩⟩⟩⟩⟩⟩⟩⟩⟩⟩⟩⟩⟩⟩⟩⟩⟩⟩⟩
theorem bg_14 : B14.all goodWord = true := by decide +kernel
theorem bi_15 : ∀ w ∈ B15, w ∈ lw_tbl := List.forall_mem_cons.mpr ⟨(List.mem_append_right _ (List.mem_append_right _ (List.mem_append_left _ (List.mem_of_getElem? (i := 217) rfl)))), List.forall_mem_cons.mpr ⟨(List.mem_append_right _ (List.mem_append_right _ (List.mem_append_left _ (List.mem_of_getElem? (i := 218) rfl)))), List.forall_mem_cons.mpr ⟨(List.mem_append_right _ (List.mem_append_right _ (List.mem_append_left _ (List.mem_of_getElem? (i := 219) rfl)))), List.forall_mem_cons.mpr ⟨(List.mem_append_right _ (List.mem_append_right _ (List.mem_append_left _ (List.mem_of_getElem? (i := 225) rfl)))), List.forall_mem_cons.mpr ⟨(List.mem_append_right _ (List.mem_append_right _ (List.mem_append_left _ (List.mem_of_getElem? (i := 226) rfl)))), List.forall_mem_cons.mpr ⟨(List.mem_append_right _ (List.mem_append_right _ (List.mem_append_left _ (List.mem_of_getElem? (i := 227) rfl)))), List.forall_mem_cons.mpr ⟨(List.mem_append_right _ (List.mem_append_right _ (List.mem_append_left _ (List.mem_of_getElem? (i := 196) rfl)))), List.forall_mem_cons.mpr ⟨(List.mem_append_right _ (List.mem_append_right _ (List.mem_append_left _ (List.mem_of_getElem? (i := 236) rfl)))), List.forall_mem_cons.mpr ⟨(List.mem_append_right _ (List.mem_append_right _ (List.mem_append_left _ (List.mem_of_getElem? (i := 237) rfl)))), List.forall_mem_cons.mpr ⟨(List.mem_append_right _ (List.mem_append_right _ (List.mem_append_left _ (List.mem_of_getElem? (i := 238) rfl)))), List.forall_mem_cons.mpr ⟨(List.mem_append_right _ (List.mem_append_right _ (List.mem_append_left _ (List.mem_of_getElem? (i := 235) rfl)))), List.forall_mem_cons.mpr ⟨(List.mem_append_right _ (List.mem_append_left _ (List.mem_of_getElem? (i := 8) rfl))), List.forall_mem_cons.mpr ⟨(List.mem_append_right _ (List.mem_append_left _ (List.mem_of_getElem? (i := 9) rfl))), List.forall_mem_cons.mpr ⟨(List.mem_append_right _ (List.mem_append_left _ (List.mem_of_getElem? (i := 10) rfl))), List.forall_mem_cons.mpr ⟨(List.mem_append_right _ (List.mem_append_left _ (List.mem_of_getElem? (i := 11) rfl))), List.forall_mem_cons.mpr ⟨(List.mem_append_right _ (List.mem_append_left _ (List.mem_of_getElem? (i := 218) rfl))), List.forall_mem_cons.mpr ⟨(List.mem_append_right _ (List.mem_append_left _ (List.mem_of_getElem? (i := 219) rfl))), List.forall_mem_cons.mpr ⟨(List.mem_append_right _ (List.mem_append_left _ (List.mem_of_getElem? (i := 225) rfl))), List.forall_mem_cons.mpr ⟨(List.mem_append_right _ (List.mem_append_left _ (List.mem_of_getElem? (i := 226) rfl))), List.forall_mem_cons.mpr ⟨(List.mem_append_right _ (List.mem_append_right _ (List.mem_append_left _ (List.mem_of_getElem? (i := 107) rfl)))), List.forall_mem_cons.mpr ⟨(List.mem_append_right _ (List.mem_append_right _ (List.mem_append_left _ (List.mem_of_getElem? (i := 108) rfl)))), List.forall_mem_cons.mpr ⟨(List.mem_append_right _ (List.mem_append_right _ (List.mem_append_left _ (List.mem_of_getElem? (i := 167) rfl)))), List.forall_mem_cons.mpr ⟨(List.mem_append_right _ (List.mem_append_right _ (List.mem_append_left _ (List.mem_of_getElem? (i := 168) rfl)))), List.forall_mem_cons.mpr ⟨(List.mem_append_right _ (List.mem_append_right _ (List.mem_append_left _ (List.mem_of_getElem? (i := 233) rfl)))), List.forall_mem_cons.mpr ⟨(List.mem_append_right _ (List.mem_append_right _ (List.mem_append_left _ (List.mem_of_getElem? (i := 234) rfl)))), fun _ h => absurd h List.not_mem_nil⟩⟩⟩⟩⟩⟩⟩⟩⟩⟩⟩⟩⟩⟩⟩⟩⟩⟩⟩⟩⟩⟩⟩⟩⟩
theorem bg_15 : B15.all goodWord = true := by decide +kernel
theorem bi_16 : ∀ w ∈ B16, w ∈ lw_tbl := List.forall_mem_cons.mpr ⟨(List.mem_append_right _ (List.mem_append_right _ (List.mem_append_left _ (List.mem_of_getElem? (i := 194) rfl)))), List.forall_mem_cons.mpr ⟨(List.mem_append_right _ (List.mem_append_right _ (List.mem_append_left _ (List.mem_of_getElem? (i := 195) rfl)))), fun _ h => absurd h List.not_mem_nil⟩⟩
theorem bg_16 : B16.all goodWord = true := by decide +kernel
theorem bi_17 : ∀ w ∈ wsX00, w ∈ lw_tbl := by
  intro w hw
  obtain ⟨k, hk, rfl⟩ := List.mem_map.mp hw
  have hk := List.mem_range.mp hk
  rcases (show k = 0 ∨ k = 1 ∨ k = 2 by omega) with rfl | rfl | rfl
  · exact (List.mem_append_right _ (List.mem_append_left _ (List.mem_of_getElem? (i := 59) rfl)))
  · exact (List.mem_append_right _ (List.mem_append_left _ (List.mem_of_getElem? (i := 61) rfl)))
  · exact (List.mem_append_right _ (List.mem_append_left _ (List.mem_of_getElem? (i := 63) rfl)))
theorem bg_17 : (wsX00).all goodWord = true := by decide +kernel
theorem bi_18 : ∀ w ∈ wsX10, w ∈ lw_tbl := by
  intro w hw
  obtain ⟨k, hk, rfl⟩ := List.mem_map.mp hw
  have hk := List.mem_range.mp hk
  rcases (show k = 0 ∨ k = 1 ∨ k = 2 ∨ k = 3 ∨ k = 4 ∨ k = 5 by omega) with rfl | rfl | rfl | rfl | rfl | rfl
  · exact (List.mem_append_right _ (List.mem_append_left _ (List.mem_of_getElem? (i := 79) rfl)))
  · exact (List.mem_append_right _ (List.mem_append_left _ (List.mem_of_getElem? (i := 81) rfl)))
  · exact (List.mem_append_right _ (List.mem_append_left _ (List.mem_of_getElem? (i := 83) rfl)))
  · exact (List.mem_append_right _ (List.mem_append_left _ (List.mem_of_getElem? (i := 85) rfl)))
  · exact (List.mem_append_right _ (List.mem_append_left _ (List.mem_of_getElem? (i := 87) rfl)))
  · exact (List.mem_append_right _ (List.mem_append_left _ (List.mem_of_getElem? (i := 89) rfl)))
theorem bg_18 : (wsX10).all goodWord = true := by decide +kernel
theorem bi_19 : ∀ w ∈ wsX20, w ∈ lw_tbl := by
  intro w hw
  obtain ⟨k, hk, rfl⟩ := List.mem_map.mp hw
  have hk := List.mem_range.mp hk
  rcases (show k = 0 ∨ k = 1 ∨ k = 2 ∨ k = 3 ∨ k = 4 ∨ k = 5 by omega) with rfl | rfl | rfl | rfl | rfl | rfl
  · exact (List.mem_append_right _ (List.mem_append_left _ (List.mem_of_getElem? (i := 32) rfl)))
  · exact (List.mem_append_right _ (List.mem_append_left _ (List.mem_of_getElem? (i := 34) rfl)))
  · exact (List.mem_append_right _ (List.mem_append_left _ (List.mem_of_getElem? (i := 36) rfl)))
  · exact (List.mem_append_right _ (List.mem_append_left _ (List.mem_of_getElem? (i := 38) rfl)))
  · exact (List.mem_append_right _ (List.mem_append_left _ (List.mem_of_getElem? (i := 40) rfl)))
  · exact (List.mem_append_right _ (List.mem_append_left _ (List.mem_of_getElem? (i := 42) rfl)))
theorem bg_19 : (wsX20).all goodWord = true := by decide +kernel
theorem bi_20 : ∀ w ∈ wsX30, w ∈ lw_tbl := by
  intro w hw
  obtain ⟨k, hk, rfl⟩ := List.mem_map.mp hw
  have hk := List.mem_range.mp hk
  rcases (show k = 0 ∨ k = 1 ∨ k = 2 ∨ k = 3 by omega) with rfl | rfl | rfl | rfl
  · exact (List.mem_append_right _ (List.mem_append_left _ (List.mem_of_getElem? (i := 96) rfl)))
  · exact (List.mem_append_right _ (List.mem_append_left _ (List.mem_of_getElem? (i := 98) rfl)))
  · exact (List.mem_append_right _ (List.mem_append_left _ (List.mem_of_getElem? (i := 100) rfl)))
  · exact (List.mem_append_right _ (List.mem_append_left _ (List.mem_of_getElem? (i := 102) rfl)))
theorem bg_20 : (wsX30).all goodWord = true := by decide +kernel
theorem BW_in : ∀ w ∈ BW, w ∈ lw_tbl := fun w h => ((List.mem_append.mp h).elim (bi_0 w) (fun h => ((List.mem_append.mp h).elim (bi_1 w) (fun h => ((List.mem_append.mp h).elim (bi_2 w) (fun h => ((List.mem_append.mp h).elim (bi_3 w) (fun h => ((List.mem_append.mp h).elim (bi_4 w) (fun h => ((List.mem_append.mp h).elim (bi_5 w) (fun h => ((List.mem_append.mp h).elim (bi_6 w) (fun h => ((List.mem_append.mp h).elim (bi_7 w) (fun h => ((List.mem_append.mp h).elim (bi_8 w) (fun h => ((List.mem_append.mp h).elim (bi_9 w) (fun h => ((List.mem_append.mp h).elim (bi_10 w) (fun h => ((List.mem_append.mp h).elim (bi_11 w) (fun h => ((List.mem_append.mp h).elim (bi_12 w) (fun h => ((List.mem_append.mp h).elim (bi_13 w) (fun h => ((List.mem_append.mp h).elim (bi_14 w) (fun h => ((List.mem_append.mp h).elim (bi_15 w) (fun h => ((List.mem_append.mp h).elim (bi_16 w) (fun h => ((List.mem_append.mp h).elim (bi_17 w) (fun h => ((List.mem_append.mp h).elim (bi_18 w) (fun h => ((List.mem_append.mp h).elim (bi_19 w) (fun h => (bi_20 w h)))))))))))))))))))))))))))))))))))))))))
theorem BW_good : ∀ w ∈ BW, goodWord w = true := fun w h => ((List.mem_append.mp h).elim (List.all_eq_true.mp bg_0 w) (fun h => ((List.mem_append.mp h).elim (List.all_eq_true.mp bg_1 w) (fun h => ((List.mem_append.mp h).elim (List.all_eq_true.mp bg_2 w) (fun h => ((List.mem_append.mp h).elim (List.all_eq_true.mp bg_3 w) (fun h => ((List.mem_append.mp h).elim (List.all_eq_true.mp bg_4 w) (fun h => ((List.mem_append.mp h).elim (List.all_eq_true.mp bg_5 w) (fun h => ((List.mem_append.mp h).elim (List.all_eq_true.mp bg_6 w) (fun h => ((List.mem_append.mp h).elim (List.all_eq_true.mp bg_7 w) (fun h => ((List.mem_append.mp h).elim (List.all_eq_true.mp bg_8 w) (fun h => ((List.mem_append.mp h).elim (List.all_eq_true.mp bg_9 w) (fun h => ((List.mem_append.mp h).elim (List.all_eq_true.mp bg_10 w) (fun h => ((List.mem_append.mp h).elim (List.all_eq_true.mp bg_11 w) (fun h => ((List.mem_append.mp h).elim (List.all_eq_true.mp bg_12 w) (fun h => ((List.mem_append.mp h).elim (List.all_eq_true.mp bg_13 w) (fun h => ((List.mem_append.mp h).elim (List.all_eq_true.mp bg_14 w) (fun h => ((List.mem_append.mp h).elim (List.all_eq_true.mp bg_15 w) (fun h => ((List.mem_append.mp h).elim (List.all_eq_true.mp bg_16 w) (fun h => ((List.mem_append.mp h).elim (List.all_eq_true.mp bg_17 w) (fun h => ((List.mem_append.mp h).elim (List.all_eq_true.mp bg_18 w) (fun h => ((List.mem_append.mp h).elim (List.all_eq_true.mp bg_19 w) (fun h => (List.all_eq_true.mp bg_20 w h)))))))))))))))))))))))))))))))))))))))))
theorem iw_X0 : ∀ w ∈ wsX00, w ∈ BW := fun _ h => mb_17 h
theorem iw_X1 : ∀ w ∈ wsX10, w ∈ BW := fun _ h => mb_18 h
theorem iw_X2 : ∀ w ∈ wsX20, w ∈ BW := fun _ h => mb_19 h
theorem iw_X3 : ∀ w ∈ wsX30, w ∈ BW := fun _ h => mb_20 h
/-- the words of a method: its code, and all -/
abbrev wq (y : MethodName) (cc : ByteArray) (n : Nat) (ret : Option FieldType) : List Cond := .code y cc n ret :: BW
theorem gq {y : MethodName} {cc : ByteArray} {n : Nat} {ret : Option FieldType} (h : Cond.code y cc n ret ∈ BW) : GoodIn BW (wq y cc n ret) := fun w hw => by
  rcases List.mem_cons.mp hw with rfl | hw
  · exact ⟨h, good_of_word (BW_good _ h)⟩
  · exact ⟨hw, good_of_word (BW_good _ hw)⟩
theorem gqV {y : MethodName} {cc : ByteArray} {n : Nat} {ret : Option FieldType} {own C : String} {i : Nat} (h1 : Cond.methodLink own i y ∈ BW) (h2 : Cond.instanceMethod y ∈ BW) (h3 : Cond.selects C y y ∈ BW) (h4 : Cond.initialized C ∈ BW) (h : Cond.code y cc n ret ∈ BW) : GoodIn BW (wsV own i C y (wq y cc n ret)) := by
  refine goodIn_app (fun w hw => ?_) (gq h)
  simp only [List.mem_cons, List.not_mem_nil, or_false] at hw
  rcases hw with rfl | rfl | rfl | rfl
  · exact ⟨h1, good_of_word (BW_good _ h1)⟩
  · exact ⟨h2, good_of_word (BW_good _ h2)⟩
  · exact ⟨h3, good_of_word (BW_good _ h3)⟩
  · exact ⟨h4, good_of_word (BW_good _ h4)⟩
theorem gqS {y : MethodName} {cc : ByteArray} {n : Nat} {ret : Option FieldType} {own : String} {i : Nat} (h1 : Cond.methodLink own i y ∈ BW) (h2 : Cond.static y ∈ BW) (h4 : Cond.initialized y.cls ∈ BW) (h : Cond.code y cc n ret ∈ BW) : GoodIn BW (va_wsS own i y (wq y cc n ret)) := by
  refine goodIn_app (fun w hw => ?_) (gq h)
  simp only [List.mem_cons, List.not_mem_nil, or_false] at hw
  rcases hw with rfl | rfl | rfl
  · exact ⟨h1, good_of_word (BW_good _ h1)⟩
  · exact ⟨h2, good_of_word (BW_good _ h2)⟩
  · exact ⟨h4, good_of_word (BW_good _ h4)⟩
