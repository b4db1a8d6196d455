def RX0 : String := "GoblinHousehold$1"
def TX0 : u_T := fun k => match k with
  | _ => ("", "", "", false)
def tyX0 : Nat → FieldType := fun k => match k with
  | _ => .int
theorem nmX0 : ∀ a, a < 0 → ∀ b, b < 0 → a ≠ b → (TX0 a).2.1 ≠ (TX0 b).2.1 := by decide +kernel
theorem tyX0_ok : ∀ k, k < 0 → parseFieldDescriptor (TX0 k).2.2.1 = some (tyX0 k) := by decide +kernel
def RX1 : String := "GoblinHousehold$Brooms"
def TX1 : u_T := fun k => match k with
  | 0 => ("GoblinHousehold$Brooms", "powers", "[I", true)
  | 1 => ("GoblinHousehold$Brooms", "banished", "[Z", true)
  | _ => ("GoblinHousehold$Brooms", "count", "I", false)
def tyX1 : Nat → FieldType := fun k => match k with
  | 0 => .array .int
  | 1 => .array .boolean
  | _ => .int
theorem nmX1 : ∀ a, a < 3 → ∀ b, b < 3 → a ≠ b → (TX1 a).2.1 ≠ (TX1 b).2.1 := by decide +kernel
theorem tyX1_ok : ∀ k, k < 3 → parseFieldDescriptor (TX1 k).2.2.1 = some (tyX1 k) := by decide +kernel
abbrev cX1_init : ByteArray := prog_3_method_1_code
def yX1_init : MethodName := ⟨RX1, "<init>", "()V"⟩
abbrev cX1_copyFrom : ByteArray := prog_3_method_2_code
def yX1_copyFrom : MethodName := ⟨RX1, "copyFrom", "(LGoblinHousehold$Brooms;)V"⟩
abbrev cX1_has : ByteArray := prog_3_method_3_code
def yX1_has : MethodName := ⟨RX1, "has", "(I)Z"⟩
abbrev cX1_inUse : ByteArray := prog_3_method_4_code
def yX1_inUse : MethodName := ⟨RX1, "inUse", "()I"⟩
abbrev cX1_greatestPowerInUse : ByteArray := prog_3_method_5_code
def yX1_greatestPowerInUse : MethodName := ⟨RX1, "greatestPowerInUse", "()I"⟩
def RX2 : String := "GoblinHousehold$Command"
def TX2 : u_T := fun k => match k with
  | 0 => ("GoblinHousehold$Command", "arguments", "[I", true)
  | 1 => ("GoblinHousehold$Command", "count", "I", false)
  | _ => ("GoblinHousehold$Command", "form", "LGoblinHousehold$Form;", false)
def tyX2 : Nat → FieldType := fun k => match k with
  | 0 => .array .int
  | 1 => .int
  | _ => .object "GoblinHousehold$Form"
theorem nmX2 : ∀ a, a < 3 → ∀ b, b < 3 → a ≠ b → (TX2 a).2.1 ≠ (TX2 b).2.1 := by decide +kernel
theorem tyX2_ok : ∀ k, k < 3 → parseFieldDescriptor (TX2 k).2.2.1 = some (tyX2 k) := by decide +kernel
abbrev cX2_init : ByteArray := prog_4_method_1_code
def yX2_init : MethodName := ⟨RX2, "<init>", "()V"⟩
abbrev cX2_addArgument : ByteArray := prog_4_method_2_code
def yX2_addArgument : MethodName := ⟨RX2, "addArgument", "(I)V"⟩
def RX3 : String := "GoblinHousehold$Contracts"
def TX3 : u_T := fun k => match k with
  | 0 => ("GoblinHousehold$Contracts", "ids", "[I", true)
  | 1 => ("GoblinHousehold$Contracts", "goblins", "[I", true)
  | 2 => ("GoblinHousehold$Contracts", "rooms", "[I", true)
  | 3 => ("GoblinHousehold$Contracts", "wages", "[I", true)
  | 4 => ("GoblinHousehold$Contracts", "efforts", "[I", true)
  | 5 => ("GoblinHousehold$Contracts", "count", "I", false)
  | _ => ("GoblinHousehold$Contracts", "nextId", "I", false)
def tyX3 : Nat → FieldType := fun k => match k with
  | 0 => .array .int
  | 1 => .array .int
  | 2 => .array .int
  | 3 => .array .int
  | 4 => .array .int
  | 5 => .int
  | _ => .int
theorem nmX3 : ∀ a, a < 7 → ∀ b, b < 7 → a ≠ b → (TX3 a).2.1 ≠ (TX3 b).2.1 := by decide +kernel
theorem tyX3_ok : ∀ k, k < 7 → parseFieldDescriptor (TX3 k).2.2.1 = some (tyX3 k) := by decide +kernel
abbrev cX3_init : ByteArray := prog_5_method_1_code
def yX3_init : MethodName := ⟨RX3, "<init>", "()V"⟩
abbrev cX3_copyFrom : ByteArray := prog_5_method_2_code
def yX3_copyFrom : MethodName := ⟨RX3, "copyFrom", "(LGoblinHousehold$Contracts;)V"⟩
abbrev cX3_positionOf : ByteArray := prog_5_method_3_code
def yX3_positionOf : MethodName := ⟨RX3, "positionOf", "(I)I"⟩
abbrev cX3_firstOf : ByteArray := prog_5_method_4_code
def yX3_firstOf : MethodName := ⟨RX3, "firstOf", "(I)I"⟩
abbrev cX3_areFor : ByteArray := prog_5_method_5_code
def yX3_areFor : MethodName := ⟨RX3, "areFor", "(II)Z"⟩
abbrev cX3_anyTwiceForARoom : ByteArray := prog_5_method_6_code
def yX3_anyTwiceForARoom : MethodName := ⟨RX3, "anyTwiceForARoom", "()Z"⟩
abbrev cX3_removeAt : ByteArray := prog_5_method_7_code
def yX3_removeAt : MethodName := ⟨RX3, "removeAt", "(I)V"⟩
abbrev cX3_setRow : ByteArray := prog_5_method_8_code
def yX3_setRow : MethodName := ⟨RX3, "setRow", "(ILGoblinHousehold$Contracts;I)V"⟩
abbrev cX3_bestOfAllSets : ByteArray := prog_5_method_9_code
def yX3_bestOfAllSets : MethodName := ⟨RX3, "bestOfAllSets", "(II)I"⟩
abbrev cX3_wagesOfSet : ByteArray := prog_5_method_10_code
def yX3_wagesOfSet : MethodName := ⟨RX3, "wagesOfSet", "(III)I"⟩
abbrev cX3_bestOfTable : ByteArray := prog_5_method_11_code
def yX3_bestOfTable : MethodName := ⟨RX3, "bestOfTable", "(II[I)I"⟩
abbrev cX3_enterInTable : ByteArray := prog_5_method_12_code
def yX3_enterInTable : MethodName := ⟨RX3, "enterInTable", "(II[I)V"⟩
def RX4 : String := "GoblinHousehold$Form"
def TX4 : u_T := fun k => match k with
  | _ => ("", "", "", false)
def tyX4 : Nat → FieldType := fun k => match k with
  | _ => .int
theorem nmX4 : ∀ a, a < 0 → ∀ b, b < 0 → a ≠ b → (TX4 a).2.1 ≠ (TX4 b).2.1 := by decide +kernel
theorem tyX4_ok : ∀ k, k < 0 → parseFieldDescriptor (TX4 k).2.2.1 = some (tyX4 k) := by decide +kernel
def RX5 : String := "GoblinHousehold$Goblins"
def TX5 : u_T := fun k => match k with
  | 0 => ("GoblinHousehold$Goblins", "strengths", "[I", true)
  | 1 => ("GoblinHousehold$Goblins", "purses", "[I", true)
  | 2 => ("GoblinHousehold$Goblins", "debts", "[I", true)
  | 3 => ("GoblinHousehold$Goblins", "skipped", "[I", true)
  | 4 => ("GoblinHousehold$Goblins", "resting", "[Z", true)
  | _ => ("GoblinHousehold$Goblins", "count", "I", false)
def tyX5 : Nat → FieldType := fun k => match k with
  | 0 => .array .int
  | 1 => .array .int
  | 2 => .array .int
  | 3 => .array .int
  | 4 => .array .boolean
  | _ => .int
theorem nmX5 : ∀ a, a < 6 → ∀ b, b < 6 → a ≠ b → (TX5 a).2.1 ≠ (TX5 b).2.1 := by decide +kernel
theorem tyX5_ok : ∀ k, k < 6 → parseFieldDescriptor (TX5 k).2.2.1 = some (tyX5 k) := by decide +kernel
abbrev cX5_init : ByteArray := prog_7_method_1_code
def yX5_init : MethodName := ⟨RX5, "<init>", "()V"⟩
abbrev cX5_copyFrom : ByteArray := prog_7_method_2_code
def yX5_copyFrom : MethodName := ⟨RX5, "copyFrom", "(LGoblinHousehold$Goblins;)V"⟩
abbrev cX5_has : ByteArray := prog_7_method_3_code
def yX5_has : MethodName := ⟨RX5, "has", "(I)Z"⟩
abbrev cX5_numberResting : ByteArray := prog_7_method_4_code
def yX5_numberResting : MethodName := ⟨RX5, "numberResting", "()I"⟩
abbrev cX5_crumbsInPurses : ByteArray := prog_7_method_5_code
def yX5_crumbsInPurses : MethodName := ⟨RX5, "crumbsInPurses", "()I"⟩
abbrev cX5_anyCrumbsNegative : ByteArray := prog_7_method_6_code
def yX5_anyCrumbsNegative : MethodName := ⟨RX5, "anyCrumbsNegative", "()Z"⟩
abbrev cX5_rankByWealth : ByteArray := prog_7_method_7_code
def yX5_rankByWealth : MethodName := ⟨RX5, "rankByWealth", "(I)I"⟩
abbrev cX5_isWealthier : ByteArray := prog_7_method_8_code
def yX5_isWealthier : MethodName := ⟨RX5, "isWealthier", "(II)Z"⟩
def RX6 : String := "GoblinHousehold$History"
def TX6 : u_T := fun k => match k with
  | 0 => ("GoblinHousehold$History", "rows", "[LGoblinHousehold$Household;", true)
  | _ => ("GoblinHousehold$History", "count", "I", false)
def tyX6 : Nat → FieldType := fun k => match k with
  | 0 => .array (.object "GoblinHousehold$Household")
  | _ => .int
theorem nmX6 : ∀ a, a < 2 → ∀ b, b < 2 → a ≠ b → (TX6 a).2.1 ≠ (TX6 b).2.1 := by decide +kernel
theorem tyX6_ok : ∀ k, k < 2 → parseFieldDescriptor (TX6 k).2.2.1 = some (tyX6 k) := by decide +kernel
abbrev cX6_init : ByteArray := prog_8_method_1_code
def yX6_init : MethodName := ⟨RX6, "<init>", "()V"⟩
abbrev cX6_prepare : ByteArray := prog_8_method_2_code
def yX6_prepare : MethodName := ⟨RX6, "prepare", "(LGoblinHousehold$Household;)V"⟩
abbrev cX6_keep : ByteArray := prog_8_method_3_code
def yX6_keep : MethodName := ⟨RX6, "keep", "()V"⟩
abbrev cX6_takeBack : ByteArray := prog_8_method_4_code
def yX6_takeBack : MethodName := ⟨RX6, "takeBack", "(LGoblinHousehold$Household;)V"⟩
abbrev cX6_stepBack : ByteArray := prog_8_method_5_code
def yX6_stepBack : MethodName := ⟨RX6, "stepBack", "(LGoblinHousehold$Household;)V"⟩
def RX7 : String := "GoblinHousehold$Household"
def TX7 : u_T := fun k => match k with
  | 0 => ("GoblinHousehold$Household", "dustOfRooms", "[I", true)
  | 1 => ("GoblinHousehold$Household", "brooms", "LGoblinHousehold$Brooms;", true)
  | 2 => ("GoblinHousehold$Household", "goblins", "LGoblinHousehold$Goblins;", true)
  | 3 => ("GoblinHousehold$Household", "contracts", "LGoblinHousehold$Contracts;", true)
  | 4 => ("GoblinHousehold$Household", "nights", "I", false)
  | 5 => ("GoblinHousehold$Household", "crumbsInChest", "I", false)
  | 6 => ("GoblinHousehold$Household", "funded", "I", false)
  | 7 => ("GoblinHousehold$Household", "spent", "I", false)
  | 8 => ("GoblinHousehold$Household", "done", "I", false)
  | 9 => ("GoblinHousehold$Household", "broken", "I", false)
  | 10 => ("GoblinHousehold$Household", "unpaid", "I", false)
  | _ => ("GoblinHousehold$Household", "interest", "I", false)
def tyX7 : Nat → FieldType := fun k => match k with
  | 0 => .array .int
  | 1 => .object "GoblinHousehold$Brooms"
  | 2 => .object "GoblinHousehold$Goblins"
  | 3 => .object "GoblinHousehold$Contracts"
  | 4 => .int
  | 5 => .int
  | 6 => .int
  | 7 => .int
  | 8 => .int
  | 9 => .int
  | 10 => .int
  | _ => .int
theorem nmX7 : ∀ a, a < 12 → ∀ b, b < 12 → a ≠ b → (TX7 a).2.1 ≠ (TX7 b).2.1 := by decide +kernel
theorem tyX7_ok : ∀ k, k < 12 → parseFieldDescriptor (TX7 k).2.2.1 = some (tyX7 k) := by decide +kernel
abbrev cX7_init : ByteArray := prog_9_method_1_code
def yX7_init : MethodName := ⟨RX7, "<init>", "()V"⟩
abbrev cX7_copyFrom : ByteArray := prog_9_method_2_code
def yX7_copyFrom : MethodName := ⟨RX7, "copyFrom", "(LGoblinHousehold$Household;)V"⟩
abbrev cX7_execute : ByteArray := prog_9_method_3_code
def yX7_execute : MethodName := ⟨RX7, "execute", "(LGoblinHousehold$Command;)I"⟩
abbrev cX7_takeGoblin : ByteArray := prog_9_method_4_code
def yX7_takeGoblin : MethodName := ⟨RX7, "takeGoblin", "(I)I"⟩
abbrev cX7_takeBroom : ByteArray := prog_9_method_5_code
def yX7_takeBroom : MethodName := ⟨RX7, "takeBroom", "(I)I"⟩
abbrev cX7_putBroomAway : ByteArray := prog_9_method_6_code
def yX7_putBroomAway : MethodName := ⟨RX7, "putBroomAway", "(I)I"⟩
abbrev cX7_fetchBroom : ByteArray := prog_9_method_7_code
def yX7_fetchBroom : MethodName := ⟨RX7, "fetchBroom", "(I)I"⟩
abbrev cX7_signContract : ByteArray := prog_9_method_8_code
def yX7_signContract : MethodName := ⟨RX7, "signContract", "(IIII)I"⟩
abbrev cX7_dropContract : ByteArray := prog_9_method_9_code
def yX7_dropContract : MethodName := ⟨RX7, "dropContract", "(I)I"⟩
abbrev cX7_sendToBed : ByteArray := prog_9_method_10_code
def yX7_sendToBed : MethodName := ⟨RX7, "sendToBed", "(I)I"⟩
abbrev cX7_getOutOfBed : ByteArray := prog_9_method_11_code
def yX7_getOutOfBed : MethodName := ⟨RX7, "getOutOfBed", "(I)I"⟩
abbrev cX7_advanceCrumbs : ByteArray := prog_9_method_12_code
def yX7_advanceCrumbs : MethodName := ⟨RX7, "advanceCrumbs", "(II)I"⟩
abbrev cX7_takeCrumbsIn : ByteArray := prog_9_method_13_code
def yX7_takeCrumbsIn : MethodName := ⟨RX7, "takeCrumbsIn", "(I)I"⟩
abbrev cX7_giveCrumbsOut : ByteArray := prog_9_method_14_code
def yX7_giveCrumbsOut : MethodName := ⟨RX7, "giveCrumbsOut", "(I)I"⟩
abbrev cX7_letNightsPass : ByteArray := prog_9_method_15_code
def yX7_letNightsPass : MethodName := ⟨RX7, "letNightsPass", "(I)I"⟩
abbrev cX7_passOneNight : ByteArray := prog_9_method_16_code
def yX7_passOneNight : MethodName := ⟨RX7, "passOneNight", "()V"⟩
abbrev cX7_rankByDust : ByteArray := prog_9_method_17_code
def yX7_rankByDust : MethodName := ⟨RX7, "rankByDust", "(I)I"⟩
abbrev cX7_energyOf : ByteArray := prog_9_method_18_code
def yX7_energyOf : MethodName := ⟨RX7, "energyOf", "(I)I"⟩
abbrev cX7_work : ByteArray := prog_9_method_19_code
def yX7_work : MethodName := ⟨RX7, "work", "(I)V"⟩
abbrev cX7_pay : ByteArray := prog_9_method_20_code
def yX7_pay : MethodName := ⟨RX7, "pay", "(II)V"⟩
abbrev cX7_breakContracts : ByteArray := prog_9_method_21_code
def yX7_breakContracts : MethodName := ⟨RX7, "breakContracts", "()V"⟩
abbrev cX7_growDebts : ByteArray := prog_9_method_22_code
def yX7_growDebts : MethodName := ⟨RX7, "growDebts", "()V"⟩
def RX8 : String := "GoblinHousehold$Script"
def TX8 : u_T := fun k => match k with
  | 0 => ("GoblinHousehold$Script", "text", "Ljava/lang/StringBuilder;", true)
  | 1 => ("GoblinHousehold$Script", "commands", "[LGoblinHousehold$Command;", true)
  | 2 => ("GoblinHousehold$Script", "count", "I", false)
  | _ => ("GoblinHousehold$Script", "furthest", "I", false)
def tyX8 : Nat → FieldType := fun k => match k with
  | 0 => .object "java/lang/StringBuilder"
  | 1 => .array (.object "GoblinHousehold$Command")
  | 2 => .int
  | _ => .int
theorem nmX8 : ∀ a, a < 4 → ∀ b, b < 4 → a ≠ b → (TX8 a).2.1 ≠ (TX8 b).2.1 := by decide +kernel
theorem tyX8_ok : ∀ k, k < 4 → parseFieldDescriptor (TX8 k).2.2.1 = some (tyX8 k) := by decide +kernel
abbrev cX8_init : ByteArray := prog_10_method_1_code
def yX8_init : MethodName := ⟨RX8, "<init>", "()V"⟩
abbrev cX8_readCommands : ByteArray := prog_10_method_2_code
def yX8_readCommands : MethodName := ⟨RX8, "readCommands", "()Z"⟩
abbrev cX8_readCommand : ByteArray := prog_10_method_3_code
def yX8_readCommand : MethodName := ⟨RX8, "readCommand", "(ILGoblinHousehold$Command;)I"⟩
abbrev cX8_fit : ByteArray := prog_10_method_4_code
def yX8_fit : MethodName := ⟨RX8, "fit", "(Ljava/lang/String;ILGoblinHousehold$Command;)I"⟩
abbrev cX8_stopAt : ByteArray := prog_10_method_5_code
def yX8_stopAt : MethodName := ⟨RX8, "stopAt", "(I)I"⟩
abbrev cX8_isArgument : ByteArray := prog_10_method_6_code
def yX8_isArgument : MethodName := ⟨RX8, "isArgument", "(C)Z"⟩
abbrev cX8_endOfSign : ByteArray := prog_10_method_7_code
def yX8_endOfSign : MethodName := ⟨RX8, "endOfSign", "(CI)I"⟩
abbrev cX8_endOfDigits : ByteArray := prog_10_method_8_code
def yX8_endOfDigits : MethodName := ⟨RX8, "endOfDigits", "(II)I"⟩
abbrev cX8_numberBetween : ByteArray := prog_10_method_9_code
def yX8_numberBetween : MethodName := ⟨RX8, "numberBetween", "(II)I"⟩
def RX9 : String := "GoblinHousehold"
def TX9 : u_T := fun k => match k with
  | 0 => ("GoblinHousehold", "now", "LGoblinHousehold$Household;", true)
  | 1 => ("GoblinHousehold", "forecast", "LGoblinHousehold$Household;", true)
  | 2 => ("GoblinHousehold", "snapshot", "LGoblinHousehold$Household;", true)
  | 3 => ("GoblinHousehold", "history", "LGoblinHousehold$History;", true)
  | 4 => ("GoblinHousehold", "script", "LGoblinHousehold$Script;", true)
  | 5 => ("GoblinHousehold", "output", "Ljava/lang/StringBuilder;", true)
  | 6 => ("GoblinHousehold", "bestByEnergy", "[I", true)
  | 7 => ("GoblinHousehold", "hasSnapshot", "Z", false)
  | 8 => ("GoblinHousehold", "latestErrorPosition", "I", false)
  | _ => ("GoblinHousehold", "latestFailedCommand", "I", false)
def tyX9 : Nat → FieldType := fun k => match k with
  | 0 => .object "GoblinHousehold$Household"
  | 1 => .object "GoblinHousehold$Household"
  | 2 => .object "GoblinHousehold$Household"
  | 3 => .object "GoblinHousehold$History"
  | 4 => .object "GoblinHousehold$Script"
  | 5 => .object "java/lang/StringBuilder"
  | 6 => .array .int
  | 7 => .boolean
  | 8 => .int
  | _ => .int
theorem nmX9 : ∀ a, a < 10 → ∀ b, b < 10 → a ≠ b → (TX9 a).2.1 ≠ (TX9 b).2.1 := by decide +kernel
theorem tyX9_ok : ∀ k, k < 10 → parseFieldDescriptor (TX9 k).2.2.1 = some (tyX9 k) := by decide +kernel
abbrev cX9_init : ByteArray := prog_1_method_1_code
def yX9_init : MethodName := ⟨RX9, "<init>", "()V"⟩
abbrev cX9_addGoblin : ByteArray := prog_1_method_2_code
def yX9_addGoblin : MethodName := ⟨RX9, "addGoblin", "(I)I"⟩
abbrev cX9_addBroom : ByteArray := prog_1_method_3_code
def yX9_addBroom : MethodName := ⟨RX9, "addBroom", "(I)I"⟩
abbrev cX9_banishBroom : ByteArray := prog_1_method_4_code
def yX9_banishBroom : MethodName := ⟨RX9, "banishBroom", "(I)I"⟩
abbrev cX9_recallBroom : ByteArray := prog_1_method_5_code
def yX9_recallBroom : MethodName := ⟨RX9, "recallBroom", "(I)I"⟩
abbrev cX9_hire : ByteArray := prog_1_method_6_code
def yX9_hire : MethodName := ⟨RX9, "hire", "(IIII)I"⟩
abbrev cX9_cancelContract : ByteArray := prog_1_method_7_code
def yX9_cancelContract : MethodName := ⟨RX9, "cancelContract", "(I)I"⟩
abbrev cX9_rest : ByteArray := prog_1_method_8_code
def yX9_rest : MethodName := ⟨RX9, "rest", "(I)I"⟩
abbrev cX9_wake : ByteArray := prog_1_method_9_code
def yX9_wake : MethodName := ⟨RX9, "wake", "(I)I"⟩
abbrev cX9_lend : ByteArray := prog_1_method_10_code
def yX9_lend : MethodName := ⟨RX9, "lend", "(II)I"⟩
abbrev cX9_fund : ByteArray := prog_1_method_11_code
def yX9_fund : MethodName := ⟨RX9, "fund", "(I)I"⟩
abbrev cX9_spend : ByteArray := prog_1_method_12_code
def yX9_spend : MethodName := ⟨RX9, "spend", "(I)I"⟩
abbrev cX9_passNights : ByteArray := prog_1_method_13_code
def yX9_passNights : MethodName := ⟨RX9, "passNights", "(I)I"⟩
abbrev cX9_finishChange : ByteArray := prog_1_method_14_code
def yX9_finishChange : MethodName := ⟨RX9, "finishChange", "(I)I"⟩
abbrev cX9_dust : ByteArray := prog_1_method_15_code
def yX9_dust : MethodName := ⟨RX9, "dust", "(I)I"⟩
abbrev cX9_roomByDust : ByteArray := prog_1_method_16_code
def yX9_roomByDust : MethodName := ⟨RX9, "roomByDust", "(I)I"⟩
abbrev cX9_broomCount : ByteArray := prog_1_method_17_code
def yX9_broomCount : MethodName := ⟨RX9, "broomCount", "()I"⟩
abbrev cX9_power : ByteArray := prog_1_method_18_code
def yX9_power : MethodName := ⟨RX9, "power", "(I)I"⟩
abbrev cX9_isBanished : ByteArray := prog_1_method_19_code
def yX9_isBanished : MethodName := ⟨RX9, "isBanished", "(I)Z"⟩
abbrev cX9_checkBroom : ByteArray := prog_1_method_20_code
def yX9_checkBroom : MethodName := ⟨RX9, "checkBroom", "(I)V"⟩
abbrev cX9_goblinCount : ByteArray := prog_1_method_21_code
def yX9_goblinCount : MethodName := ⟨RX9, "goblinCount", "()I"⟩
abbrev cX9_strength : ByteArray := prog_1_method_22_code
def yX9_strength : MethodName := ⟨RX9, "strength", "(I)I"⟩
abbrev cX9_purse : ByteArray := prog_1_method_23_code
def yX9_purse : MethodName := ⟨RX9, "purse", "(I)I"⟩
abbrev cX9_debt : ByteArray := prog_1_method_24_code
def yX9_debt : MethodName := ⟨RX9, "debt", "(I)I"⟩
abbrev cX9_skippedNights : ByteArray := prog_1_method_25_code
def yX9_skippedNights : MethodName := ⟨RX9, "skippedNights", "(I)I"⟩
abbrev cX9_isResting : ByteArray := prog_1_method_26_code
def yX9_isResting : MethodName := ⟨RX9, "isResting", "(I)Z"⟩
abbrev cX9_energy : ByteArray := prog_1_method_27_code
def yX9_energy : MethodName := ⟨RX9, "energy", "(I)I"⟩
abbrev cX9_goblinByWealth : ByteArray := prog_1_method_28_code
def yX9_goblinByWealth : MethodName := ⟨RX9, "goblinByWealth", "(I)I"⟩
abbrev cX9_bestWages : ByteArray := prog_1_method_29_code
def yX9_bestWages : MethodName := ⟨RX9, "bestWages", "(I)I"⟩
abbrev cX9_bestWagesByTable : ByteArray := prog_1_method_30_code
def yX9_bestWagesByTable : MethodName := ⟨RX9, "bestWagesByTable", "(I)I"⟩
abbrev cX9_checkGoblin : ByteArray := prog_1_method_31_code
def yX9_checkGoblin : MethodName := ⟨RX9, "checkGoblin", "(I)V"⟩
abbrev cX9_openContracts : ByteArray := prog_1_method_32_code
def yX9_openContracts : MethodName := ⟨RX9, "openContracts", "()I"⟩
abbrev cX9_contractAt : ByteArray := prog_1_method_33_code
def yX9_contractAt : MethodName := ⟨RX9, "contractAt", "(I)I"⟩
abbrev cX9_goblinOf : ByteArray := prog_1_method_34_code
def yX9_goblinOf : MethodName := ⟨RX9, "goblinOf", "(I)I"⟩
abbrev cX9_roomOf : ByteArray := prog_1_method_35_code
def yX9_roomOf : MethodName := ⟨RX9, "roomOf", "(I)I"⟩
abbrev cX9_wage : ByteArray := prog_1_method_36_code
def yX9_wage : MethodName := ⟨RX9, "wage", "(I)I"⟩
abbrev cX9_effort : ByteArray := prog_1_method_37_code
def yX9_effort : MethodName := ⟨RX9, "effort", "(I)I"⟩
abbrev cX9_nightsUntilDone : ByteArray := prog_1_method_38_code
def yX9_nightsUntilDone : MethodName := ⟨RX9, "nightsUntilDone", "(I)I"⟩
abbrev cX9_checkedPosition : ByteArray := prog_1_method_39_code
def yX9_checkedPosition : MethodName := ⟨RX9, "checkedPosition", "(I)I"⟩
abbrev cX9_chestAfter : ByteArray := prog_1_method_40_code
def yX9_chestAfter : MethodName := ⟨RX9, "chestAfter", "(I)I"⟩
abbrev cX9_debtAfter : ByteArray := prog_1_method_41_code
def yX9_debtAfter : MethodName := ⟨RX9, "debtAfter", "(II)I"⟩
abbrev cX9_predict : ByteArray := prog_1_method_42_code
def yX9_predict : MethodName := ⟨RX9, "predict", "(I)V"⟩
abbrev cX9_night : ByteArray := prog_1_method_43_code
def yX9_night : MethodName := ⟨RX9, "night", "()I"⟩
abbrev cX9_chest : ByteArray := prog_1_method_44_code
def yX9_chest : MethodName := ⟨RX9, "chest", "()I"⟩
abbrev cX9_allCrumbs : ByteArray := prog_1_method_45_code
def yX9_allCrumbs : MethodName := ⟨RX9, "allCrumbs", "()I"⟩
abbrev cX9_allCrumbsByAccounts : ByteArray := prog_1_method_46_code
def yX9_allCrumbsByAccounts : MethodName := ⟨RX9, "allCrumbsByAccounts", "()I"⟩
abbrev cX9_doneTotal : ByteArray := prog_1_method_47_code
def yX9_doneTotal : MethodName := ⟨RX9, "doneTotal", "()I"⟩
abbrev cX9_brokenTotal : ByteArray := prog_1_method_48_code
def yX9_brokenTotal : MethodName := ⟨RX9, "brokenTotal", "()I"⟩
abbrev cX9_unpaidTotal : ByteArray := prog_1_method_49_code
def yX9_unpaidTotal : MethodName := ⟨RX9, "unpaidTotal", "()I"⟩
abbrev cX9_interestTotal : ByteArray := prog_1_method_50_code
def yX9_interestTotal : MethodName := ⟨RX9, "interestTotal", "()I"⟩
abbrev cX9_meanDust : ByteArray := prog_1_method_51_code
def yX9_meanDust : MethodName := ⟨RX9, "meanDust", "()D"⟩
abbrev cX9_reliability : ByteArray := prog_1_method_52_code
def yX9_reliability : MethodName := ⟨RX9, "reliability", "()F"⟩
abbrev cX9_isConsistent : ByteArray := prog_1_method_53_code
def yX9_isConsistent : MethodName := ⟨RX9, "isConsistent", "()Z"⟩
abbrev cX9_renderGoblin : ByteArray := prog_1_method_54_code
def yX9_renderGoblin : MethodName := ⟨RX9, "renderGoblin", "(I)I"⟩
abbrev cX9_renderContracts : ByteArray := prog_1_method_55_code
def yX9_renderContracts : MethodName := ⟨RX9, "renderContracts", "()I"⟩
abbrev cX9_outputAt : ByteArray := prog_1_method_56_code
def yX9_outputAt : MethodName := ⟨RX9, "outputAt", "(I)C"⟩
abbrev cX9_runScript : ByteArray := prog_1_method_58_code
def yX9_runScript : MethodName := ⟨RX9, "runScript", "()I"⟩
abbrev cX9_errorPosition : ByteArray := prog_1_method_59_code
def yX9_errorPosition : MethodName := ⟨RX9, "errorPosition", "()I"⟩
abbrev cX9_failedCommand : ByteArray := prog_1_method_60_code
def yX9_failedCommand : MethodName := ⟨RX9, "failedCommand", "()I"⟩
abbrev cX9_undo : ByteArray := prog_1_method_61_code
def yX9_undo : MethodName := ⟨RX9, "undo", "()I"⟩
abbrev cX9_save : ByteArray := prog_1_method_62_code
def yX9_save : MethodName := ⟨RX9, "save", "()I"⟩
abbrev cX9_restore : ByteArray := prog_1_method_63_code
def yX9_restore : MethodName := ⟨RX9, "restore", "()I"⟩
def RX10 : String := "GoblinHouseholdModel"
def TX10 : u_T := fun k => match k with
  | _ => ("", "", "", false)
def tyX10 : Nat → FieldType := fun k => match k with
  | _ => .int
theorem nmX10 : ∀ a, a < 0 → ∀ b, b < 0 → a ≠ b → (TX10 a).2.1 ≠ (TX10 b).2.1 := by decide +kernel
theorem tyX10_ok : ∀ k, k < 0 → parseFieldDescriptor (TX10 k).2.2.1 = some (tyX10 k) := by decide +kernel
def RJx145de : String := "java/io/Serializable"
def TJx145de : u_T := fun k => match k with
  | _ => ("", "", "", false)
def tyJx145de : Nat → FieldType := fun k => match k with
  | _ => .int
theorem nmJx145de : ∀ a, a < 0 → ∀ b, b < 0 → a ≠ b → (TJx145de a).2.1 ≠ (TJx145de b).2.1 := by decide +kernel
theorem tyJx145de_ok : ∀ k, k < 0 → parseFieldDescriptor (TJx145de k).2.2.1 = some (tyJx145de k) := by decide +kernel
def RJ5 : String := "java/lang/AbstractStringBuilder"
def TJ5 : u_T := fun k => match k with
  | _ => ("", "", "", false)
def tyJ5 : Nat → FieldType := fun k => match k with
  | _ => .int
theorem nmJ5 : ∀ a, a < 0 → ∀ b, b < 0 → a ≠ b → (TJ5 a).2.1 ≠ (TJ5 b).2.1 := by decide +kernel
theorem tyJ5_ok : ∀ k, k < 0 → parseFieldDescriptor (TJ5 k).2.2.1 = some (tyJ5 k) := by decide +kernel
abbrev cJ5_init_d00df : ByteArray := prog_14_method_2_code
def yJ5_init_d00df : MethodName := ⟨RJ5, "<init>", "(I)V"⟩
abbrev cJ5_length_8abf5 : ByteArray := prog_14_method_6_code
def yJ5_length_8abf5 : MethodName := ⟨RJ5, "length", "()I"⟩
abbrev cJ5_ensureCapacityInternal_d00df : ByteArray := prog_14_method_9_code
def yJ5_ensureCapacityInternal_d00df : MethodName := ⟨RJ5, "ensureCapacityInternal", "(I)V"⟩
abbrev cJ5_newCapacity_0f7a4 : ByteArray := prog_14_method_10_code
def yJ5_newCapacity_0f7a4 : MethodName := ⟨RJ5, "newCapacity", "(I)I"⟩
abbrev cJ5_inflate_da8c8 : ByteArray := prog_14_method_11_code
def yJ5_inflate_da8c8 : MethodName := ⟨RJ5, "inflate", "()V"⟩
abbrev cJ5_setLength_d00df : ByteArray := prog_14_method_13_code
def yJ5_setLength_d00df : MethodName := ⟨RJ5, "setLength", "(I)V"⟩
abbrev cJ5_charAt_5068e : ByteArray := prog_14_method_14_code
def yJ5_charAt_5068e : MethodName := ⟨RJ5, "charAt", "(I)C"⟩
abbrev cJ5_append_cf1ce : ByteArray := prog_14_method_22_code
def yJ5_append_cf1ce : MethodName := ⟨RJ5, "append", "(Ljava/lang/String;)Ljava/lang/AbstractStringBuilder;"⟩
abbrev cJ5_appendNull_278bc : ByteArray := prog_14_method_26_code
def yJ5_appendNull_278bc : MethodName := ⟨RJ5, "appendNull", "()Ljava/lang/AbstractStringBuilder;"⟩
abbrev cJ5_append_3fe6f : ByteArray := prog_14_method_31_code
def yJ5_append_3fe6f : MethodName := ⟨RJ5, "append", "(C)Ljava/lang/AbstractStringBuilder;"⟩
abbrev cJ5_append_c97b9 : ByteArray := prog_14_method_32_code
def yJ5_append_c97b9 : MethodName := ⟨RJ5, "append", "(I)Ljava/lang/AbstractStringBuilder;"⟩
abbrev cJ5_getValue_6d5f1 : ByteArray := prog_14_method_64_code
def yJ5_getValue_6d5f1 : MethodName := ⟨RJ5, "getValue", "()[B"⟩
abbrev cJ5_isLatin1_aae02 : ByteArray := prog_14_method_68_code
def yJ5_isLatin1_aae02 : MethodName := ⟨RJ5, "isLatin1", "()Z"⟩
abbrev cJ5_inflateIfNeededFor_a7421 : ByteArray := prog_14_method_71_code
def yJ5_inflateIfNeededFor_a7421 : MethodName := ⟨RJ5, "inflateIfNeededFor", "(Ljava/lang/String;)V"⟩
abbrev cJ5_putStringAt_47b60 : ByteArray := prog_14_method_73_code
def yJ5_putStringAt_47b60 : MethodName := ⟨RJ5, "putStringAt", "(ILjava/lang/String;)V"⟩
def RJx2cfe8 : String := "java/lang/Appendable"
def TJx2cfe8 : u_T := fun k => match k with
  | _ => ("", "", "", false)
def tyJx2cfe8 : Nat → FieldType := fun k => match k with
  | _ => .int
theorem nmJx2cfe8 : ∀ a, a < 0 → ∀ b, b < 0 → a ≠ b → (TJx2cfe8 a).2.1 ≠ (TJx2cfe8 b).2.1 := by decide +kernel
theorem tyJx2cfe8_ok : ∀ k, k < 0 → parseFieldDescriptor (TJx2cfe8 k).2.2.1 = some (tyJx2cfe8 k) := by decide +kernel
def RJx00060 : String := "java/lang/ArrayIndexOutOfBoundsException"
def TJx00060 : u_T := fun k => match k with
  | 0 => ("java/lang/Throwable", "backtrace", "Ljava/lang/Object;", false)
  | 1 => ("java/lang/Throwable", "detailMessage", "Ljava/lang/String;", false)
  | 2 => ("java/lang/Throwable", "cause", "Ljava/lang/Throwable;", false)
  | 3 => ("java/lang/Throwable", "stackTrace", "[Ljava/lang/StackTraceElement;", false)
  | 4 => ("java/lang/Throwable", "depth", "I", false)
  | _ => ("java/lang/Throwable", "suppressedExceptions", "Ljava/util/List;", false)
def tyJx00060 : Nat → FieldType := fun k => match k with
  | 0 => .object "java/lang/Object"
  | 1 => .object "java/lang/String"
  | 2 => .object "java/lang/Throwable"
  | 3 => .array (.object "java/lang/StackTraceElement")
  | 4 => .int
  | _ => .object "java/util/List"
theorem nmJx00060 : ∀ a, a < 6 → ∀ b, b < 6 → a ≠ b → (TJx00060 a).2.1 ≠ (TJx00060 b).2.1 := by decide +kernel
theorem tyJx00060_ok : ∀ k, k < 6 → parseFieldDescriptor (TJx00060 k).2.2.1 = some (tyJx00060 k) := by decide +kernel
abbrev cJx00060_init_a7421 : ByteArray := prog_17_method_2_code
def yJx00060_init_a7421 : MethodName := ⟨RJx00060, "<init>", "(Ljava/lang/String;)V"⟩
abbrev cJx00060_init_d00df : ByteArray := prog_17_method_3_code
def yJx00060_init_d00df : MethodName := ⟨RJx00060, "<init>", "(I)V"⟩
def RJx9f9b0 : String := "java/lang/CharSequence"
def TJx9f9b0 : u_T := fun k => match k with
  | _ => ("", "", "", false)
def tyJx9f9b0 : Nat → FieldType := fun k => match k with
  | _ => .int
theorem nmJx9f9b0 : ∀ a, a < 0 → ∀ b, b < 0 → a ≠ b → (TJx9f9b0 a).2.1 ≠ (TJx9f9b0 b).2.1 := by decide +kernel
theorem tyJx9f9b0_ok : ∀ k, k < 0 → parseFieldDescriptor (TJx9f9b0 k).2.2.1 = some (tyJx9f9b0 k) := by decide +kernel
def RJx8e188 : String := "java/lang/Cloneable"
def TJx8e188 : u_T := fun k => match k with
  | _ => ("", "", "", false)
def tyJx8e188 : Nat → FieldType := fun k => match k with
  | _ => .int
theorem nmJx8e188 : ∀ a, a < 0 → ∀ b, b < 0 → a ≠ b → (TJx8e188 a).2.1 ≠ (TJx8e188 b).2.1 := by decide +kernel
theorem tyJx8e188_ok : ∀ k, k < 0 → parseFieldDescriptor (TJx8e188 k).2.2.1 = some (tyJx8e188 k) := by decide +kernel
def RJxb160c : String := "java/lang/Comparable"
def TJxb160c : u_T := fun k => match k with
  | _ => ("", "", "", false)
def tyJxb160c : Nat → FieldType := fun k => match k with
  | _ => .int
theorem nmJxb160c : ∀ a, a < 0 → ∀ b, b < 0 → a ≠ b → (TJxb160c a).2.1 ≠ (TJxb160c b).2.1 := by decide +kernel
theorem tyJxb160c_ok : ∀ k, k < 0 → parseFieldDescriptor (TJxb160c k).2.2.1 = some (tyJxb160c k) := by decide +kernel
def RJx29ce0 : String := "java/lang/Enum"
def TJx29ce0 : u_T := fun k => match k with
  | _ => ("", "", "", false)
def tyJx29ce0 : Nat → FieldType := fun k => match k with
  | _ => .int
theorem nmJx29ce0 : ∀ a, a < 0 → ∀ b, b < 0 → a ≠ b → (TJx29ce0 a).2.1 ≠ (TJx29ce0 b).2.1 := by decide +kernel
theorem tyJx29ce0_ok : ∀ k, k < 0 → parseFieldDescriptor (TJx29ce0 k).2.2.1 = some (tyJx29ce0 k) := by decide +kernel
abbrev cJx29ce0_ordinal_8abf5 : ByteArray := prog_21_method_2_code
def yJx29ce0_ordinal_8abf5 : MethodName := ⟨RJx29ce0, "ordinal", "()I"⟩
def RJ6 : String := "java/lang/Integer"
def TJ6 : u_T := fun k => match k with
  | _ => ("", "", "", false)
def tyJ6 : Nat → FieldType := fun k => match k with
  | _ => .int
theorem nmJ6 : ∀ a, a < 0 → ∀ b, b < 0 → a ≠ b → (TJ6 a).2.1 ≠ (TJ6 b).2.1 := by decide +kernel
theorem tyJ6_ok : ∀ k, k < 0 → parseFieldDescriptor (TJ6 k).2.2.1 = some (tyJ6 k) := by decide +kernel
abbrev cJ6_getChars_ba4f3 : ByteArray := prog_26_method_12_code
def yJ6_getChars_ba4f3 : MethodName := ⟨RJ6, "getChars", "(II[B)I"⟩
abbrev cJ6_stringSize_0f7a4 : ByteArray := prog_26_method_13_code
def yJ6_stringSize_0f7a4 : MethodName := ⟨RJ6, "stringSize", "(I)I"⟩
def RJ9 : String := "java/lang/Math"
def TJ9 : u_T := fun k => match k with
  | _ => ("", "", "", false)
def tyJ9 : Nat → FieldType := fun k => match k with
  | _ => .int
theorem nmJ9 : ∀ a, a < 0 → ∀ b, b < 0 → a ≠ b → (TJ9 a).2.1 ≠ (TJ9 b).2.1 := by decide +kernel
theorem tyJ9_ok : ∀ k, k < 0 → parseFieldDescriptor (TJ9 k).2.2.1 = some (tyJ9 k) := by decide +kernel
abbrev cJ9_max_7cf53 : ByteArray := prog_27_method_65_code
def yJ9_max_7cf53 : MethodName := ⟨RJ9, "max", "(II)I"⟩
abbrev cJ9_min_7cf53 : ByteArray := prog_27_method_69_code
def yJ9_min_7cf53 : MethodName := ⟨RJ9, "min", "(II)I"⟩
def RJxd2413 : String := "java/lang/Number"
def TJxd2413 : u_T := fun k => match k with
  | _ => ("", "", "", false)
def tyJxd2413 : Nat → FieldType := fun k => match k with
  | _ => .int
theorem nmJxd2413 : ∀ a, a < 0 → ∀ b, b < 0 → a ≠ b → (TJxd2413 a).2.1 ≠ (TJxd2413 b).2.1 := by decide +kernel
theorem tyJxd2413_ok : ∀ k, k < 0 → parseFieldDescriptor (TJxd2413 k).2.2.1 = some (tyJxd2413 k) := by decide +kernel
def RJ0 : String := "java/lang/String"
def TJ0 : u_T := fun k => match k with
  | 0 => ("java/lang/String", "value", "[B", true)
  | 1 => ("java/lang/String", "coder", "B", true)
  | 2 => ("java/lang/String", "hash", "I", false)
  | _ => ("java/lang/String", "hashIsZero", "Z", false)
def tyJ0 : Nat → FieldType := fun k => match k with
  | 0 => .array .byte
  | 1 => .byte
  | 2 => .int
  | _ => .boolean
theorem nmJ0 : ∀ a, a < 4 → ∀ b, b < 4 → a ≠ b → (TJ0 a).2.1 ≠ (TJ0 b).2.1 := by decide +kernel
theorem tyJ0_ok : ∀ k, k < 4 → parseFieldDescriptor (TJ0 k).2.2.1 = some (tyJ0 k) := by decide +kernel
abbrev cJ0_init_81219 : ByteArray := prog_30_method_53_code
def yJ0_init_81219 : MethodName := ⟨RJ0, "<init>", "(Ljava/lang/StringBuilder;)V"⟩
abbrev cJ0_length_8abf5 : ByteArray := prog_30_method_54_code
def yJ0_length_8abf5 : MethodName := ⟨RJ0, "length", "()I"⟩
abbrev cJ0_charAt_5068e : ByteArray := prog_30_method_56_code
def yJ0_charAt_5068e : MethodName := ⟨RJ0, "charAt", "(I)C"⟩
abbrev cJ0_getBytes_840e7 : ByteArray := prog_30_method_147_code
def yJ0_getBytes_840e7 : MethodName := ⟨RJ0, "getBytes", "([BIB)V"⟩
abbrev cJ0_init_db425 : ByteArray := prog_30_method_150_code
def yJ0_init_db425 : MethodName := ⟨RJ0, "<init>", "(Ljava/lang/AbstractStringBuilder;Ljava/lang/Void;)V"⟩
abbrev cJ0_coder_7d493 : ByteArray := prog_30_method_152_code
def yJ0_coder_7d493 : MethodName := ⟨RJ0, "coder", "()B"⟩
abbrev cJ0_isLatin1_aae02 : ByteArray := prog_30_method_154_code
def yJ0_isLatin1_aae02 : MethodName := ⟨RJ0, "isLatin1", "()Z"⟩
abbrev cJ0_checkIndex_df160 : ByteArray := prog_30_method_155_code
def yJ0_checkIndex_df160 : MethodName := ⟨RJ0, "checkIndex", "(II)V"⟩
abbrev cJ0_checkBoundsOffCount_cabcc : ByteArray := prog_30_method_157_code
def yJ0_checkBoundsOffCount_cabcc : MethodName := ⟨RJ0, "checkBoundsOffCount", "(III)I"⟩
abbrev cJ0_checkBoundsBeginEnd_23922 : ByteArray := prog_30_method_158_code
def yJ0_checkBoundsBeginEnd_23922 : MethodName := ⟨RJ0, "checkBoundsBeginEnd", "(III)V"⟩
def RJ4 : String := "java/lang/StringBuilder"
def TJ4 : u_T := fun k => match k with
  | 0 => ("java/lang/AbstractStringBuilder", "value", "[B", false)
  | 1 => ("java/lang/AbstractStringBuilder", "coder", "B", false)
  | 2 => ("java/lang/AbstractStringBuilder", "maybeLatin1", "Z", false)
  | _ => ("java/lang/AbstractStringBuilder", "count", "I", false)
def tyJ4 : Nat → FieldType := fun k => match k with
  | 0 => .array .byte
  | 1 => .byte
  | 2 => .boolean
  | _ => .int
theorem nmJ4 : ∀ a, a < 4 → ∀ b, b < 4 → a ≠ b → (TJ4 a).2.1 ≠ (TJ4 b).2.1 := by decide +kernel
theorem tyJ4_ok : ∀ k, k < 4 → parseFieldDescriptor (TJ4 k).2.2.1 = some (tyJ4 k) := by decide +kernel
abbrev cJ4_init_da8c8 : ByteArray := prog_31_method_1_code
def yJ4_init_da8c8 : MethodName := ⟨RJ4, "<init>", "()V"⟩
abbrev cJ4_append_15ec4 : ByteArray := prog_31_method_7_code
def yJ4_append_15ec4 : MethodName := ⟨RJ4, "append", "(Ljava/lang/String;)Ljava/lang/StringBuilder;"⟩
abbrev cJ4_append_cf468 : ByteArray := prog_31_method_14_code
def yJ4_append_cf468 : MethodName := ⟨RJ4, "append", "(C)Ljava/lang/StringBuilder;"⟩
abbrev cJ4_append_bf812 : ByteArray := prog_31_method_15_code
def yJ4_append_bf812 : MethodName := ⟨RJ4, "append", "(I)Ljava/lang/StringBuilder;"⟩
abbrev cJ4_toString_0e30d : ByteArray := prog_31_method_42_code
def yJ4_toString_0e30d : MethodName := ⟨RJ4, "toString", "()Ljava/lang/String;"⟩
abbrev cJ4_charAt_5068e : ByteArray := prog_31_method_88_code
def yJ4_charAt_5068e : MethodName := ⟨RJ4, "charAt", "(I)C"⟩
abbrev cJ4_setLength_d00df : ByteArray := prog_31_method_89_code
def yJ4_setLength_d00df : MethodName := ⟨RJ4, "setLength", "(I)V"⟩
abbrev cJ4_length_8abf5 : ByteArray := prog_31_method_93_code
def yJ4_length_8abf5 : MethodName := ⟨RJ4, "length", "()I"⟩
def RJx7c733 : String := "java/lang/StringIndexOutOfBoundsException"
def TJx7c733 : u_T := fun k => match k with
  | 0 => ("java/lang/Throwable", "backtrace", "Ljava/lang/Object;", false)
  | 1 => ("java/lang/Throwable", "detailMessage", "Ljava/lang/String;", false)
  | 2 => ("java/lang/Throwable", "cause", "Ljava/lang/Throwable;", false)
  | 3 => ("java/lang/Throwable", "stackTrace", "[Ljava/lang/StackTraceElement;", false)
  | 4 => ("java/lang/Throwable", "depth", "I", false)
  | _ => ("java/lang/Throwable", "suppressedExceptions", "Ljava/util/List;", false)
def tyJx7c733 : Nat → FieldType := fun k => match k with
  | 0 => .object "java/lang/Object"
  | 1 => .object "java/lang/String"
  | 2 => .object "java/lang/Throwable"
  | 3 => .array (.object "java/lang/StackTraceElement")
  | 4 => .int
  | _ => .object "java/util/List"
theorem nmJx7c733 : ∀ a, a < 6 → ∀ b, b < 6 → a ≠ b → (TJx7c733 a).2.1 ≠ (TJx7c733 b).2.1 := by decide +kernel
theorem tyJx7c733_ok : ∀ k, k < 6 → parseFieldDescriptor (TJx7c733 k).2.2.1 = some (tyJx7c733 k) := by decide +kernel
abbrev cJx7c733_init_d00df : ByteArray := prog_32_method_3_code
def yJx7c733_init_d00df : MethodName := ⟨RJx7c733, "<init>", "(I)V"⟩
def RJ1 : String := "java/lang/StringLatin1"
def TJ1 : u_T := fun k => match k with
  | _ => ("", "", "", false)
def tyJ1 : Nat → FieldType := fun k => match k with
  | _ => .int
theorem nmJ1 : ∀ a, a < 0 → ∀ b, b < 0 → a ≠ b → (TJ1 a).2.1 ≠ (TJ1 b).2.1 := by decide +kernel
theorem tyJ1_ok : ∀ k, k < 0 → parseFieldDescriptor (TJ1 k).2.2.1 = some (tyJ1 k) := by decide +kernel
abbrev cJ1_charAt_3b067 : ByteArray := prog_33_method_2_code
def yJ1_charAt_3b067 : MethodName := ⟨RJ1, "charAt", "([BI)C"⟩
abbrev cJ1_canEncode_fc78d : ByteArray := prog_33_method_3_code
def yJ1_canEncode_fc78d : MethodName := ⟨RJ1, "canEncode", "(C)Z"⟩
abbrev cJ1_fillNull_b72d1 : ByteArray := prog_33_method_48_code
def yJ1_fillNull_b72d1 : MethodName := ⟨RJ1, "fillNull", "([BII)V"⟩
abbrev cJ1_inflate_0e8fd : ByteArray := prog_33_method_50_code
def yJ1_inflate_0e8fd : MethodName := ⟨RJ1, "inflate", "([BI[BII)V"⟩
def RJ2 : String := "java/lang/StringUTF16"
def TJ2 : u_T := fun k => match k with
  | _ => ("", "", "", false)
def tyJ2 : Nat → FieldType := fun k => match k with
  | _ => .int
theorem nmJ2 : ∀ a, a < 0 → ∀ b, b < 0 → a ≠ b → (TJ2 a).2.1 ≠ (TJ2 b).2.1 := by decide +kernel
theorem tyJ2_ok : ∀ k, k < 0 → parseFieldDescriptor (TJ2 k).2.2.1 = some (tyJ2 k) := by decide +kernel
abbrev cJ2_newBytesFor_77867 : ByteArray := prog_34_method_2_code
def yJ2_newBytesFor_77867 : MethodName := ⟨RJ2, "newBytesFor", "(I)[B"⟩
abbrev cJ2_newBytesLength_0f7a4 : ByteArray := prog_34_method_3_code
def yJ2_newBytesLength_0f7a4 : MethodName := ⟨RJ2, "newBytesLength", "(I)I"⟩
abbrev cJ2_putChar_b72d1 : ByteArray := prog_34_method_4_code
def yJ2_putChar_b72d1 : MethodName := ⟨RJ2, "putChar", "([BII)V"⟩
abbrev cJ2_getChar_3b067 : ByteArray := prog_34_method_5_code
def yJ2_getChar_3b067 : MethodName := ⟨RJ2, "getChar", "([BI)C"⟩
abbrev cJ2_length_9d52b : ByteArray := prog_34_method_6_code
def yJ2_length_9d52b : MethodName := ⟨RJ2, "length", "([B)I"⟩
abbrev cJ2_coderFromArrayLen_85cad : ByteArray := prog_34_method_15_code
def yJ2_coderFromArrayLen_85cad : MethodName := ⟨RJ2, "coderFromArrayLen", "([BI)B"⟩
abbrev cJ2_compress_39247 : ByteArray := prog_34_method_17_code
def yJ2_compress_39247 : MethodName := ⟨RJ2, "compress", "([BII)[B"⟩
abbrev cJ2_compress_5af95 : ByteArray := prog_34_method_22_code
def yJ2_compress_5af95 : MethodName := ⟨RJ2, "compress", "([BI[BII)I"⟩
abbrev cJ2_fillNull_b72d1 : ByteArray := prog_34_method_70_code
def yJ2_fillNull_b72d1 : MethodName := ⟨RJ2, "fillNull", "([BII)V"⟩
abbrev cJ2_putCharSB_b72d1 : ByteArray := prog_34_method_71_code
def yJ2_putCharSB_b72d1 : MethodName := ⟨RJ2, "putCharSB", "([BII)V"⟩
abbrev cJ2_getChars_46870 : ByteArray := prog_34_method_77_code
def yJ2_getChars_46870 : MethodName := ⟨RJ2, "getChars", "(III[B)I"⟩
abbrev cJ2_putCharsAt_cd4e5 : ByteArray := prog_34_method_81_code
def yJ2_putCharsAt_cd4e5 : MethodName := ⟨RJ2, "putCharsAt", "([BICCCC)I"⟩
abbrev cJ2_charAt_3b067 : ByteArray := prog_34_method_83_code
def yJ2_charAt_3b067 : MethodName := ⟨RJ2, "charAt", "([BI)C"⟩
abbrev cJ2_inflate_0e8fd : ByteArray := prog_34_method_86_code
def yJ2_inflate_0e8fd : MethodName := ⟨RJ2, "inflate", "([BI[BII)V"⟩
abbrev cJ2_getChars_ba4f3 : ByteArray := prog_34_method_89_code
def yJ2_getChars_ba4f3 : MethodName := ⟨RJ2, "getChars", "(II[B)I"⟩
abbrev cJ2_checkIndex_2214a : ByteArray := prog_34_method_91_code
def yJ2_checkIndex_2214a : MethodName := ⟨RJ2, "checkIndex", "(I[B)V"⟩
abbrev cJ2_checkBoundsBeginEnd_d044e : ByteArray := prog_34_method_93_code
def yJ2_checkBoundsBeginEnd_d044e : MethodName := ⟨RJ2, "checkBoundsBeginEnd", "(II[B)V"⟩
abbrev cJ2_checkBoundsOffCount_d044e : ByteArray := prog_34_method_94_code
def yJ2_checkBoundsOffCount_d044e : MethodName := ⟨RJ2, "checkBoundsOffCount", "(II[B)V"⟩
def RJ10 : String := "java/lang/System"
def TJ10 : u_T := fun k => match k with
  | _ => ("", "", "", false)
def tyJ10 : Nat → FieldType := fun k => match k with
  | _ => .int
theorem nmJ10 : ∀ a, a < 0 → ∀ b, b < 0 → a ≠ b → (TJ10 a).2.1 ≠ (TJ10 b).2.1 := by decide +kernel
theorem tyJ10_ok : ∀ k, k < 0 → parseFieldDescriptor (TJ10 k).2.2.1 = some (tyJ10 k) := by decide +kernel
def RJxfd54e : String := "java/lang/constant/Constable"
def TJxfd54e : u_T := fun k => match k with
  | _ => ("", "", "", false)
def tyJxfd54e : Nat → FieldType := fun k => match k with
  | _ => .int
theorem nmJxfd54e : ∀ a, a < 0 → ∀ b, b < 0 → a ≠ b → (TJxfd54e a).2.1 ≠ (TJxfd54e b).2.1 := by decide +kernel
theorem tyJxfd54e_ok : ∀ k, k < 0 → parseFieldDescriptor (TJxfd54e k).2.2.1 = some (tyJxfd54e k) := by decide +kernel
def RJx3cf43 : String := "java/lang/constant/ConstantDesc"
def TJx3cf43 : u_T := fun k => match k with
  | _ => ("", "", "", false)
def tyJx3cf43 : Nat → FieldType := fun k => match k with
  | _ => .int
theorem nmJx3cf43 : ∀ a, a < 0 → ∀ b, b < 0 → a ≠ b → (TJx3cf43 a).2.1 ≠ (TJx3cf43 b).2.1 := by decide +kernel
theorem tyJx3cf43_ok : ∀ k, k < 0 → parseFieldDescriptor (TJx3cf43 k).2.2.1 = some (tyJx3cf43 k) := by decide +kernel
def RJ7 : String := "java/util/Arrays"
def TJ7 : u_T := fun k => match k with
  | _ => ("", "", "", false)
def tyJ7 : Nat → FieldType := fun k => match k with
  | _ => .int
theorem nmJ7 : ∀ a, a < 0 → ∀ b, b < 0 → a ≠ b → (TJ7 a).2.1 ≠ (TJ7 b).2.1 := by decide +kernel
theorem tyJ7_ok : ∀ k, k < 0 → parseFieldDescriptor (TJ7 k).2.2.1 = some (tyJ7 k) := by decide +kernel
abbrev cJ7_rangeCheck_23922 : ByteArray := prog_40_method_30_code
def yJ7_rangeCheck_23922 : MethodName := ⟨RJ7, "rangeCheck", "(III)V"⟩
abbrev cJ7_fill_eb02e : ByteArray := prog_40_method_110_code
def yJ7_fill_eb02e : MethodName := ⟨RJ7, "fill", "([BIIB)V"⟩
abbrev cJ7_copyOf_9075b : ByteArray := prog_40_method_121_code
def yJ7_copyOf_9075b : MethodName := ⟨RJ7, "copyOf", "([BI)[B"⟩
abbrev cJ7_checkLength_df160 : ByteArray := prog_40_method_131_code
def yJ7_checkLength_df160 : MethodName := ⟨RJ7, "checkLength", "(II)V"⟩
abbrev cJ7_copyOfRange_39247 : ByteArray := prog_40_method_132_code
def yJ7_copyOfRange_39247 : MethodName := ⟨RJ7, "copyOfRange", "([BII)[B"⟩
abbrev cJ7_copyOfRangeByte_39247 : ByteArray := prog_40_method_133_code
def yJ7_copyOfRangeByte_39247 : MethodName := ⟨RJ7, "copyOfRangeByte", "([BII)[B"⟩
def RJ8 : String := "jdk/internal/util/ArraysSupport"
def TJ8 : u_T := fun k => match k with
  | _ => ("", "", "", false)
def tyJ8 : Nat → FieldType := fun k => match k with
  | _ => .int
theorem nmJ8 : ∀ a, a < 0 → ∀ b, b < 0 → a ≠ b → (TJ8 a).2.1 ≠ (TJ8 b).2.1 := by decide +kernel
theorem tyJ8_ok : ∀ k, k < 0 → parseFieldDescriptor (TJ8 k).2.2.1 = some (tyJ8 k) := by decide +kernel
abbrev cJ8_newLength_cabcc : ByteArray := prog_42_method_27_code
def yJ8_newLength_cabcc : MethodName := ⟨RJ8, "newLength", "(III)I"⟩
abbrev cJ8_hugeLength_7cf53 : ByteArray := prog_42_method_28_code
def yJ8_hugeLength_7cf53 : MethodName := ⟨RJ8, "hugeLength", "(II)I"⟩
def RJ3 : String := "jdk/internal/util/Preconditions"
def TJ3 : u_T := fun k => match k with
  | _ => ("", "", "", false)
def tyJ3 : Nat → FieldType := fun k => match k with
  | _ => .int
theorem nmJ3 : ∀ a, a < 0 → ∀ b, b < 0 → a ≠ b → (TJ3 a).2.1 ≠ (TJ3 b).2.1 := by decide +kernel
theorem tyJ3_ok : ∀ k, k < 0 → parseFieldDescriptor (TJ3 k).2.2.1 = some (tyJ3 k) := by decide +kernel
abbrev cJ3_checkIndex_8e157 : ByteArray := prog_43_method_11_code
def yJ3_checkIndex_8e157 : MethodName := ⟨RJ3, "checkIndex", "(IILjava/util/function/BiFunction;)I"⟩
abbrev cJ3_checkFromToIndex_8c36e : ByteArray := prog_43_method_12_code
def yJ3_checkFromToIndex_8c36e : MethodName := ⟨RJ3, "checkFromToIndex", "(IIILjava/util/function/BiFunction;)I"⟩
abbrev cJ3_checkFromIndexSize_8c36e : ByteArray := prog_43_method_13_code
def yJ3_checkFromIndexSize_8c36e : MethodName := ⟨RJ3, "checkFromIndexSize", "(IIILjava/util/function/BiFunction;)I"⟩
def RL : String := "GoblinHouseholdLaw"
abbrev cL_cell : ByteArray := method_2_code
def yL_cell : MethodName := ⟨RL, "cell", "([II)I"⟩
abbrev cL_pick : ByteArray := method_3_code
def yL_pick : MethodName := ⟨RL, "pick", "([III)I"⟩
abbrev cL_told : ByteArray := method_4_code
def yL_told : MethodName := ⟨RL, "told", "(Z)I"⟩
abbrev cL_plain : ByteArray := method_5_code
def yL_plain : MethodName := ⟨RL, "plain", "(LGoblinHousehold;IIIII)I"⟩
abbrev cL_deed : ByteArray := method_6_code
def yL_deed : MethodName := ⟨RL, "deed", "(LGoblinHousehold;IIIII)I"⟩
abbrev cL_asked : ByteArray := method_7_code
def yL_asked : MethodName := ⟨RL, "asked", "(LGoblinHousehold;III)I"⟩
abbrev cL_ask : ByteArray := method_8_code
def yL_ask : MethodName := ⟨RL, "ask", "(LGoblinHousehold;III)I"⟩
abbrev cL_lay : ByteArray := method_9_code
def yL_lay : MethodName := ⟨RL, "lay", "(LGoblinHousehold;[I)V"⟩
abbrev cL_any : ByteArray := method_10_code
def yL_any : MethodName := ⟨RL, "any", "(LGoblinHousehold;[II)I"⟩
abbrev cL_looks : ByteArray := method_11_code
def yL_looks : MethodName := ⟨RL, "looks", "(LGoblinHousehold;)I"⟩
abbrev cL_areRoomsRight : ByteArray := method_12_code
def yL_areRoomsRight : MethodName := ⟨RL, "areRoomsRight", "(LGoblinHousehold;)Z"⟩
abbrev cL_energy : ByteArray := method_13_code
def yL_energy : MethodName := ⟨RL, "energy", "(LGoblinHousehold;I)I"⟩
abbrev cL_best : ByteArray := method_14_code
def yL_best : MethodName := ⟨RL, "best", "(LGoblinHousehold;III)I"⟩
abbrev cL_areGoblinsRight : ByteArray := method_15_code
def yL_areGoblinsRight : MethodName := ⟨RL, "areGoblinsRight", "(LGoblinHousehold;)Z"⟩
abbrev cL_isLine : ByteArray := method_16_code
def yL_isLine : MethodName := ⟨RL, "isLine", "(LGoblinHousehold;ILjava/lang/String;)Z"⟩
abbrev cL_areContractsRight : ByteArray := method_17_code
def yL_areContractsRight : MethodName := ⟨RL, "areContractsRight", "(LGoblinHousehold;)Z"⟩
abbrev cL_arePredictionsRight : ByteArray := method_18_code
def yL_arePredictionsRight : MethodName := ⟨RL, "arePredictionsRight", "(LGoblinHousehold;I)Z"⟩
abbrev cL_law : ByteArray := code
def yL_law : MethodName := ⟨RL, "law", "([I)Z"⟩
abbrev vwCl : List vw_C := [(RJ0, TJ0, 4), (RJ4, TJ4, 4), (RJx00060, TJx00060, 6), (RJx7c733, TJx7c733, 6), (RX1, TX1, 3), (RX2, TX2, 3), (RX3, TX3, 7), (RX5, TX5, 6), (RX6, TX6, 2), (RX7, TX7, 12), (RX8, TX8, 4), (RX9, TX9, 10)]
