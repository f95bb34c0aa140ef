
/-! ===== BEGIN printed: names, fields, word lists, decode rows ===== -/
def RX0 : String := "VendingRounds$Machine"
def TX0 : u_T := fun k => match k with
  | 0 => ("VendingRounds$Machine", "limit", "I", true)
  | 1 => ("VendingRounds$Machine", "slots", "[LVendingRounds$Slot;", true)
  | 2 => ("VendingRounds$Machine", "coins", "I", false)
  | _ => ("VendingRounds$Machine", "visits", "I", false)
def tyX0 : Nat → FieldType := fun k => match k with
  | 0 => .int
  | 1 => .array (.object "VendingRounds$Slot")
  | 2 => .int
  | _ => .int
abbrev wsX00 : List Cond := u_ws RX0 TX0 4
theorem nmX0 : ∀ a, a < 4 → ∀ b, b < 4 → a ≠ b → (TX0 a).2.1 ≠ (TX0 b).2.1 := by decide +kernel
theorem tyX0_ok : ∀ k, k < 4 → parseFieldDescriptor (TX0 k).2.2.1 = some (tyX0 k) := by decide +kernel
abbrev cX0_init : ByteArray := prog_2_method_1_code
def yX0_init : MethodName := ⟨RX0, "<init>", "(I)V"⟩
abbrev cX0_lacking : ByteArray := prog_2_method_2_code
def yX0_lacking : MethodName := ⟨RX0, "lacking", "()I"⟩
abbrev cX0_gain : ByteArray := prog_2_method_3_code
def yX0_gain : MethodName := ⟨RX0, "gain", "()I"⟩
abbrev cX0_visitTime : ByteArray := prog_2_method_4_code
def yX0_visitTime : MethodName := ⟨RX0, "visitTime", "()I"⟩
abbrev cX0_fact : ByteArray := prog_2_method_5_code
def yX0_fact : MethodName := ⟨RX0, "fact", "(I)I"⟩
abbrev cX0_sellForADay : ByteArray := prog_2_method_6_code
def yX0_sellForADay : MethodName := ⟨RX0, "sellForADay", "()I"⟩
abbrev cX0_sellFrom : ByteArray := prog_2_method_7_code
def yX0_sellFrom : MethodName := ⟨RX0, "sellFrom", "(LVendingRounds$Slot;)I"⟩
abbrev cX0_emptyBox : ByteArray := prog_2_method_8_code
def yX0_emptyBox : MethodName := ⟨RX0, "emptyBox", "()I"⟩
abbrev cX0_fillUp : ByteArray := prog_2_method_9_code
def yX0_fillUp : MethodName := ⟨RX0, "fillUp", "(I)I"⟩
def RX1 : String := "VendingRounds$PriceChange"
def TX1 : u_T := fun k => match k with
  | 0 => ("VendingRounds$PriceChange", "slot", "LVendingRounds$Slot;", true)
  | 1 => ("VendingRounds$PriceChange", "day", "I", true)
  | _ => ("VendingRounds$PriceChange", "price", "I", true)
def tyX1 : Nat → FieldType := fun k => match k with
  | 0 => .object "VendingRounds$Slot"
  | 1 => .int
  | _ => .int
abbrev wsX10 : List Cond := u_ws RX1 TX1 3
theorem nmX1 : ∀ a, a < 3 → ∀ b, b < 3 → a ≠ b → (TX1 a).2.1 ≠ (TX1 b).2.1 := by decide +kernel
theorem tyX1_ok : ∀ k, k < 3 → parseFieldDescriptor (TX1 k).2.2.1 = some (tyX1 k) := by decide +kernel
abbrev cX1_init : ByteArray := prog_3_method_1_code
def yX1_init : MethodName := ⟨RX1, "<init>", "(LVendingRounds$Slot;II)V"⟩
def RX2 : String := "VendingRounds$Roads"
def TX2 : u_T := fun k => match k with
  | 0 => ("VendingRounds$Roads", "minutes", "[I", true)
  | _ => ("VendingRounds$Roads", "homeward", "[I", true)
def tyX2 : Nat → FieldType := fun k => match k with
  | 0 => .array .int
  | _ => .array .int
abbrev wsX20 : List Cond := u_ws RX2 TX2 2
theorem nmX2 : ∀ a, a < 2 → ∀ b, b < 2 → a ≠ b → (TX2 a).2.1 ≠ (TX2 b).2.1 := by decide +kernel
theorem tyX2_ok : ∀ k, k < 2 → parseFieldDescriptor (TX2 k).2.2.1 = some (tyX2 k) := by decide +kernel
abbrev cX2_init : ByteArray := prog_4_method_1_code
def yX2_init : MethodName := ⟨RX2, "<init>", "()V"⟩
abbrev cX2_between : ByteArray := prog_4_method_2_code
def yX2_between : MethodName := ⟨RX2, "between", "(II)I"⟩
abbrev cX2_setBetween : ByteArray := prog_4_method_3_code
def yX2_setBetween : MethodName := ⟨RX2, "setBetween", "(III)V"⟩
abbrev cX2_measureTours : ByteArray := prog_4_method_4_code
def yX2_measureTours : MethodName := ⟨RX2, "measureTours", "(I)V"⟩
abbrev cX2_leastFrom : ByteArray := prog_4_method_5_code
def yX2_leastFrom : MethodName := ⟨RX2, "leastFrom", "(II)I"⟩
abbrev cX2_nextStop : ByteArray := prog_4_method_6_code
def yX2_nextStop : MethodName := ⟨RX2, "nextStop", "(II)I"⟩
abbrev cX2_leastBy : ByteArray := prog_4_method_7_code
def yX2_leastBy : MethodName := ⟨RX2, "leastBy", "(III)I"⟩
def RX3 : String := "VendingRounds$Slot"
def TX3 : u_T := fun k => match k with
  | 0 => ("VendingRounds$Slot", "capacity", "I", false)
  | 1 => ("VendingRounds$Slot", "stock", "I", false)
  | 2 => ("VendingRounds$Slot", "price", "I", false)
  | 3 => ("VendingRounds$Slot", "demand", "I", false)
  | 4 => ("VendingRounds$Slot", "sold", "I", false)
  | _ => ("VendingRounds$Slot", "lost", "I", false)
def tyX3 : Nat → FieldType := fun k => match k with
  | 0 => .int
  | 1 => .int
  | 2 => .int
  | 3 => .int
  | 4 => .int
  | _ => .int
abbrev wsX30 : List Cond := u_ws RX3 TX3 6
theorem nmX3 : ∀ a, a < 6 → ∀ b, b < 6 → a ≠ b → (TX3 a).2.1 ≠ (TX3 b).2.1 := by decide +kernel
theorem tyX3_ok : ∀ k, k < 6 → parseFieldDescriptor (TX3 k).2.2.1 = some (tyX3 k) := by decide +kernel
abbrev cX3_init : ByteArray := prog_5_method_1_code
def yX3_init : MethodName := ⟨RX3, "<init>", "()V"⟩
abbrev cX3_lacking : ByteArray := prog_5_method_2_code
def yX3_lacking : MethodName := ⟨RX3, "lacking", "()I"⟩
abbrev cX3_fact : ByteArray := prog_5_method_3_code
def yX3_fact : MethodName := ⟨RX3, "fact", "(I)I"⟩
def RX4 : String := "VendingRounds"
def TX4 : u_T := fun k => match k with
  | 0 => ("VendingRounds", "machineList", "Ljava/util/ArrayList;", true)
  | 1 => ("VendingRounds", "changes", "Ljava/util/ArrayList;", true)
  | 2 => ("VendingRounds", "roads", "LVendingRounds$Roads;", true)
  | 3 => ("VendingRounds", "visitTimes", "[I", true)
  | 4 => ("VendingRounds", "lacks", "[I", true)
  | 5 => ("VendingRounds", "gains", "[I", true)
  | 6 => ("VendingRounds", "day", "I", false)
  | 7 => ("VendingRounds", "coinsHome", "J", false)
  | 8 => ("VendingRounds", "minutesSpent", "J", false)
  | 9 => ("VendingRounds", "piecesFilled", "J", false)
  | _ => ("VendingRounds", "roundsMade", "J", false)
def tyX4 : Nat → FieldType := fun k => match k with
  | 0 => .object "java/util/ArrayList"
  | 1 => .object "java/util/ArrayList"
  | 2 => .object "VendingRounds$Roads"
  | 3 => .array .int
  | 4 => .array .int
  | 5 => .array .int
  | 6 => .int
  | 7 => .long
  | 8 => .long
  | 9 => .long
  | _ => .long
abbrev wsX40 : List Cond := u_ws RX4 TX4 11
theorem nmX4 : ∀ a, a < 11 → ∀ b, b < 11 → a ≠ b → (TX4 a).2.1 ≠ (TX4 b).2.1 := by decide +kernel
theorem tyX4_ok : ∀ k, k < 11 → parseFieldDescriptor (TX4 k).2.2.1 = some (tyX4 k) := by decide +kernel
abbrev cX4_init : ByteArray := prog_1_method_1_code
def yX4_init : MethodName := ⟨RX4, "<init>", "()V"⟩
abbrev cX4_addMachine : ByteArray := prog_1_method_2_code
def yX4_addMachine : MethodName := ⟨RX4, "addMachine", "(I)I"⟩
abbrev cX4_setMinutes : ByteArray := prog_1_method_3_code
def yX4_setMinutes : MethodName := ⟨RX4, "setMinutes", "(III)I"⟩
abbrev cX4_setSlot : ByteArray := prog_1_method_4_code
def yX4_setSlot : MethodName := ⟨RX4, "setSlot", "(IIII)I"⟩
abbrev cX4_planPrice : ByteArray := prog_1_method_5_code
def yX4_planPrice : MethodName := ⟨RX4, "planPrice", "(IIII)I"⟩
abbrev cX4_machineCount : ByteArray := prog_1_method_6_code
def yX4_machineCount : MethodName := ⟨RX4, "machineCount", "()I"⟩
abbrev cX4_slot : ByteArray := prog_1_method_7_code
def yX4_slot : MethodName := ⟨RX4, "slot", "(III)I"⟩
abbrev cX4_machine : ByteArray := prog_1_method_8_code
def yX4_machine : MethodName := ⟨RX4, "machine", "(II)I"⟩
abbrev cX4_runsOut : ByteArray := prog_1_method_9_code
def yX4_runsOut : MethodName := ⟨RX4, "runsOut", "(II)I"⟩
abbrev cX4_pass : ByteArray := prog_1_method_10_code
def yX4_pass : MethodName := ⟨RX4, "pass", "(I)I"⟩
abbrev cX4_today : ByteArray := prog_1_method_11_code
def yX4_today : MethodName := ⟨RX4, "today", "()I"⟩
abbrev cX4_planned : ByteArray := prog_1_method_12_code
def yX4_planned : MethodName := ⟨RX4, "planned", "()I"⟩
abbrev cX4_drive : ByteArray := prog_1_method_13_code
def yX4_drive : MethodName := ⟨RX4, "drive", "(I)I"⟩
abbrev cX4_visit : ByteArray := prog_1_method_14_code
def yX4_visit : MethodName := ⟨RX4, "visit", "(II)I"⟩
abbrev cX4_minutes : ByteArray := prog_1_method_15_code
def yX4_minutes : MethodName := ⟨RX4, "minutes", "(I)I"⟩
abbrev cX4_best : ByteArray := prog_1_method_16_code
def yX4_best : MethodName := ⟨RX4, "best", "(II)I"⟩
abbrev cX4_go : ByteArray := prog_1_method_17_code
def yX4_go : MethodName := ⟨RX4, "go", "(II)I"⟩
abbrev cX4_total : ByteArray := prog_1_method_18_code
def yX4_total : MethodName := ⟨RX4, "total", "(I)J"⟩
abbrev cX4_filled : ByteArray := prog_1_method_19_code
def yX4_filled : MethodName := ⟨RX4, "filled", "()D"⟩
abbrev cX4_digest : ByteArray := prog_1_method_20_code
def yX4_digest : MethodName := ⟨RX4, "digest", "()J"⟩
abbrev cX4_outside : ByteArray := prog_1_method_21_code
def yX4_outside : MethodName := ⟨RX4, "outside", "(III)Z"⟩
abbrev cX4_contains : ByteArray := prog_1_method_22_code
def yX4_contains : MethodName := ⟨RX4, "contains", "(II)Z"⟩
abbrev cX4_without : ByteArray := prog_1_method_23_code
def yX4_without : MethodName := ⟨RX4, "without", "(II)I"⟩
abbrev cX4_sumOver : ByteArray := prog_1_method_24_code
def yX4_sumOver : MethodName := ⟨RX4, "sumOver", "(I[I)I"⟩
abbrev cX4_mixed : ByteArray := prog_1_method_25_code
def yX4_mixed : MethodName := ⟨RX4, "mixed", "(JJ)J"⟩
abbrev cX4_mixedMachine : ByteArray := prog_1_method_26_code
def yX4_mixedMachine : MethodName := ⟨RX4, "mixedMachine", "(JLVendingRounds$Machine;)J"⟩
abbrev cX4_isNoMachine : ByteArray := prog_1_method_27_code
def yX4_isNoMachine : MethodName := ⟨RX4, "isNoMachine", "(I)Z"⟩
abbrev cX4_isNoPlace : ByteArray := prog_1_method_28_code
def yX4_isNoPlace : MethodName := ⟨RX4, "isNoPlace", "(I)Z"⟩
abbrev cX4_machineAt : ByteArray := prog_1_method_29_code
def yX4_machineAt : MethodName := ⟨RX4, "machineAt", "(I)LVendingRounds$Machine;"⟩
abbrev cX4_slotAt : ByteArray := prog_1_method_30_code
def yX4_slotAt : MethodName := ⟨RX4, "slotAt", "(II)LVendingRounds$Slot;"⟩
abbrev cX4_requireSet : ByteArray := prog_1_method_31_code
def yX4_requireSet : MethodName := ⟨RX4, "requireSet", "(I)V"⟩
abbrev cX4_requireLoad : ByteArray := prog_1_method_32_code
def yX4_requireLoad : MethodName := ⟨RX4, "requireLoad", "(I)V"⟩
abbrev cX4_sellEverywhere : ByteArray := prog_1_method_33_code
def yX4_sellEverywhere : MethodName := ⟨RX4, "sellEverywhere", "()I"⟩
abbrev cX4_changePrices : ByteArray := prog_1_method_34_code
def yX4_changePrices : MethodName := ⟨RX4, "changePrices", "()V"⟩
abbrev cX4_survey : ByteArray := prog_1_method_35_code
def yX4_survey : MethodName := ⟨RX4, "survey", "()V"⟩
abbrev cX4_roundTime : ByteArray := prog_1_method_36_code
def yX4_roundTime : MethodName := ⟨RX4, "roundTime", "(I)I"⟩
abbrev cX4_serve : ByteArray := prog_1_method_37_code
def yX4_serve : MethodName := ⟨RX4, "serve", "(LVendingRounds$Machine;I)I"⟩
def RX5 : String := "VendingRoundsModel"
def TX5 : u_T := fun k => match k with
  | 0 => ("VendingRoundsModel", "thrown", "I", false)
  | 1 => ("VendingRoundsModel", "day", "I", false)
  | 2 => ("VendingRoundsModel", "machines", "I", false)
  | 3 => ("VendingRoundsModel", "limits", "[I", true)
  | 4 => ("VendingRoundsModel", "boxes", "[I", true)
  | 5 => ("VendingRoundsModel", "visits", "[I", true)
  | 6 => ("VendingRoundsModel", "ways", "[I", true)
  | 7 => ("VendingRoundsModel", "rooms", "[I", true)
  | 8 => ("VendingRoundsModel", "stocks", "[I", true)
  | 9 => ("VendingRoundsModel", "prices", "[I", true)
  | 10 => ("VendingRoundsModel", "wants", "[I", true)
  | 11 => ("VendingRoundsModel", "sold", "[I", true)
  | 12 => ("VendingRoundsModel", "lost", "[I", true)
  | 13 => ("VendingRoundsModel", "plans", "I", false)
  | 14 => ("VendingRoundsModel", "planned", "[I", true)
  | 15 => ("VendingRoundsModel", "totals", "[J", true)
  | _ => ("VendingRoundsModel", "rest", "[I", true)
def tyX5 : Nat → FieldType := fun k => match k with
  | 0 => .int
  | 1 => .int
  | 2 => .int
  | 3 => .array .int
  | 4 => .array .int
  | 5 => .array .int
  | 6 => .array .int
  | 7 => .array .int
  | 8 => .array .int
  | 9 => .array .int
  | 10 => .array .int
  | 11 => .array .int
  | 12 => .array .int
  | 13 => .int
  | 14 => .array .int
  | 15 => .array .long
  | _ => .array .int
abbrev wsX50 : List Cond := u_ws RX5 TX5 17
theorem nmX5 : ∀ a, a < 17 → ∀ b, b < 17 → a ≠ b → (TX5 a).2.1 ≠ (TX5 b).2.1 := by decide +kernel
theorem tyX5_ok : ∀ k, k < 17 → parseFieldDescriptor (TX5 k).2.2.1 = some (tyX5 k) := by decide +kernel
abbrev cX5_init : ByteArray := prog_7_method_1_code
def yX5_init : MethodName := ⟨RX5, "<init>", "()V"⟩
abbrev cX5_thrown : ByteArray := prog_7_method_2_code
def yX5_thrown : MethodName := ⟨RX5, "thrown", "()I"⟩
abbrev cX5_fail : ByteArray := prog_7_method_3_code
def yX5_fail : MethodName := ⟨RX5, "fail", "(I)I"⟩
abbrev cX5_isIn : ByteArray := prog_7_method_4_code
def yX5_isIn : MethodName := ⟨RX5, "isIn", "(III)Z"⟩
abbrev cX5_isMachine : ByteArray := prog_7_method_5_code
def yX5_isMachine : MethodName := ⟨RX5, "isMachine", "(I)Z"⟩
abbrev cX5_isSlot : ByteArray := prog_7_method_6_code
def yX5_isSlot : MethodName := ⟨RX5, "isSlot", "(II)Z"⟩
abbrev cX5_areMachines : ByteArray := prog_7_method_7_code
def yX5_areMachines : MethodName := ⟨RX5, "areMachines", "(I)Z"⟩
abbrev cX5_has : ByteArray := prog_7_method_8_code
def yX5_has : MethodName := ⟨RX5, "has", "(II)Z"⟩
abbrev cX5_addMachine : ByteArray := prog_7_method_9_code
def yX5_addMachine : MethodName := ⟨RX5, "addMachine", "(I)I"⟩
abbrev cX5_way : ByteArray := prog_7_method_10_code
def yX5_way : MethodName := ⟨RX5, "way", "(II)I"⟩
abbrev cX5_setMinutes : ByteArray := prog_7_method_11_code
def yX5_setMinutes : MethodName := ⟨RX5, "setMinutes", "(III)I"⟩
abbrev cX5_setSlot : ByteArray := prog_7_method_12_code
def yX5_setSlot : MethodName := ⟨RX5, "setSlot", "(IIII)I"⟩
abbrev cX5_planPrice : ByteArray := prog_7_method_13_code
def yX5_planPrice : MethodName := ⟨RX5, "planPrice", "(IIII)I"⟩
abbrev cX5_machineCount : ByteArray := prog_7_method_14_code
def yX5_machineCount : MethodName := ⟨RX5, "machineCount", "()I"⟩
abbrev cX5_slotOf : ByteArray := prog_7_method_15_code
def yX5_slotOf : MethodName := ⟨RX5, "slotOf", "(II)I"⟩
abbrev cX5_slot : ByteArray := prog_7_method_16_code
def yX5_slot : MethodName := ⟨RX5, "slot", "(III)I"⟩
abbrev cX5_lacks : ByteArray := prog_7_method_17_code
def yX5_lacks : MethodName := ⟨RX5, "lacks", "(I)I"⟩
abbrev cX5_gain : ByteArray := prog_7_method_18_code
def yX5_gain : MethodName := ⟨RX5, "gain", "(I)I"⟩
abbrev cX5_told : ByteArray := prog_7_method_19_code
def yX5_told : MethodName := ⟨RX5, "told", "(II)I"⟩
abbrev cX5_machine : ByteArray := prog_7_method_20_code
def yX5_machine : MethodName := ⟨RX5, "machine", "(II)I"⟩
abbrev cX5_runsOut : ByteArray := prog_7_method_21_code
def yX5_runsOut : MethodName := ⟨RX5, "runsOut", "(II)I"⟩
abbrev cX5_sell : ByteArray := prog_7_method_22_code
def yX5_sell : MethodName := ⟨RX5, "sell", "(I)Z"⟩
abbrev cX5_change : ByteArray := prog_7_method_23_code
def yX5_change : MethodName := ⟨RX5, "change", "()V"⟩
abbrev cX5_pass : ByteArray := prog_7_method_24_code
def yX5_pass : MethodName := ⟨RX5, "pass", "(I)I"⟩
abbrev cX5_today : ByteArray := prog_7_method_25_code
def yX5_today : MethodName := ⟨RX5, "today", "()I"⟩
abbrev cX5_planned : ByteArray := prog_7_method_26_code
def yX5_planned : MethodName := ⟨RX5, "planned", "()I"⟩
abbrev cX5_restOf : ByteArray := prog_7_method_27_code
def yX5_restOf : MethodName := ⟨RX5, "restOf", "(II)I"⟩
abbrev cX5_tabulate : ByteArray := prog_7_method_28_code
def yX5_tabulate : MethodName := ⟨RX5, "tabulate", "(I)V"⟩
abbrev cX5_nextOf : ByteArray := prog_7_method_29_code
def yX5_nextOf : MethodName := ⟨RX5, "nextOf", "(II)I"⟩
abbrev cX5_drive : ByteArray := prog_7_method_30_code
def yX5_drive : MethodName := ⟨RX5, "drive", "(I)I"⟩
abbrev cX5_visit : ByteArray := prog_7_method_31_code
def yX5_visit : MethodName := ⟨RX5, "visit", "(II)I"⟩
abbrev cX5_minutesOf : ByteArray := prog_7_method_32_code
def yX5_minutesOf : MethodName := ⟨RX5, "minutesOf", "(I)I"⟩
abbrev cX5_minutes : ByteArray := prog_7_method_33_code
def yX5_minutes : MethodName := ⟨RX5, "minutes", "(I)I"⟩
abbrev cX5_best : ByteArray := prog_7_method_34_code
def yX5_best : MethodName := ⟨RX5, "best", "(II)I"⟩
abbrev cX5_go : ByteArray := prog_7_method_35_code
def yX5_go : MethodName := ⟨RX5, "go", "(II)I"⟩
abbrev cX5_total : ByteArray := prog_7_method_36_code
def yX5_total : MethodName := ⟨RX5, "total", "(I)J"⟩
abbrev cX5_filled : ByteArray := prog_7_method_37_code
def yX5_filled : MethodName := ⟨RX5, "filled", "()D"⟩
abbrev cX5_digest : ByteArray := prog_7_method_38_code
def yX5_digest : MethodName := ⟨RX5, "digest", "()J"⟩
def RJx145de : String := "java/io/Serializable"
def TJx145de : u_T := fun k => match k with
  | _ => ("", "", "", false)
def tyJx145de : Nat → FieldType := fun k => match k with
  | _ => .int
abbrev wsJx145de0 : List Cond := u_ws RJx145de TJx145de 0
theorem nmJx145de : ∀ a, a < 0 → ∀ b, b < 0 → a ≠ b → (TJx145de a).2.1 ≠ (TJx145de b).2.1 := by decide +kernel
theorem tyJx145de_ok : ∀ k, k < 0 → parseFieldDescriptor (TJx145de k).2.2.1 = some (tyJx145de k) := by decide +kernel
def RJx8e188 : String := "java/lang/Cloneable"
def TJx8e188 : u_T := fun k => match k with
  | _ => ("", "", "", false)
def tyJx8e188 : Nat → FieldType := fun k => match k with
  | _ => .int
abbrev wsJx8e1880 : List Cond := u_ws RJx8e188 TJx8e188 0
theorem nmJx8e188 : ∀ a, a < 0 → ∀ b, b < 0 → a ≠ b → (TJx8e188 a).2.1 ≠ (TJx8e188 b).2.1 := by decide +kernel
theorem tyJx8e188_ok : ∀ k, k < 0 → parseFieldDescriptor (TJx8e188 k).2.2.1 = some (tyJx8e188 k) := by decide +kernel
def RJ6 : String := "java/lang/Integer"
def TJ6 : u_T := fun k => match k with
  | _ => ("", "", "", false)
def tyJ6 : Nat → FieldType := fun k => match k with
  | _ => .int
abbrev wsJ60 : List Cond := u_ws RJ6 TJ6 0
theorem nmJ6 : ∀ a, a < 0 → ∀ b, b < 0 → a ≠ b → (TJ6 a).2.1 ≠ (TJ6 b).2.1 := by decide +kernel
theorem tyJ6_ok : ∀ k, k < 0 → parseFieldDescriptor (TJ6 k).2.2.1 = some (tyJ6 k) := by decide +kernel
abbrev cJ6_bitCount_0f7a4 : ByteArray := prog_14_method_49_code
def yJ6_bitCount_0f7a4 : MethodName := ⟨RJ6, "bitCount", "(I)I"⟩
def RJxab1ab : String := "java/lang/Iterable"
def TJxab1ab : u_T := fun k => match k with
  | _ => ("", "", "", false)
def tyJxab1ab : Nat → FieldType := fun k => match k with
  | _ => .int
abbrev wsJxab1ab0 : List Cond := u_ws RJxab1ab TJxab1ab 0
theorem nmJxab1ab : ∀ a, a < 0 → ∀ b, b < 0 → a ≠ b → (TJxab1ab a).2.1 ≠ (TJxab1ab b).2.1 := by decide +kernel
theorem tyJxab1ab_ok : ∀ k, k < 0 → parseFieldDescriptor (TJxab1ab k).2.2.1 = some (tyJxab1ab k) := by decide +kernel
def RJ9 : String := "java/lang/Math"
def TJ9 : u_T := fun k => match k with
  | _ => ("", "", "", false)
def tyJ9 : Nat → FieldType := fun k => match k with
  | _ => .int
abbrev wsJ90 : List Cond := u_ws RJ9 TJ9 0
theorem nmJ9 : ∀ a, a < 0 → ∀ b, b < 0 → a ≠ b → (TJ9 a).2.1 ≠ (TJ9 b).2.1 := by decide +kernel
theorem tyJ9_ok : ∀ k, k < 0 → parseFieldDescriptor (TJ9 k).2.2.1 = some (tyJ9 k) := by decide +kernel
abbrev cJ9_max_7cf53 : ByteArray := prog_16_method_65_code
def yJ9_max_7cf53 : MethodName := ⟨RJ9, "max", "(II)I"⟩
abbrev cJ9_min_7cf53 : ByteArray := prog_16_method_69_code
def yJ9_min_7cf53 : MethodName := ⟨RJ9, "min", "(II)I"⟩
def RJ0 : String := "java/lang/String"
def TJ0 : u_T := fun k => match k with
  | _ => ("", "", "", false)
def tyJ0 : Nat → FieldType := fun k => match k with
  | _ => .int
abbrev wsJ00 : List Cond := u_ws RJ0 TJ0 0
theorem nmJ0 : ∀ a, a < 0 → ∀ b, b < 0 → a ≠ b → (TJ0 a).2.1 ≠ (TJ0 b).2.1 := by decide +kernel
theorem tyJ0_ok : ∀ k, k < 0 → parseFieldDescriptor (TJ0 k).2.2.1 = some (tyJ0 k) := by decide +kernel
def RJ10 : String := "java/lang/System"
def TJ10 : u_T := fun k => match k with
  | _ => ("", "", "", false)
def tyJ10 : Nat → FieldType := fun k => match k with
  | _ => .int
abbrev wsJ100 : List Cond := u_ws RJ10 TJ10 0
theorem nmJ10 : ∀ a, a < 0 → ∀ b, b < 0 → a ≠ b → (TJ10 a).2.1 ≠ (TJ10 b).2.1 := by decide +kernel
theorem tyJ10_ok : ∀ k, k < 0 → parseFieldDescriptor (TJ10 k).2.2.1 = some (tyJ10 k) := by decide +kernel
def RJxa1e45 : String := "java/util/AbstractCollection"
def TJxa1e45 : u_T := fun k => match k with
  | _ => ("", "", "", false)
def tyJxa1e45 : Nat → FieldType := fun k => match k with
  | _ => .int
abbrev wsJxa1e450 : List Cond := u_ws RJxa1e45 TJxa1e45 0
theorem nmJxa1e45 : ∀ a, a < 0 → ∀ b, b < 0 → a ≠ b → (TJxa1e45 a).2.1 ≠ (TJxa1e45 b).2.1 := by decide +kernel
theorem tyJxa1e45_ok : ∀ k, k < 0 → parseFieldDescriptor (TJxa1e45 k).2.2.1 = some (tyJxa1e45 k) := by decide +kernel
abbrev cJxa1e45_init_da8c8 : ByteArray := prog_21_method_1_code
def yJxa1e45_init_da8c8 : MethodName := ⟨RJxa1e45, "<init>", "()V"⟩
def RJxc12de : String := "java/util/AbstractList"
def TJxc12de : u_T := fun k => match k with
  | _ => ("", "", "", false)
def tyJxc12de : Nat → FieldType := fun k => match k with
  | _ => .int
abbrev wsJxc12de0 : List Cond := u_ws RJxc12de TJxc12de 0
theorem nmJxc12de : ∀ a, a < 0 → ∀ b, b < 0 → a ≠ b → (TJxc12de a).2.1 ≠ (TJxc12de b).2.1 := by decide +kernel
theorem tyJxc12de_ok : ∀ k, k < 0 → parseFieldDescriptor (TJxc12de k).2.2.1 = some (tyJxc12de k) := by decide +kernel
abbrev cJxc12de_init_da8c8 : ByteArray := prog_22_method_1_code
def yJxc12de_init_da8c8 : MethodName := ⟨RJxc12de, "<init>", "()V"⟩
def RJx4a65c : String := "java/util/ArrayList"
def TJx4a65c : u_T := fun k => match k with
  | 0 => ("java/util/AbstractList", "modCount", "I", false)
  | 1 => ("java/util/ArrayList", "elementData", "[Ljava/lang/Object;", false)
  | _ => ("java/util/ArrayList", "size", "I", false)
def tyJx4a65c : Nat → FieldType := fun k => match k with
  | 0 => .int
  | 1 => .array (.object "java/lang/Object")
  | _ => .int
abbrev wsJx4a65c0 : List Cond := u_ws RJx4a65c TJx4a65c 3
theorem nmJx4a65c : ∀ a, a < 3 → ∀ b, b < 3 → a ≠ b → (TJx4a65c a).2.1 ≠ (TJx4a65c b).2.1 := by decide +kernel
theorem tyJx4a65c_ok : ∀ k, k < 3 → parseFieldDescriptor (TJx4a65c k).2.2.1 = some (tyJx4a65c k) := by decide +kernel
abbrev cJx4a65c_init_da8c8 : ByteArray := prog_23_method_2_code
def yJx4a65c_init_da8c8 : MethodName := ⟨RJx4a65c, "<init>", "()V"⟩
abbrev cJx4a65c_grow_92f84 : ByteArray := prog_23_method_6_code
def yJx4a65c_grow_92f84 : MethodName := ⟨RJx4a65c, "grow", "(I)[Ljava/lang/Object;"⟩
abbrev cJx4a65c_grow_d5877 : ByteArray := prog_23_method_7_code
def yJx4a65c_grow_d5877 : MethodName := ⟨RJx4a65c, "grow", "()[Ljava/lang/Object;"⟩
abbrev cJx4a65c_size_8abf5 : ByteArray := prog_23_method_8_code
def yJx4a65c_size_8abf5 : MethodName := ⟨RJx4a65c, "size", "()I"⟩
abbrev cJx4a65c_elementData_915e3 : ByteArray := prog_23_method_18_code
def yJx4a65c_elementData_915e3 : MethodName := ⟨RJx4a65c, "elementData", "(I)Ljava/lang/Object;"⟩
abbrev cJx4a65c_get_915e3 : ByteArray := prog_23_method_20_code
def yJx4a65c_get_915e3 : MethodName := ⟨RJx4a65c, "get", "(I)Ljava/lang/Object;"⟩
abbrev cJx4a65c_add_72be8 : ByteArray := prog_23_method_24_code
def yJx4a65c_add_72be8 : MethodName := ⟨RJx4a65c, "add", "(Ljava/lang/Object;[Ljava/lang/Object;I)V"⟩
abbrev cJx4a65c_add_9ea2d : ByteArray := prog_23_method_25_code
def yJx4a65c_add_9ea2d : MethodName := ⟨RJx4a65c, "add", "(Ljava/lang/Object;)Z"⟩
abbrev cJx4a65c_remove_915e3 : ByteArray := prog_23_method_29_code
def yJx4a65c_remove_915e3 : MethodName := ⟨RJx4a65c, "remove", "(I)Ljava/lang/Object;"⟩
abbrev cJx4a65c_fastRemove_b59b0 : ByteArray := prog_23_method_39_code
def yJx4a65c_fastRemove_b59b0 : MethodName := ⟨RJx4a65c, "fastRemove", "([Ljava/lang/Object;I)V"⟩
def RJ7 : String := "java/util/Arrays"
def TJ7 : u_T := fun k => match k with
  | _ => ("", "", "", false)
def tyJ7 : Nat → FieldType := fun k => match k with
  | _ => .int
abbrev wsJ70 : List Cond := u_ws RJ7 TJ7 0
theorem nmJ7 : ∀ a, a < 0 → ∀ b, b < 0 → a ≠ b → (TJ7 a).2.1 ≠ (TJ7 b).2.1 := by decide +kernel
theorem tyJ7_ok : ∀ k, k < 0 → parseFieldDescriptor (TJ7 k).2.2.1 = some (tyJ7 k) := by decide +kernel
abbrev cJ7_copyOf_1904c : ByteArray := prog_24_method_119_code
def yJ7_copyOf_1904c : MethodName := ⟨RJ7, "copyOf", "([Ljava/lang/Object;I)[Ljava/lang/Object;"⟩
abbrev cJ7_copyOf_6403c : ByteArray := prog_24_method_120_code
def yJ7_copyOf_6403c : MethodName := ⟨RJ7, "copyOf", "([Ljava/lang/Object;ILjava/lang/Class;)[Ljava/lang/Object;"⟩
def RJx5ef63 : String := "java/util/Collection"
def TJx5ef63 : u_T := fun k => match k with
  | _ => ("", "", "", false)
def tyJx5ef63 : Nat → FieldType := fun k => match k with
  | _ => .int
abbrev wsJx5ef630 : List Cond := u_ws RJx5ef63 TJx5ef63 0
theorem nmJx5ef63 : ∀ a, a < 0 → ∀ b, b < 0 → a ≠ b → (TJx5ef63 a).2.1 ≠ (TJx5ef63 b).2.1 := by decide +kernel
theorem tyJx5ef63_ok : ∀ k, k < 0 → parseFieldDescriptor (TJx5ef63 k).2.2.1 = some (tyJx5ef63 k) := by decide +kernel
def RJxbd725 : String := "java/util/List"
def TJxbd725 : u_T := fun k => match k with
  | _ => ("", "", "", false)
def tyJxbd725 : Nat → FieldType := fun k => match k with
  | _ => .int
abbrev wsJxbd7250 : List Cond := u_ws RJxbd725 TJxbd725 0
theorem nmJxbd725 : ∀ a, a < 0 → ∀ b, b < 0 → a ≠ b → (TJxbd725 a).2.1 ≠ (TJxbd725 b).2.1 := by decide +kernel
theorem tyJxbd725_ok : ∀ k, k < 0 → parseFieldDescriptor (TJxbd725 k).2.2.1 = some (tyJxbd725 k) := by decide +kernel
def RJ15 : String := "java/util/Objects"
def TJ15 : u_T := fun k => match k with
  | _ => ("", "", "", false)
def tyJ15 : Nat → FieldType := fun k => match k with
  | _ => .int
abbrev wsJ150 : List Cond := u_ws RJ15 TJ15 0
theorem nmJ15 : ∀ a, a < 0 → ∀ b, b < 0 → a ≠ b → (TJ15 a).2.1 ≠ (TJ15 b).2.1 := by decide +kernel
theorem tyJ15_ok : ∀ k, k < 0 → parseFieldDescriptor (TJ15 k).2.2.1 = some (tyJ15 k) := by decide +kernel
abbrev cJ15_checkIndex_7cf53 : ByteArray := prog_27_method_17_code
def yJ15_checkIndex_7cf53 : MethodName := ⟨RJ15, "checkIndex", "(II)I"⟩
def RJxf0a74 : String := "java/util/RandomAccess"
def TJxf0a74 : u_T := fun k => match k with
  | _ => ("", "", "", false)
def tyJxf0a74 : Nat → FieldType := fun k => match k with
  | _ => .int
abbrev wsJxf0a740 : List Cond := u_ws RJxf0a74 TJxf0a74 0
theorem nmJxf0a74 : ∀ a, a < 0 → ∀ b, b < 0 → a ≠ b → (TJxf0a74 a).2.1 ≠ (TJxf0a74 b).2.1 := by decide +kernel
theorem tyJxf0a74_ok : ∀ k, k < 0 → parseFieldDescriptor (TJxf0a74 k).2.2.1 = some (tyJxf0a74 k) := by decide +kernel
def RJxa66e6 : String := "java/util/SequencedCollection"
def TJxa66e6 : u_T := fun k => match k with
  | _ => ("", "", "", false)
def tyJxa66e6 : Nat → FieldType := fun k => match k with
  | _ => .int
abbrev wsJxa66e60 : List Cond := u_ws RJxa66e6 TJxa66e6 0
theorem nmJxa66e6 : ∀ a, a < 0 → ∀ b, b < 0 → a ≠ b → (TJxa66e6 a).2.1 ≠ (TJxa66e6 b).2.1 := by decide +kernel
theorem tyJxa66e6_ok : ∀ k, k < 0 → parseFieldDescriptor (TJxa66e6 k).2.2.1 = some (tyJxa66e6 k) := by decide +kernel
def RJ8 : String := "jdk/internal/util/ArraysSupport"
def TJ8 : u_T := fun k => match k with
  | _ => ("", "", "", false)
def tyJ8 : Nat → FieldType := fun k => match k with
  | _ => .int
abbrev wsJ80 : List Cond := u_ws RJ8 TJ8 0
theorem nmJ8 : ∀ a, a < 0 → ∀ b, b < 0 → a ≠ b → (TJ8 a).2.1 ≠ (TJ8 b).2.1 := by decide +kernel
theorem tyJ8_ok : ∀ k, k < 0 → parseFieldDescriptor (TJ8 k).2.2.1 = some (tyJ8 k) := by decide +kernel
abbrev cJ8_newLength_cabcc : ByteArray := prog_30_method_27_code
def yJ8_newLength_cabcc : MethodName := ⟨RJ8, "newLength", "(III)I"⟩
abbrev cJ8_hugeLength_7cf53 : ByteArray := prog_30_method_28_code
def yJ8_hugeLength_7cf53 : MethodName := ⟨RJ8, "hugeLength", "(II)I"⟩
def RJ3 : String := "jdk/internal/util/Preconditions"
def TJ3 : u_T := fun k => match k with
  | _ => ("", "", "", false)
def tyJ3 : Nat → FieldType := fun k => match k with
  | _ => .int
abbrev wsJ30 : List Cond := u_ws RJ3 TJ3 0
theorem nmJ3 : ∀ a, a < 0 → ∀ b, b < 0 → a ≠ b → (TJ3 a).2.1 ≠ (TJ3 b).2.1 := by decide +kernel
theorem tyJ3_ok : ∀ k, k < 0 → parseFieldDescriptor (TJ3 k).2.2.1 = some (tyJ3 k) := by decide +kernel
abbrev cJ3_checkIndex_8e157 : ByteArray := prog_31_method_11_code
def yJ3_checkIndex_8e157 : MethodName := ⟨RJ3, "checkIndex", "(IILjava/util/function/BiFunction;)I"⟩
def RL : String := "VendingRoundsLaw"
abbrev cL_addMachine : ByteArray := method_3_code
def yL_addMachine : MethodName := ⟨RL, "addMachine", "(LVendingRounds;I[J)I"⟩
abbrev cL_setMinutes : ByteArray := method_4_code
def yL_setMinutes : MethodName := ⟨RL, "setMinutes", "(LVendingRounds;III[J)I"⟩
abbrev cL_setSlot : ByteArray := method_5_code
def yL_setSlot : MethodName := ⟨RL, "setSlot", "(LVendingRounds;IIII[J)I"⟩
abbrev cL_planPrice : ByteArray := method_6_code
def yL_planPrice : MethodName := ⟨RL, "planPrice", "(LVendingRounds;IIII[J)I"⟩
abbrev cL_slot : ByteArray := method_7_code
def yL_slot : MethodName := ⟨RL, "slot", "(LVendingRounds;III[J)I"⟩
abbrev cL_machine : ByteArray := method_8_code
def yL_machine : MethodName := ⟨RL, "machine", "(LVendingRounds;II[J)I"⟩
abbrev cL_runsOut : ByteArray := method_9_code
def yL_runsOut : MethodName := ⟨RL, "runsOut", "(LVendingRounds;II[J)I"⟩
abbrev cL_pass : ByteArray := method_10_code
def yL_pass : MethodName := ⟨RL, "pass", "(LVendingRounds;I[J)I"⟩
abbrev cL_drive : ByteArray := method_11_code
def yL_drive : MethodName := ⟨RL, "drive", "(LVendingRounds;I[J)I"⟩
abbrev cL_visit : ByteArray := method_12_code
def yL_visit : MethodName := ⟨RL, "visit", "(LVendingRounds;II[J)I"⟩
abbrev cL_minutes : ByteArray := method_13_code
def yL_minutes : MethodName := ⟨RL, "minutes", "(LVendingRounds;I[J)I"⟩
abbrev cL_best : ByteArray := method_14_code
def yL_best : MethodName := ⟨RL, "best", "(LVendingRounds;II[J)I"⟩
abbrev cL_go : ByteArray := method_15_code
def yL_go : MethodName := ⟨RL, "go", "(LVendingRounds;II[J)I"⟩
abbrev cL_total : ByteArray := method_16_code
def yL_total : MethodName := ⟨RL, "total", "(LVendingRounds;I[J)I"⟩
abbrev cL_law : ByteArray := code
def yL_law : MethodName := ⟨RL, "law", "([I)Z"⟩
theorem dX0_init_0 : decode cX0_init 0 = .ok (.aload_n 0, 1) := by decide +kernel
theorem dX0_init_1 : decode cX0_init 1 = .ok (.invokespecial 3, 3) := by decide +kernel
theorem dX0_init_4 : decode cX0_init 4 = .ok (.aload_n 0, 1) := by decide +kernel
theorem dX0_init_5 : decode cX0_init 5 = .ok (.bipush 6, 2) := by decide +kernel
theorem dX0_init_7 : decode cX0_init 7 = .ok (.anewarray 9, 3) := by decide +kernel
theorem dX0_init_10 : decode cX0_init 10 = .ok (.putfield 11, 3) := by decide +kernel
theorem dX0_init_13 : decode cX0_init 13 = .ok (.aload_n 0, 1) := by decide +kernel
theorem dX0_init_14 : decode cX0_init 14 = .ok (.iload_n 1, 1) := by decide +kernel
theorem dX0_init_15 : decode cX0_init 15 = .ok (.putfield 17, 3) := by decide +kernel
theorem dX0_init_18 : decode cX0_init 18 = .ok (.iconst 0, 1) := by decide +kernel
theorem dX0_init_19 : decode cX0_init 19 = .ok (.istore_n 2, 1) := by decide +kernel
theorem dX0_init_20 : decode cX0_init 20 = .ok (.iload_n 2, 1) := by decide +kernel
theorem dX0_init_21 : decode cX0_init 21 = .ok (.bipush 6, 2) := by decide +kernel
theorem dX0_init_23 : decode cX0_init 23 = .ok (.if_icmp .ge 22, 3) := by decide +kernel
theorem dX0_init_26 : decode cX0_init 26 = .ok (.aload_n 0, 1) := by decide +kernel
theorem dX0_init_27 : decode cX0_init 27 = .ok (.getfield 11, 3) := by decide +kernel
theorem dX0_init_30 : decode cX0_init 30 = .ok (.iload_n 2, 1) := by decide +kernel
theorem dX0_init_31 : decode cX0_init 31 = .ok (.new 9, 3) := by decide +kernel
theorem dX0_init_34 : decode cX0_init 34 = .ok (.dup, 1) := by decide +kernel
theorem dX0_init_35 : decode cX0_init 35 = .ok (.invokespecial 21, 3) := by decide +kernel
theorem dX0_init_38 : decode cX0_init 38 = .ok (.aastore, 1) := by decide +kernel
theorem dX0_init_39 : decode cX0_init 39 = .ok (.iinc 2 1, 3) := by decide +kernel
theorem dX0_init_42 : decode cX0_init 42 = .ok (.goto (-22), 3) := by decide +kernel
theorem dX0_init_45 : decode cX0_init 45 = .ok (.return_, 1) := by decide +kernel
theorem dX0_lacking_0 : decode cX0_lacking 0 = .ok (.iconst 0, 1) := by decide +kernel
theorem dX0_lacking_1 : decode cX0_lacking 1 = .ok (.istore_n 1, 1) := by decide +kernel
theorem dX0_lacking_2 : decode cX0_lacking 2 = .ok (.iconst 0, 1) := by decide +kernel
theorem dX0_lacking_3 : decode cX0_lacking 3 = .ok (.istore_n 2, 1) := by decide +kernel
theorem dX0_lacking_4 : decode cX0_lacking 4 = .ok (.iload_n 2, 1) := by decide +kernel
theorem dX0_lacking_5 : decode cX0_lacking 5 = .ok (.bipush 6, 2) := by decide +kernel
theorem dX0_lacking_7 : decode cX0_lacking 7 = .ok (.if_icmp .ge 21, 3) := by decide +kernel
theorem dX0_lacking_10 : decode cX0_lacking 10 = .ok (.iload_n 1, 1) := by decide +kernel
theorem dX0_lacking_11 : decode cX0_lacking 11 = .ok (.aload_n 0, 1) := by decide +kernel
theorem dX0_lacking_12 : decode cX0_lacking 12 = .ok (.getfield 11, 3) := by decide +kernel
theorem dX0_lacking_15 : decode cX0_lacking 15 = .ok (.iload_n 2, 1) := by decide +kernel
theorem dX0_lacking_16 : decode cX0_lacking 16 = .ok (.aaload, 1) := by decide +kernel
theorem dX0_lacking_17 : decode cX0_lacking 17 = .ok (.invokevirtual 22, 3) := by decide +kernel
theorem dX0_lacking_20 : decode cX0_lacking 20 = .ok (.iadd, 1) := by decide +kernel
theorem dX0_lacking_21 : decode cX0_lacking 21 = .ok (.istore_n 1, 1) := by decide +kernel
theorem dX0_lacking_22 : decode cX0_lacking 22 = .ok (.iinc 2 1, 3) := by decide +kernel
theorem dX0_lacking_25 : decode cX0_lacking 25 = .ok (.goto (-21), 3) := by decide +kernel
theorem dX0_lacking_28 : decode cX0_lacking 28 = .ok (.iload_n 1, 1) := by decide +kernel
theorem dX0_lacking_29 : decode cX0_lacking 29 = .ok (.ireturn, 1) := by decide +kernel
theorem dX0_gain_0 : decode cX0_gain 0 = .ok (.aload_n 0, 1) := by decide +kernel
theorem dX0_gain_1 : decode cX0_gain 1 = .ok (.getfield 26, 3) := by decide +kernel
theorem dX0_gain_4 : decode cX0_gain 4 = .ok (.istore_n 1, 1) := by decide +kernel
theorem dX0_gain_5 : decode cX0_gain 5 = .ok (.iconst 0, 1) := by decide +kernel
theorem dX0_gain_6 : decode cX0_gain 6 = .ok (.istore_n 2, 1) := by decide +kernel
theorem dX0_gain_7 : decode cX0_gain 7 = .ok (.iload_n 2, 1) := by decide +kernel
theorem dX0_gain_8 : decode cX0_gain 8 = .ok (.bipush 6, 2) := by decide +kernel
theorem dX0_gain_10 : decode cX0_gain 10 = .ok (.if_icmp .ge 31, 3) := by decide +kernel
theorem dX0_gain_13 : decode cX0_gain 13 = .ok (.iload_n 1, 1) := by decide +kernel
theorem dX0_gain_14 : decode cX0_gain 14 = .ok (.aload_n 0, 1) := by decide +kernel
theorem dX0_gain_15 : decode cX0_gain 15 = .ok (.getfield 11, 3) := by decide +kernel
theorem dX0_gain_18 : decode cX0_gain 18 = .ok (.iload_n 2, 1) := by decide +kernel
theorem dX0_gain_19 : decode cX0_gain 19 = .ok (.aaload, 1) := by decide +kernel
theorem dX0_gain_20 : decode cX0_gain 20 = .ok (.getfield 29, 3) := by decide +kernel
theorem dX0_gain_23 : decode cX0_gain 23 = .ok (.aload_n 0, 1) := by decide +kernel
theorem dX0_gain_24 : decode cX0_gain 24 = .ok (.getfield 11, 3) := by decide +kernel
theorem dX0_gain_27 : decode cX0_gain 27 = .ok (.iload_n 2, 1) := by decide +kernel
theorem dX0_gain_28 : decode cX0_gain 28 = .ok (.aaload, 1) := by decide +kernel
theorem dX0_gain_29 : decode cX0_gain 29 = .ok (.invokevirtual 22, 3) := by decide +kernel
theorem dX0_gain_32 : decode cX0_gain 32 = .ok (.imul, 1) := by decide +kernel
theorem dX0_gain_33 : decode cX0_gain 33 = .ok (.iadd, 1) := by decide +kernel
theorem dX0_gain_34 : decode cX0_gain 34 = .ok (.istore_n 1, 1) := by decide +kernel
theorem dX0_gain_35 : decode cX0_gain 35 = .ok (.iinc 2 1, 3) := by decide +kernel
theorem dX0_gain_38 : decode cX0_gain 38 = .ok (.goto (-31), 3) := by decide +kernel
theorem dX0_gain_41 : decode cX0_gain 41 = .ok (.iload_n 1, 1) := by decide +kernel
theorem dX0_gain_42 : decode cX0_gain 42 = .ok (.ireturn, 1) := by decide +kernel
theorem dX0_visitTime_0 : decode cX0_visitTime 0 = .ok (.iconst 3, 1) := by decide +kernel
theorem dX0_visitTime_1 : decode cX0_visitTime 1 = .ok (.aload_n 0, 1) := by decide +kernel
theorem dX0_visitTime_2 : decode cX0_visitTime 2 = .ok (.invokevirtual 32, 3) := by decide +kernel
theorem dX0_visitTime_5 : decode cX0_visitTime 5 = .ok (.iconst 4, 1) := by decide +kernel
theorem dX0_visitTime_6 : decode cX0_visitTime 6 = .ok (.iadd, 1) := by decide +kernel
theorem dX0_visitTime_7 : decode cX0_visitTime 7 = .ok (.iconst 5, 1) := by decide +kernel
theorem dX0_visitTime_8 : decode cX0_visitTime 8 = .ok (.idiv, 1) := by decide +kernel
theorem dX0_visitTime_9 : decode cX0_visitTime 9 = .ok (.iadd, 1) := by decide +kernel
theorem dX0_visitTime_10 : decode cX0_visitTime 10 = .ok (.ireturn, 1) := by decide +kernel
theorem dX0_fact_0 : decode cX0_fact 0 = .ok (.iload_n 1, 1) := by decide +kernel
theorem dX0_fact_1 : decode cX0_fact 1 = .ok (.tableswitch 51 0 3 #[31, 36, 41, 46], 31) := by decide +kernel
theorem dX0_fact_32 : decode cX0_fact 32 = .ok (.aload_n 0, 1) := by decide +kernel
theorem dX0_fact_33 : decode cX0_fact 33 = .ok (.getfield 26, 3) := by decide +kernel
theorem dX0_fact_36 : decode cX0_fact 36 = .ok (.ireturn, 1) := by decide +kernel
theorem dX0_fact_37 : decode cX0_fact 37 = .ok (.aload_n 0, 1) := by decide +kernel
theorem dX0_fact_38 : decode cX0_fact 38 = .ok (.getfield 17, 3) := by decide +kernel
theorem dX0_fact_41 : decode cX0_fact 41 = .ok (.ireturn, 1) := by decide +kernel
theorem dX0_fact_42 : decode cX0_fact 42 = .ok (.aload_n 0, 1) := by decide +kernel
theorem dX0_fact_43 : decode cX0_fact 43 = .ok (.invokevirtual 32, 3) := by decide +kernel
theorem dX0_fact_46 : decode cX0_fact 46 = .ok (.ireturn, 1) := by decide +kernel
theorem dX0_fact_47 : decode cX0_fact 47 = .ok (.aload_n 0, 1) := by decide +kernel
theorem dX0_fact_48 : decode cX0_fact 48 = .ok (.invokevirtual 33, 3) := by decide +kernel
theorem dX0_fact_51 : decode cX0_fact 51 = .ok (.ireturn, 1) := by decide +kernel
theorem dX0_fact_52 : decode cX0_fact 52 = .ok (.aload_n 0, 1) := by decide +kernel
theorem dX0_fact_53 : decode cX0_fact 53 = .ok (.getfield 36, 3) := by decide +kernel
theorem dX0_fact_56 : decode cX0_fact 56 = .ok (.ireturn, 1) := by decide +kernel
theorem dX0_sellForADay_0 : decode cX0_sellForADay 0 = .ok (.iconst 0, 1) := by decide +kernel
theorem dX0_sellForADay_1 : decode cX0_sellForADay 1 = .ok (.istore_n 1, 1) := by decide +kernel
theorem dX0_sellForADay_2 : decode cX0_sellForADay 2 = .ok (.iconst 0, 1) := by decide +kernel
theorem dX0_sellForADay_3 : decode cX0_sellForADay 3 = .ok (.istore_n 2, 1) := by decide +kernel
theorem dX0_sellForADay_4 : decode cX0_sellForADay 4 = .ok (.iload_n 2, 1) := by decide +kernel
theorem dX0_sellForADay_5 : decode cX0_sellForADay 5 = .ok (.bipush 6, 2) := by decide +kernel
theorem dX0_sellForADay_7 : decode cX0_sellForADay 7 = .ok (.if_icmp .ge 22, 3) := by decide +kernel
theorem dX0_sellForADay_10 : decode cX0_sellForADay 10 = .ok (.iload_n 1, 1) := by decide +kernel
theorem dX0_sellForADay_11 : decode cX0_sellForADay 11 = .ok (.aload_n 0, 1) := by decide +kernel
theorem dX0_sellForADay_12 : decode cX0_sellForADay 12 = .ok (.aload_n 0, 1) := by decide +kernel
theorem dX0_sellForADay_13 : decode cX0_sellForADay 13 = .ok (.getfield 11, 3) := by decide +kernel
theorem dX0_sellForADay_16 : decode cX0_sellForADay 16 = .ok (.iload_n 2, 1) := by decide +kernel
theorem dX0_sellForADay_17 : decode cX0_sellForADay 17 = .ok (.aaload, 1) := by decide +kernel
theorem dX0_sellForADay_18 : decode cX0_sellForADay 18 = .ok (.invokevirtual 39, 3) := by decide +kernel
theorem dX0_sellForADay_21 : decode cX0_sellForADay 21 = .ok (.iadd, 1) := by decide +kernel
theorem dX0_sellForADay_22 : decode cX0_sellForADay 22 = .ok (.istore_n 1, 1) := by decide +kernel
theorem dX0_sellForADay_23 : decode cX0_sellForADay 23 = .ok (.iinc 2 1, 3) := by decide +kernel
theorem dX0_sellForADay_26 : decode cX0_sellForADay 26 = .ok (.goto (-22), 3) := by decide +kernel
theorem dX0_sellForADay_29 : decode cX0_sellForADay 29 = .ok (.iload_n 1, 1) := by decide +kernel
theorem dX0_sellForADay_30 : decode cX0_sellForADay 30 = .ok (.ireturn, 1) := by decide +kernel
theorem dX0_sellFrom_0 : decode cX0_sellFrom 0 = .ok (.iconst 0, 1) := by decide +kernel
theorem dX0_sellFrom_1 : decode cX0_sellFrom 1 = .ok (.istore_n 2, 1) := by decide +kernel
theorem dX0_sellFrom_2 : decode cX0_sellFrom 2 = .ok (.iconst 0, 1) := by decide +kernel
theorem dX0_sellFrom_3 : decode cX0_sellFrom 3 = .ok (.istore_n 3, 1) := by decide +kernel
theorem dX0_sellFrom_4 : decode cX0_sellFrom 4 = .ok (.iload_n 3, 1) := by decide +kernel
theorem dX0_sellFrom_5 : decode cX0_sellFrom 5 = .ok (.aload_n 1, 1) := by decide +kernel
theorem dX0_sellFrom_6 : decode cX0_sellFrom 6 = .ok (.getfield 43, 3) := by decide +kernel
theorem dX0_sellFrom_9 : decode cX0_sellFrom 9 = .ok (.if_icmp .ge 58, 3) := by decide +kernel
theorem dX0_sellFrom_12 : decode cX0_sellFrom 12 = .ok (.aload_n 1, 1) := by decide +kernel
theorem dX0_sellFrom_13 : decode cX0_sellFrom 13 = .ok (.getfield 46, 3) := by decide +kernel
theorem dX0_sellFrom_16 : decode cX0_sellFrom 16 = .ok (.ifCond .le 45, 3) := by decide +kernel
theorem dX0_sellFrom_19 : decode cX0_sellFrom 19 = .ok (.aload_n 0, 1) := by decide +kernel
theorem dX0_sellFrom_20 : decode cX0_sellFrom 20 = .ok (.getfield 26, 3) := by decide +kernel
theorem dX0_sellFrom_23 : decode cX0_sellFrom 23 = .ok (.aload_n 1, 1) := by decide +kernel
theorem dX0_sellFrom_24 : decode cX0_sellFrom 24 = .ok (.getfield 29, 3) := by decide +kernel
theorem dX0_sellFrom_27 : decode cX0_sellFrom 27 = .ok (.iadd, 1) := by decide +kernel
theorem dX0_sellFrom_28 : decode cX0_sellFrom 28 = .ok (.aload_n 0, 1) := by decide +kernel
theorem dX0_sellFrom_29 : decode cX0_sellFrom 29 = .ok (.getfield 17, 3) := by decide +kernel
theorem dX0_sellFrom_32 : decode cX0_sellFrom 32 = .ok (.if_icmp .gt 29, 3) := by decide +kernel
theorem dX0_sellFrom_35 : decode cX0_sellFrom 35 = .ok (.aload_n 1, 1) := by decide +kernel
theorem dX0_sellFrom_36 : decode cX0_sellFrom 36 = .ok (.dup, 1) := by decide +kernel
theorem dX0_sellFrom_37 : decode cX0_sellFrom 37 = .ok (.getfield 46, 3) := by decide +kernel
theorem dX0_sellFrom_40 : decode cX0_sellFrom 40 = .ok (.iconst 1, 1) := by decide +kernel
theorem dX0_sellFrom_41 : decode cX0_sellFrom 41 = .ok (.isub, 1) := by decide +kernel
theorem dX0_sellFrom_42 : decode cX0_sellFrom 42 = .ok (.putfield 46, 3) := by decide +kernel
theorem dX0_sellFrom_45 : decode cX0_sellFrom 45 = .ok (.aload_n 0, 1) := by decide +kernel
theorem dX0_sellFrom_46 : decode cX0_sellFrom 46 = .ok (.dup, 1) := by decide +kernel
theorem dX0_sellFrom_47 : decode cX0_sellFrom 47 = .ok (.getfield 26, 3) := by decide +kernel
theorem dX0_sellFrom_50 : decode cX0_sellFrom 50 = .ok (.aload_n 1, 1) := by decide +kernel
theorem dX0_sellFrom_51 : decode cX0_sellFrom 51 = .ok (.getfield 29, 3) := by decide +kernel
theorem dX0_sellFrom_54 : decode cX0_sellFrom 54 = .ok (.iadd, 1) := by decide +kernel
theorem dX0_sellFrom_55 : decode cX0_sellFrom 55 = .ok (.putfield 26, 3) := by decide +kernel
theorem dX0_sellFrom_58 : decode cX0_sellFrom 58 = .ok (.iinc 2 1, 3) := by decide +kernel
theorem dX0_sellFrom_61 : decode cX0_sellFrom 61 = .ok (.iinc 3 1, 3) := by decide +kernel
theorem dX0_sellFrom_64 : decode cX0_sellFrom 64 = .ok (.goto (-60), 3) := by decide +kernel
theorem dX0_sellFrom_67 : decode cX0_sellFrom 67 = .ok (.aload_n 1, 1) := by decide +kernel
theorem dX0_sellFrom_68 : decode cX0_sellFrom 68 = .ok (.dup, 1) := by decide +kernel
theorem dX0_sellFrom_69 : decode cX0_sellFrom 69 = .ok (.getfield 49, 3) := by decide +kernel
theorem dX0_sellFrom_72 : decode cX0_sellFrom 72 = .ok (.iload_n 2, 1) := by decide +kernel
theorem dX0_sellFrom_73 : decode cX0_sellFrom 73 = .ok (.iadd, 1) := by decide +kernel
theorem dX0_sellFrom_74 : decode cX0_sellFrom 74 = .ok (.putfield 49, 3) := by decide +kernel
theorem dX0_sellFrom_77 : decode cX0_sellFrom 77 = .ok (.aload_n 1, 1) := by decide +kernel
theorem dX0_sellFrom_78 : decode cX0_sellFrom 78 = .ok (.dup, 1) := by decide +kernel
theorem dX0_sellFrom_79 : decode cX0_sellFrom 79 = .ok (.getfield 52, 3) := by decide +kernel
theorem dX0_sellFrom_82 : decode cX0_sellFrom 82 = .ok (.aload_n 1, 1) := by decide +kernel
theorem dX0_sellFrom_83 : decode cX0_sellFrom 83 = .ok (.getfield 43, 3) := by decide +kernel
theorem dX0_sellFrom_86 : decode cX0_sellFrom 86 = .ok (.iload_n 2, 1) := by decide +kernel
theorem dX0_sellFrom_87 : decode cX0_sellFrom 87 = .ok (.isub, 1) := by decide +kernel
theorem dX0_sellFrom_88 : decode cX0_sellFrom 88 = .ok (.iadd, 1) := by decide +kernel
theorem dX0_sellFrom_89 : decode cX0_sellFrom 89 = .ok (.putfield 52, 3) := by decide +kernel
theorem dX0_sellFrom_92 : decode cX0_sellFrom 92 = .ok (.iload_n 2, 1) := by decide +kernel
theorem dX0_sellFrom_93 : decode cX0_sellFrom 93 = .ok (.ireturn, 1) := by decide +kernel
theorem dX0_emptyBox_0 : decode cX0_emptyBox 0 = .ok (.aload_n 0, 1) := by decide +kernel
theorem dX0_emptyBox_1 : decode cX0_emptyBox 1 = .ok (.getfield 26, 3) := by decide +kernel
theorem dX0_emptyBox_4 : decode cX0_emptyBox 4 = .ok (.istore_n 1, 1) := by decide +kernel
theorem dX0_emptyBox_5 : decode cX0_emptyBox 5 = .ok (.aload_n 0, 1) := by decide +kernel
theorem dX0_emptyBox_6 : decode cX0_emptyBox 6 = .ok (.iconst 0, 1) := by decide +kernel
theorem dX0_emptyBox_7 : decode cX0_emptyBox 7 = .ok (.putfield 26, 3) := by decide +kernel
theorem dX0_emptyBox_10 : decode cX0_emptyBox 10 = .ok (.iload_n 1, 1) := by decide +kernel
theorem dX0_emptyBox_11 : decode cX0_emptyBox 11 = .ok (.ireturn, 1) := by decide +kernel
theorem dX0_fillUp_0 : decode cX0_fillUp 0 = .ok (.iload_n 1, 1) := by decide +kernel
theorem dX0_fillUp_1 : decode cX0_fillUp 1 = .ok (.istore_n 2, 1) := by decide +kernel
theorem dX0_fillUp_2 : decode cX0_fillUp 2 = .ok (.iconst 0, 1) := by decide +kernel
theorem dX0_fillUp_3 : decode cX0_fillUp 3 = .ok (.istore_n 3, 1) := by decide +kernel
theorem dX0_fillUp_4 : decode cX0_fillUp 4 = .ok (.iload_n 3, 1) := by decide +kernel
theorem dX0_fillUp_5 : decode cX0_fillUp 5 = .ok (.bipush 6, 2) := by decide +kernel
theorem dX0_fillUp_7 : decode cX0_fillUp 7 = .ok (.if_icmp .ge 45, 3) := by decide +kernel
theorem dX0_fillUp_10 : decode cX0_fillUp 10 = .ok (.iload_n 2, 1) := by decide +kernel
theorem dX0_fillUp_11 : decode cX0_fillUp 11 = .ok (.aload_n 0, 1) := by decide +kernel
theorem dX0_fillUp_12 : decode cX0_fillUp 12 = .ok (.getfield 11, 3) := by decide +kernel
theorem dX0_fillUp_15 : decode cX0_fillUp 15 = .ok (.iload_n 3, 1) := by decide +kernel
theorem dX0_fillUp_16 : decode cX0_fillUp 16 = .ok (.aaload, 1) := by decide +kernel
theorem dX0_fillUp_17 : decode cX0_fillUp 17 = .ok (.invokevirtual 22, 3) := by decide +kernel
theorem dX0_fillUp_20 : decode cX0_fillUp 20 = .ok (.invokestatic 55, 3) := by decide +kernel
theorem dX0_fillUp_23 : decode cX0_fillUp 23 = .ok (.istore 4, 2) := by decide +kernel
theorem dX0_fillUp_25 : decode cX0_fillUp 25 = .ok (.aload_n 0, 1) := by decide +kernel
theorem dX0_fillUp_26 : decode cX0_fillUp 26 = .ok (.getfield 11, 3) := by decide +kernel
theorem dX0_fillUp_29 : decode cX0_fillUp 29 = .ok (.iload_n 3, 1) := by decide +kernel
theorem dX0_fillUp_30 : decode cX0_fillUp 30 = .ok (.aaload, 1) := by decide +kernel
theorem dX0_fillUp_31 : decode cX0_fillUp 31 = .ok (.dup, 1) := by decide +kernel
theorem dX0_fillUp_32 : decode cX0_fillUp 32 = .ok (.getfield 46, 3) := by decide +kernel
theorem dX0_fillUp_35 : decode cX0_fillUp 35 = .ok (.iload 4, 2) := by decide +kernel
theorem dX0_fillUp_37 : decode cX0_fillUp 37 = .ok (.iadd, 1) := by decide +kernel
theorem dX0_fillUp_38 : decode cX0_fillUp 38 = .ok (.putfield 46, 3) := by decide +kernel
theorem dX0_fillUp_41 : decode cX0_fillUp 41 = .ok (.iload_n 2, 1) := by decide +kernel
theorem dX0_fillUp_42 : decode cX0_fillUp 42 = .ok (.iload 4, 2) := by decide +kernel
theorem dX0_fillUp_44 : decode cX0_fillUp 44 = .ok (.isub, 1) := by decide +kernel
theorem dX0_fillUp_45 : decode cX0_fillUp 45 = .ok (.istore_n 2, 1) := by decide +kernel
theorem dX0_fillUp_46 : decode cX0_fillUp 46 = .ok (.iinc 3 1, 3) := by decide +kernel
theorem dX0_fillUp_49 : decode cX0_fillUp 49 = .ok (.goto (-45), 3) := by decide +kernel
theorem dX0_fillUp_52 : decode cX0_fillUp 52 = .ok (.iload_n 1, 1) := by decide +kernel
theorem dX0_fillUp_53 : decode cX0_fillUp 53 = .ok (.iload_n 2, 1) := by decide +kernel
theorem dX0_fillUp_54 : decode cX0_fillUp 54 = .ok (.isub, 1) := by decide +kernel
theorem dX0_fillUp_55 : decode cX0_fillUp 55 = .ok (.ireturn, 1) := by decide +kernel
theorem dX1_init_0 : decode cX1_init 0 = .ok (.aload_n 0, 1) := by decide +kernel
theorem dX1_init_1 : decode cX1_init 1 = .ok (.invokespecial 1, 3) := by decide +kernel
theorem dX1_init_4 : decode cX1_init 4 = .ok (.aload_n 0, 1) := by decide +kernel
theorem dX1_init_5 : decode cX1_init 5 = .ok (.aload_n 1, 1) := by decide +kernel
theorem dX1_init_6 : decode cX1_init 6 = .ok (.putfield 7, 3) := by decide +kernel
theorem dX1_init_9 : decode cX1_init 9 = .ok (.aload_n 0, 1) := by decide +kernel
theorem dX1_init_10 : decode cX1_init 10 = .ok (.iload_n 2, 1) := by decide +kernel
theorem dX1_init_11 : decode cX1_init 11 = .ok (.putfield 13, 3) := by decide +kernel
theorem dX1_init_14 : decode cX1_init 14 = .ok (.aload_n 0, 1) := by decide +kernel
theorem dX1_init_15 : decode cX1_init 15 = .ok (.iload_n 3, 1) := by decide +kernel
theorem dX1_init_16 : decode cX1_init 16 = .ok (.putfield 17, 3) := by decide +kernel
theorem dX1_init_19 : decode cX1_init 19 = .ok (.return_, 1) := by decide +kernel
theorem dX2_init_0 : decode cX2_init 0 = .ok (.aload_n 0, 1) := by decide +kernel
theorem dX2_init_1 : decode cX2_init 1 = .ok (.invokespecial 3, 3) := by decide +kernel
theorem dX2_init_4 : decode cX2_init 4 = .ok (.aload_n 0, 1) := by decide +kernel
theorem dX2_init_5 : decode cX2_init 5 = .ok (.bipush 81, 2) := by decide +kernel
theorem dX2_init_7 : decode cX2_init 7 = .ok (.newarray .int, 2) := by decide +kernel
theorem dX2_init_9 : decode cX2_init 9 = .ok (.putfield 11, 3) := by decide +kernel
theorem dX2_init_12 : decode cX2_init 12 = .ok (.aload_n 0, 1) := by decide +kernel
theorem dX2_init_13 : decode cX2_init 13 = .ok (.sipush 2048, 3) := by decide +kernel
theorem dX2_init_16 : decode cX2_init 16 = .ok (.newarray .int, 2) := by decide +kernel
theorem dX2_init_18 : decode cX2_init 18 = .ok (.putfield 15, 3) := by decide +kernel
theorem dX2_init_21 : decode cX2_init 21 = .ok (.iconst 0, 1) := by decide +kernel
theorem dX2_init_22 : decode cX2_init 22 = .ok (.istore_n 1, 1) := by decide +kernel
theorem dX2_init_23 : decode cX2_init 23 = .ok (.iload_n 1, 1) := by decide +kernel
theorem dX2_init_24 : decode cX2_init 24 = .ok (.bipush 81, 2) := by decide +kernel
theorem dX2_init_26 : decode cX2_init 26 = .ok (.if_icmp .ge 42, 3) := by decide +kernel
theorem dX2_init_29 : decode cX2_init 29 = .ok (.iload_n 1, 1) := by decide +kernel
theorem dX2_init_30 : decode cX2_init 30 = .ok (.bipush 9, 2) := by decide +kernel
theorem dX2_init_32 : decode cX2_init 32 = .ok (.idiv, 1) := by decide +kernel
theorem dX2_init_33 : decode cX2_init 33 = .ok (.iload_n 1, 1) := by decide +kernel
theorem dX2_init_34 : decode cX2_init 34 = .ok (.bipush 9, 2) := by decide +kernel
theorem dX2_init_36 : decode cX2_init 36 = .ok (.irem, 1) := by decide +kernel
theorem dX2_init_37 : decode cX2_init 37 = .ok (.if_icmp .ne 7, 3) := by decide +kernel
theorem dX2_init_40 : decode cX2_init 40 = .ok (.iconst 1, 1) := by decide +kernel
theorem dX2_init_41 : decode cX2_init 41 = .ok (.goto 4, 3) := by decide +kernel
theorem dX2_init_44 : decode cX2_init 44 = .ok (.iconst 0, 1) := by decide +kernel
theorem dX2_init_45 : decode cX2_init 45 = .ok (.istore_n 2, 1) := by decide +kernel
theorem dX2_init_46 : decode cX2_init 46 = .ok (.aload_n 0, 1) := by decide +kernel
theorem dX2_init_47 : decode cX2_init 47 = .ok (.getfield 11, 3) := by decide +kernel
theorem dX2_init_50 : decode cX2_init 50 = .ok (.iload_n 1, 1) := by decide +kernel
theorem dX2_init_51 : decode cX2_init 51 = .ok (.iload_n 2, 1) := by decide +kernel
theorem dX2_init_52 : decode cX2_init 52 = .ok (.ifCond .eq 7, 3) := by decide +kernel
theorem dX2_init_55 : decode cX2_init 55 = .ok (.iconst 0, 1) := by decide +kernel
theorem dX2_init_56 : decode cX2_init 56 = .ok (.goto 5, 3) := by decide +kernel
theorem dX2_init_59 : decode cX2_init 59 = .ok (.bipush 20, 2) := by decide +kernel
theorem dX2_init_61 : decode cX2_init 61 = .ok (.iastore, 1) := by decide +kernel
theorem dX2_init_62 : decode cX2_init 62 = .ok (.iinc 1 1, 3) := by decide +kernel
theorem dX2_init_65 : decode cX2_init 65 = .ok (.goto (-42), 3) := by decide +kernel
theorem dX2_init_68 : decode cX2_init 68 = .ok (.return_, 1) := by decide +kernel
theorem dX2_between_0 : decode cX2_between 0 = .ok (.aload_n 0, 1) := by decide +kernel
theorem dX2_between_1 : decode cX2_between 1 = .ok (.getfield 11, 3) := by decide +kernel
theorem dX2_between_4 : decode cX2_between 4 = .ok (.iload_n 1, 1) := by decide +kernel
theorem dX2_between_5 : decode cX2_between 5 = .ok (.iconst 1, 1) := by decide +kernel
theorem dX2_between_6 : decode cX2_between 6 = .ok (.iadd, 1) := by decide +kernel
theorem dX2_between_7 : decode cX2_between 7 = .ok (.bipush 9, 2) := by decide +kernel
theorem dX2_between_9 : decode cX2_between 9 = .ok (.imul, 1) := by decide +kernel
theorem dX2_between_10 : decode cX2_between 10 = .ok (.iload_n 2, 1) := by decide +kernel
theorem dX2_between_11 : decode cX2_between 11 = .ok (.iadd, 1) := by decide +kernel
theorem dX2_between_12 : decode cX2_between 12 = .ok (.iconst 1, 1) := by decide +kernel
theorem dX2_between_13 : decode cX2_between 13 = .ok (.iadd, 1) := by decide +kernel
theorem dX2_between_14 : decode cX2_between 14 = .ok (.iaload, 1) := by decide +kernel
theorem dX2_between_15 : decode cX2_between 15 = .ok (.ireturn, 1) := by decide +kernel
theorem dX2_setBetween_0 : decode cX2_setBetween 0 = .ok (.aload_n 0, 1) := by decide +kernel
theorem dX2_setBetween_1 : decode cX2_setBetween 1 = .ok (.getfield 11, 3) := by decide +kernel
theorem dX2_setBetween_4 : decode cX2_setBetween 4 = .ok (.iload_n 1, 1) := by decide +kernel
theorem dX2_setBetween_5 : decode cX2_setBetween 5 = .ok (.iconst 1, 1) := by decide +kernel
theorem dX2_setBetween_6 : decode cX2_setBetween 6 = .ok (.iadd, 1) := by decide +kernel
theorem dX2_setBetween_7 : decode cX2_setBetween 7 = .ok (.bipush 9, 2) := by decide +kernel
theorem dX2_setBetween_9 : decode cX2_setBetween 9 = .ok (.imul, 1) := by decide +kernel
theorem dX2_setBetween_10 : decode cX2_setBetween 10 = .ok (.iload_n 2, 1) := by decide +kernel
theorem dX2_setBetween_11 : decode cX2_setBetween 11 = .ok (.iadd, 1) := by decide +kernel
theorem dX2_setBetween_12 : decode cX2_setBetween 12 = .ok (.iconst 1, 1) := by decide +kernel
theorem dX2_setBetween_13 : decode cX2_setBetween 13 = .ok (.iadd, 1) := by decide +kernel
theorem dX2_setBetween_14 : decode cX2_setBetween 14 = .ok (.iload_n 3, 1) := by decide +kernel
theorem dX2_setBetween_15 : decode cX2_setBetween 15 = .ok (.iastore, 1) := by decide +kernel
theorem dX2_setBetween_16 : decode cX2_setBetween 16 = .ok (.aload_n 0, 1) := by decide +kernel
theorem dX2_setBetween_17 : decode cX2_setBetween 17 = .ok (.getfield 11, 3) := by decide +kernel
theorem dX2_setBetween_20 : decode cX2_setBetween 20 = .ok (.iload_n 2, 1) := by decide +kernel
theorem dX2_setBetween_21 : decode cX2_setBetween 21 = .ok (.iconst 1, 1) := by decide +kernel
theorem dX2_setBetween_22 : decode cX2_setBetween 22 = .ok (.iadd, 1) := by decide +kernel
theorem dX2_setBetween_23 : decode cX2_setBetween 23 = .ok (.bipush 9, 2) := by decide +kernel
theorem dX2_setBetween_25 : decode cX2_setBetween 25 = .ok (.imul, 1) := by decide +kernel
theorem dX2_setBetween_26 : decode cX2_setBetween 26 = .ok (.iload_n 1, 1) := by decide +kernel
theorem dX2_setBetween_27 : decode cX2_setBetween 27 = .ok (.iadd, 1) := by decide +kernel
theorem dX2_setBetween_28 : decode cX2_setBetween 28 = .ok (.iconst 1, 1) := by decide +kernel
theorem dX2_setBetween_29 : decode cX2_setBetween 29 = .ok (.iadd, 1) := by decide +kernel
theorem dX2_setBetween_30 : decode cX2_setBetween 30 = .ok (.iload_n 3, 1) := by decide +kernel
theorem dX2_setBetween_31 : decode cX2_setBetween 31 = .ok (.iastore, 1) := by decide +kernel
theorem dX2_setBetween_32 : decode cX2_setBetween 32 = .ok (.return_, 1) := by decide +kernel
theorem dX2_measureTours_0 : decode cX2_measureTours 0 = .ok (.iconst 1, 1) := by decide +kernel
theorem dX2_measureTours_1 : decode cX2_measureTours 1 = .ok (.iload_n 1, 1) := by decide +kernel
theorem dX2_measureTours_2 : decode cX2_measureTours 2 = .ok (.ishl, 1) := by decide +kernel
theorem dX2_measureTours_3 : decode cX2_measureTours 3 = .ok (.istore_n 2, 1) := by decide +kernel
theorem dX2_measureTours_4 : decode cX2_measureTours 4 = .ok (.iconst 1, 1) := by decide +kernel
theorem dX2_measureTours_5 : decode cX2_measureTours 5 = .ok (.istore_n 3, 1) := by decide +kernel
theorem dX2_measureTours_6 : decode cX2_measureTours 6 = .ok (.iload_n 3, 1) := by decide +kernel
theorem dX2_measureTours_7 : decode cX2_measureTours 7 = .ok (.iload_n 2, 1) := by decide +kernel
theorem dX2_measureTours_8 : decode cX2_measureTours 8 = .ok (.if_icmp .ge 57, 3) := by decide +kernel
theorem dX2_measureTours_11 : decode cX2_measureTours 11 = .ok (.iconst 0, 1) := by decide +kernel
theorem dX2_measureTours_12 : decode cX2_measureTours 12 = .ok (.istore 4, 2) := by decide +kernel
theorem dX2_measureTours_14 : decode cX2_measureTours 14 = .ok (.iload 4, 2) := by decide +kernel
theorem dX2_measureTours_16 : decode cX2_measureTours 16 = .ok (.iload_n 1, 1) := by decide +kernel
theorem dX2_measureTours_17 : decode cX2_measureTours 17 = .ok (.if_icmp .ge 42, 3) := by decide +kernel
theorem dX2_measureTours_20 : decode cX2_measureTours 20 = .ok (.iload_n 3, 1) := by decide +kernel
theorem dX2_measureTours_21 : decode cX2_measureTours 21 = .ok (.iload 4, 2) := by decide +kernel
theorem dX2_measureTours_23 : decode cX2_measureTours 23 = .ok (.invokestatic 18, 3) := by decide +kernel
theorem dX2_measureTours_26 : decode cX2_measureTours 26 = .ok (.ifCond .eq 27, 3) := by decide +kernel
theorem dX2_measureTours_29 : decode cX2_measureTours 29 = .ok (.aload_n 0, 1) := by decide +kernel
theorem dX2_measureTours_30 : decode cX2_measureTours 30 = .ok (.getfield 15, 3) := by decide +kernel
theorem dX2_measureTours_33 : decode cX2_measureTours 33 = .ok (.iload_n 3, 1) := by decide +kernel
theorem dX2_measureTours_34 : decode cX2_measureTours 34 = .ok (.bipush 8, 2) := by decide +kernel
theorem dX2_measureTours_36 : decode cX2_measureTours 36 = .ok (.imul, 1) := by decide +kernel
theorem dX2_measureTours_37 : decode cX2_measureTours 37 = .ok (.iload 4, 2) := by decide +kernel
theorem dX2_measureTours_39 : decode cX2_measureTours 39 = .ok (.iadd, 1) := by decide +kernel
theorem dX2_measureTours_40 : decode cX2_measureTours 40 = .ok (.aload_n 0, 1) := by decide +kernel
theorem dX2_measureTours_41 : decode cX2_measureTours 41 = .ok (.iload 4, 2) := by decide +kernel
theorem dX2_measureTours_43 : decode cX2_measureTours 43 = .ok (.iload_n 3, 1) := by decide +kernel
theorem dX2_measureTours_44 : decode cX2_measureTours 44 = .ok (.iload 4, 2) := by decide +kernel
theorem dX2_measureTours_46 : decode cX2_measureTours 46 = .ok (.invokestatic 22, 3) := by decide +kernel
theorem dX2_measureTours_49 : decode cX2_measureTours 49 = .ok (.invokevirtual 26, 3) := by decide +kernel
theorem dX2_measureTours_52 : decode cX2_measureTours 52 = .ok (.iastore, 1) := by decide +kernel
theorem dX2_measureTours_53 : decode cX2_measureTours 53 = .ok (.iinc 4 1, 3) := by decide +kernel
theorem dX2_measureTours_56 : decode cX2_measureTours 56 = .ok (.goto (-42), 3) := by decide +kernel
theorem dX2_measureTours_59 : decode cX2_measureTours 59 = .ok (.iinc 3 1, 3) := by decide +kernel
theorem dX2_measureTours_62 : decode cX2_measureTours 62 = .ok (.goto (-56), 3) := by decide +kernel
theorem dX2_measureTours_65 : decode cX2_measureTours 65 = .ok (.return_, 1) := by decide +kernel
theorem dX2_leastFrom_0 : decode cX2_leastFrom 0 = .ok (.iload_n 2, 1) := by decide +kernel
theorem dX2_leastFrom_1 : decode cX2_leastFrom 1 = .ok (.ifCond .ne 10, 3) := by decide +kernel
theorem dX2_leastFrom_4 : decode cX2_leastFrom 4 = .ok (.aload_n 0, 1) := by decide +kernel
theorem dX2_leastFrom_5 : decode cX2_leastFrom 5 = .ok (.iload_n 1, 1) := by decide +kernel
theorem dX2_leastFrom_6 : decode cX2_leastFrom 6 = .ok (.iconst (-1), 1) := by decide +kernel
theorem dX2_leastFrom_7 : decode cX2_leastFrom 7 = .ok (.invokevirtual 29, 3) := by decide +kernel
theorem dX2_leastFrom_10 : decode cX2_leastFrom 10 = .ok (.ireturn, 1) := by decide +kernel
theorem dX2_leastFrom_11 : decode cX2_leastFrom 11 = .ok (.aload_n 0, 1) := by decide +kernel
theorem dX2_leastFrom_12 : decode cX2_leastFrom 12 = .ok (.iload_n 1, 1) := by decide +kernel
theorem dX2_leastFrom_13 : decode cX2_leastFrom 13 = .ok (.aload_n 0, 1) := by decide +kernel
theorem dX2_leastFrom_14 : decode cX2_leastFrom 14 = .ok (.iload_n 1, 1) := by decide +kernel
theorem dX2_leastFrom_15 : decode cX2_leastFrom 15 = .ok (.iload_n 2, 1) := by decide +kernel
theorem dX2_leastFrom_16 : decode cX2_leastFrom 16 = .ok (.invokevirtual 32, 3) := by decide +kernel
theorem dX2_leastFrom_19 : decode cX2_leastFrom 19 = .ok (.iload_n 2, 1) := by decide +kernel
theorem dX2_leastFrom_20 : decode cX2_leastFrom 20 = .ok (.invokevirtual 35, 3) := by decide +kernel
theorem dX2_leastFrom_23 : decode cX2_leastFrom 23 = .ok (.ireturn, 1) := by decide +kernel
theorem dX2_nextStop_0 : decode cX2_nextStop 0 = .ok (.iconst (-1), 1) := by decide +kernel
theorem dX2_nextStop_1 : decode cX2_nextStop 1 = .ok (.istore_n 3, 1) := by decide +kernel
theorem dX2_nextStop_2 : decode cX2_nextStop 2 = .ok (.iconst 0, 1) := by decide +kernel
theorem dX2_nextStop_3 : decode cX2_nextStop 3 = .ok (.istore 4, 2) := by decide +kernel
theorem dX2_nextStop_5 : decode cX2_nextStop 5 = .ok (.iconst 0, 1) := by decide +kernel
theorem dX2_nextStop_6 : decode cX2_nextStop 6 = .ok (.istore 5, 2) := by decide +kernel
theorem dX2_nextStop_8 : decode cX2_nextStop 8 = .ok (.iload 5, 2) := by decide +kernel
theorem dX2_nextStop_10 : decode cX2_nextStop 10 = .ok (.bipush 8, 2) := by decide +kernel
theorem dX2_nextStop_12 : decode cX2_nextStop 12 = .ok (.if_icmp .ge 47, 3) := by decide +kernel
theorem dX2_nextStop_15 : decode cX2_nextStop 15 = .ok (.iload_n 2, 1) := by decide +kernel
theorem dX2_nextStop_16 : decode cX2_nextStop 16 = .ok (.iload 5, 2) := by decide +kernel
theorem dX2_nextStop_18 : decode cX2_nextStop 18 = .ok (.invokestatic 18, 3) := by decide +kernel
theorem dX2_nextStop_21 : decode cX2_nextStop 21 = .ok (.ifCond .eq 32, 3) := by decide +kernel
theorem dX2_nextStop_24 : decode cX2_nextStop 24 = .ok (.aload_n 0, 1) := by decide +kernel
theorem dX2_nextStop_25 : decode cX2_nextStop 25 = .ok (.iload_n 1, 1) := by decide +kernel
theorem dX2_nextStop_26 : decode cX2_nextStop 26 = .ok (.iload 5, 2) := by decide +kernel
theorem dX2_nextStop_28 : decode cX2_nextStop 28 = .ok (.iload_n 2, 1) := by decide +kernel
theorem dX2_nextStop_29 : decode cX2_nextStop 29 = .ok (.invokevirtual 35, 3) := by decide +kernel
theorem dX2_nextStop_32 : decode cX2_nextStop 32 = .ok (.istore 6, 2) := by decide +kernel
theorem dX2_nextStop_34 : decode cX2_nextStop 34 = .ok (.iload_n 3, 1) := by decide +kernel
theorem dX2_nextStop_35 : decode cX2_nextStop 35 = .ok (.iconst (-1), 1) := by decide +kernel
theorem dX2_nextStop_36 : decode cX2_nextStop 36 = .ok (.if_icmp .eq 10, 3) := by decide +kernel
theorem dX2_nextStop_39 : decode cX2_nextStop 39 = .ok (.iload 6, 2) := by decide +kernel
theorem dX2_nextStop_41 : decode cX2_nextStop 41 = .ok (.iload 4, 2) := by decide +kernel
theorem dX2_nextStop_43 : decode cX2_nextStop 43 = .ok (.if_icmp .ge 10, 3) := by decide +kernel
theorem dX2_nextStop_46 : decode cX2_nextStop 46 = .ok (.iload 5, 2) := by decide +kernel
theorem dX2_nextStop_48 : decode cX2_nextStop 48 = .ok (.istore_n 3, 1) := by decide +kernel
theorem dX2_nextStop_49 : decode cX2_nextStop 49 = .ok (.iload 6, 2) := by decide +kernel
theorem dX2_nextStop_51 : decode cX2_nextStop 51 = .ok (.istore 4, 2) := by decide +kernel
theorem dX2_nextStop_53 : decode cX2_nextStop 53 = .ok (.iinc 5 1, 3) := by decide +kernel
theorem dX2_nextStop_56 : decode cX2_nextStop 56 = .ok (.goto (-48), 3) := by decide +kernel
theorem dX2_nextStop_59 : decode cX2_nextStop 59 = .ok (.iload_n 3, 1) := by decide +kernel
theorem dX2_nextStop_60 : decode cX2_nextStop 60 = .ok (.ireturn, 1) := by decide +kernel
theorem dX2_leastBy_0 : decode cX2_leastBy 0 = .ok (.aload_n 0, 1) := by decide +kernel
theorem dX2_leastBy_1 : decode cX2_leastBy 1 = .ok (.iload_n 1, 1) := by decide +kernel
theorem dX2_leastBy_2 : decode cX2_leastBy 2 = .ok (.iload_n 2, 1) := by decide +kernel
theorem dX2_leastBy_3 : decode cX2_leastBy 3 = .ok (.invokevirtual 29, 3) := by decide +kernel
theorem dX2_leastBy_6 : decode cX2_leastBy 6 = .ok (.aload_n 0, 1) := by decide +kernel
theorem dX2_leastBy_7 : decode cX2_leastBy 7 = .ok (.getfield 15, 3) := by decide +kernel
theorem dX2_leastBy_10 : decode cX2_leastBy 10 = .ok (.iload_n 3, 1) := by decide +kernel
theorem dX2_leastBy_11 : decode cX2_leastBy 11 = .ok (.bipush 8, 2) := by decide +kernel
theorem dX2_leastBy_13 : decode cX2_leastBy 13 = .ok (.imul, 1) := by decide +kernel
theorem dX2_leastBy_14 : decode cX2_leastBy 14 = .ok (.iload_n 2, 1) := by decide +kernel
theorem dX2_leastBy_15 : decode cX2_leastBy 15 = .ok (.iadd, 1) := by decide +kernel
theorem dX2_leastBy_16 : decode cX2_leastBy 16 = .ok (.iaload, 1) := by decide +kernel
theorem dX2_leastBy_17 : decode cX2_leastBy 17 = .ok (.iadd, 1) := by decide +kernel
theorem dX2_leastBy_18 : decode cX2_leastBy 18 = .ok (.ireturn, 1) := by decide +kernel
theorem dX3_init_0 : decode cX3_init 0 = .ok (.aload_n 0, 1) := by decide +kernel
theorem dX3_init_1 : decode cX3_init 1 = .ok (.invokespecial 1, 3) := by decide +kernel
theorem dX3_init_4 : decode cX3_init 4 = .ok (.aload_n 0, 1) := by decide +kernel
theorem dX3_init_5 : decode cX3_init 5 = .ok (.bipush 100, 2) := by decide +kernel
theorem dX3_init_7 : decode cX3_init 7 = .ok (.putfield 7, 3) := by decide +kernel
theorem dX3_init_10 : decode cX3_init 10 = .ok (.return_, 1) := by decide +kernel
theorem dX3_lacking_0 : decode cX3_lacking 0 = .ok (.aload_n 0, 1) := by decide +kernel
theorem dX3_lacking_1 : decode cX3_lacking 1 = .ok (.getfield 13, 3) := by decide +kernel
theorem dX3_lacking_4 : decode cX3_lacking 4 = .ok (.aload_n 0, 1) := by decide +kernel
theorem dX3_lacking_5 : decode cX3_lacking 5 = .ok (.getfield 16, 3) := by decide +kernel
theorem dX3_lacking_8 : decode cX3_lacking 8 = .ok (.isub, 1) := by decide +kernel
theorem dX3_lacking_9 : decode cX3_lacking 9 = .ok (.ireturn, 1) := by decide +kernel
theorem dX3_fact_0 : decode cX3_fact 0 = .ok (.iload_n 1, 1) := by decide +kernel
theorem dX3_fact_1 : decode cX3_fact 1 = .ok (.tableswitch 60 0 4 #[35, 40, 45, 50, 55], 35) := by decide +kernel
theorem dX3_fact_36 : decode cX3_fact 36 = .ok (.aload_n 0, 1) := by decide +kernel
theorem dX3_fact_37 : decode cX3_fact 37 = .ok (.getfield 13, 3) := by decide +kernel
theorem dX3_fact_40 : decode cX3_fact 40 = .ok (.ireturn, 1) := by decide +kernel
theorem dX3_fact_41 : decode cX3_fact 41 = .ok (.aload_n 0, 1) := by decide +kernel
theorem dX3_fact_42 : decode cX3_fact 42 = .ok (.getfield 16, 3) := by decide +kernel
theorem dX3_fact_45 : decode cX3_fact 45 = .ok (.ireturn, 1) := by decide +kernel
theorem dX3_fact_46 : decode cX3_fact 46 = .ok (.aload_n 0, 1) := by decide +kernel
theorem dX3_fact_47 : decode cX3_fact 47 = .ok (.getfield 7, 3) := by decide +kernel
theorem dX3_fact_50 : decode cX3_fact 50 = .ok (.ireturn, 1) := by decide +kernel
theorem dX3_fact_51 : decode cX3_fact 51 = .ok (.aload_n 0, 1) := by decide +kernel
theorem dX3_fact_52 : decode cX3_fact 52 = .ok (.getfield 19, 3) := by decide +kernel
theorem dX3_fact_55 : decode cX3_fact 55 = .ok (.ireturn, 1) := by decide +kernel
theorem dX3_fact_56 : decode cX3_fact 56 = .ok (.aload_n 0, 1) := by decide +kernel
theorem dX3_fact_57 : decode cX3_fact 57 = .ok (.getfield 22, 3) := by decide +kernel
theorem dX3_fact_60 : decode cX3_fact 60 = .ok (.ireturn, 1) := by decide +kernel
theorem dX3_fact_61 : decode cX3_fact 61 = .ok (.aload_n 0, 1) := by decide +kernel
theorem dX3_fact_62 : decode cX3_fact 62 = .ok (.getfield 25, 3) := by decide +kernel
theorem dX3_fact_65 : decode cX3_fact 65 = .ok (.ireturn, 1) := by decide +kernel
theorem dX4_init_0 : decode cX4_init 0 = .ok (.aload_n 0, 1) := by decide +kernel
theorem dX4_init_1 : decode cX4_init 1 = .ok (.invokespecial 1, 3) := by decide +kernel
theorem dX4_init_4 : decode cX4_init 4 = .ok (.aload_n 0, 1) := by decide +kernel
theorem dX4_init_5 : decode cX4_init 5 = .ok (.new 7, 3) := by decide +kernel
theorem dX4_init_8 : decode cX4_init 8 = .ok (.dup, 1) := by decide +kernel
theorem dX4_init_9 : decode cX4_init 9 = .ok (.invokespecial 9, 3) := by decide +kernel
theorem dX4_init_12 : decode cX4_init 12 = .ok (.putfield 10, 3) := by decide +kernel
theorem dX4_init_15 : decode cX4_init 15 = .ok (.aload_n 0, 1) := by decide +kernel
theorem dX4_init_16 : decode cX4_init 16 = .ok (.new 7, 3) := by decide +kernel
theorem dX4_init_19 : decode cX4_init 19 = .ok (.dup, 1) := by decide +kernel
theorem dX4_init_20 : decode cX4_init 20 = .ok (.invokespecial 9, 3) := by decide +kernel
theorem dX4_init_23 : decode cX4_init 23 = .ok (.putfield 16, 3) := by decide +kernel
theorem dX4_init_26 : decode cX4_init 26 = .ok (.aload_n 0, 1) := by decide +kernel
theorem dX4_init_27 : decode cX4_init 27 = .ok (.new 19, 3) := by decide +kernel
theorem dX4_init_30 : decode cX4_init 30 = .ok (.dup, 1) := by decide +kernel
theorem dX4_init_31 : decode cX4_init 31 = .ok (.invokespecial 21, 3) := by decide +kernel
theorem dX4_init_34 : decode cX4_init 34 = .ok (.putfield 22, 3) := by decide +kernel
theorem dX4_init_37 : decode cX4_init 37 = .ok (.aload_n 0, 1) := by decide +kernel
theorem dX4_init_38 : decode cX4_init 38 = .ok (.bipush 8, 2) := by decide +kernel
theorem dX4_init_40 : decode cX4_init 40 = .ok (.newarray .int, 2) := by decide +kernel
theorem dX4_init_42 : decode cX4_init 42 = .ok (.putfield 26, 3) := by decide +kernel
theorem dX4_init_45 : decode cX4_init 45 = .ok (.aload_n 0, 1) := by decide +kernel
theorem dX4_init_46 : decode cX4_init 46 = .ok (.bipush 8, 2) := by decide +kernel
theorem dX4_init_48 : decode cX4_init 48 = .ok (.newarray .int, 2) := by decide +kernel
theorem dX4_init_50 : decode cX4_init 50 = .ok (.putfield 30, 3) := by decide +kernel
theorem dX4_init_53 : decode cX4_init 53 = .ok (.aload_n 0, 1) := by decide +kernel
theorem dX4_init_54 : decode cX4_init 54 = .ok (.bipush 8, 2) := by decide +kernel
theorem dX4_init_56 : decode cX4_init 56 = .ok (.newarray .int, 2) := by decide +kernel
theorem dX4_init_58 : decode cX4_init 58 = .ok (.putfield 33, 3) := by decide +kernel
theorem dX4_init_61 : decode cX4_init 61 = .ok (.return_, 1) := by decide +kernel
theorem dX4_addMachine_0 : decode cX4_addMachine 0 = .ok (.iload_n 1, 1) := by decide +kernel
theorem dX4_addMachine_1 : decode cX4_addMachine 1 = .ok (.bipush 100, 2) := by decide +kernel
theorem dX4_addMachine_3 : decode cX4_addMachine 3 = .ok (.ldc 36, 2) := by decide +kernel
theorem dX4_addMachine_5 : decode cX4_addMachine 5 = .ok (.invokestatic 37, 3) := by decide +kernel
theorem dX4_addMachine_8 : decode cX4_addMachine 8 = .ok (.ifCond .eq 13, 3) := by decide +kernel
theorem dX4_addMachine_11 : decode cX4_addMachine 11 = .ok (.new 41, 3) := by decide +kernel
theorem dX4_addMachine_14 : decode cX4_addMachine 14 = .ok (.dup, 1) := by decide +kernel
theorem dX4_addMachine_15 : decode cX4_addMachine 15 = .ok (.ldc 43, 2) := by decide +kernel
theorem dX4_addMachine_17 : decode cX4_addMachine 17 = .ok (.invokespecial 45, 3) := by decide +kernel
theorem dX4_addMachine_20 : decode cX4_addMachine 20 = .ok (.athrow, 1) := by decide +kernel
theorem dX4_addMachine_21 : decode cX4_addMachine 21 = .ok (.aload_n 0, 1) := by decide +kernel
theorem dX4_addMachine_22 : decode cX4_addMachine 22 = .ok (.getfield 10, 3) := by decide +kernel
theorem dX4_addMachine_25 : decode cX4_addMachine 25 = .ok (.invokevirtual 48, 3) := by decide +kernel
theorem dX4_addMachine_28 : decode cX4_addMachine 28 = .ok (.bipush 8, 2) := by decide +kernel
theorem dX4_addMachine_30 : decode cX4_addMachine 30 = .ok (.if_icmp .lt 13, 3) := by decide +kernel
theorem dX4_addMachine_33 : decode cX4_addMachine 33 = .ok (.new 52, 3) := by decide +kernel
theorem dX4_addMachine_36 : decode cX4_addMachine 36 = .ok (.dup, 1) := by decide +kernel
theorem dX4_addMachine_37 : decode cX4_addMachine 37 = .ok (.ldc 54, 2) := by decide +kernel
theorem dX4_addMachine_39 : decode cX4_addMachine 39 = .ok (.invokespecial 56, 3) := by decide +kernel
theorem dX4_addMachine_42 : decode cX4_addMachine 42 = .ok (.athrow, 1) := by decide +kernel
theorem dX4_addMachine_43 : decode cX4_addMachine 43 = .ok (.aload_n 0, 1) := by decide +kernel
theorem dX4_addMachine_44 : decode cX4_addMachine 44 = .ok (.getfield 10, 3) := by decide +kernel
theorem dX4_addMachine_47 : decode cX4_addMachine 47 = .ok (.new 57, 3) := by decide +kernel
theorem dX4_addMachine_50 : decode cX4_addMachine 50 = .ok (.dup, 1) := by decide +kernel
theorem dX4_addMachine_51 : decode cX4_addMachine 51 = .ok (.iload_n 1, 1) := by decide +kernel
theorem dX4_addMachine_52 : decode cX4_addMachine 52 = .ok (.invokespecial 59, 3) := by decide +kernel
theorem dX4_addMachine_55 : decode cX4_addMachine 55 = .ok (.invokevirtual 62, 3) := by decide +kernel
theorem dX4_addMachine_58 : decode cX4_addMachine 58 = .ok (.pop, 1) := by decide +kernel
theorem dX4_addMachine_59 : decode cX4_addMachine 59 = .ok (.aload_n 0, 1) := by decide +kernel
theorem dX4_addMachine_60 : decode cX4_addMachine 60 = .ok (.getfield 22, 3) := by decide +kernel
theorem dX4_addMachine_63 : decode cX4_addMachine 63 = .ok (.aload_n 0, 1) := by decide +kernel
theorem dX4_addMachine_64 : decode cX4_addMachine 64 = .ok (.getfield 10, 3) := by decide +kernel
theorem dX4_addMachine_67 : decode cX4_addMachine 67 = .ok (.invokevirtual 48, 3) := by decide +kernel
theorem dX4_addMachine_70 : decode cX4_addMachine 70 = .ok (.invokevirtual 66, 3) := by decide +kernel
theorem dX4_addMachine_73 : decode cX4_addMachine 73 = .ok (.aload_n 0, 1) := by decide +kernel
theorem dX4_addMachine_74 : decode cX4_addMachine 74 = .ok (.getfield 10, 3) := by decide +kernel
theorem dX4_addMachine_77 : decode cX4_addMachine 77 = .ok (.invokevirtual 48, 3) := by decide +kernel
theorem dX4_addMachine_80 : decode cX4_addMachine 80 = .ok (.iconst 1, 1) := by decide +kernel
theorem dX4_addMachine_81 : decode cX4_addMachine 81 = .ok (.isub, 1) := by decide +kernel
theorem dX4_addMachine_82 : decode cX4_addMachine 82 = .ok (.ireturn, 1) := by decide +kernel
theorem dX4_setMinutes_0 : decode cX4_setMinutes 0 = .ok (.aload_n 0, 1) := by decide +kernel
theorem dX4_setMinutes_1 : decode cX4_setMinutes 1 = .ok (.iload_n 1, 1) := by decide +kernel
theorem dX4_setMinutes_2 : decode cX4_setMinutes 2 = .ok (.invokevirtual 69, 3) := by decide +kernel
theorem dX4_setMinutes_5 : decode cX4_setMinutes 5 = .ok (.ifCond .ne 11, 3) := by decide +kernel
theorem dX4_setMinutes_8 : decode cX4_setMinutes 8 = .ok (.aload_n 0, 1) := by decide +kernel
theorem dX4_setMinutes_9 : decode cX4_setMinutes 9 = .ok (.iload_n 2, 1) := by decide +kernel
theorem dX4_setMinutes_10 : decode cX4_setMinutes 10 = .ok (.invokevirtual 69, 3) := by decide +kernel
theorem dX4_setMinutes_13 : decode cX4_setMinutes 13 = .ok (.ifCond .eq 13, 3) := by decide +kernel
theorem dX4_setMinutes_16 : decode cX4_setMinutes 16 = .ok (.new 73, 3) := by decide +kernel
theorem dX4_setMinutes_19 : decode cX4_setMinutes 19 = .ok (.dup, 1) := by decide +kernel
theorem dX4_setMinutes_20 : decode cX4_setMinutes 20 = .ok (.ldc 75, 2) := by decide +kernel
theorem dX4_setMinutes_22 : decode cX4_setMinutes 22 = .ok (.invokespecial 77, 3) := by decide +kernel
theorem dX4_setMinutes_25 : decode cX4_setMinutes 25 = .ok (.athrow, 1) := by decide +kernel
theorem dX4_setMinutes_26 : decode cX4_setMinutes 26 = .ok (.iload_n 1, 1) := by decide +kernel
theorem dX4_setMinutes_27 : decode cX4_setMinutes 27 = .ok (.iload_n 2, 1) := by decide +kernel
theorem dX4_setMinutes_28 : decode cX4_setMinutes 28 = .ok (.if_icmp .ne 13, 3) := by decide +kernel
theorem dX4_setMinutes_31 : decode cX4_setMinutes 31 = .ok (.new 41, 3) := by decide +kernel
theorem dX4_setMinutes_34 : decode cX4_setMinutes 34 = .ok (.dup, 1) := by decide +kernel
theorem dX4_setMinutes_35 : decode cX4_setMinutes 35 = .ok (.ldc 78, 2) := by decide +kernel
theorem dX4_setMinutes_37 : decode cX4_setMinutes 37 = .ok (.invokespecial 45, 3) := by decide +kernel
theorem dX4_setMinutes_40 : decode cX4_setMinutes 40 = .ok (.athrow, 1) := by decide +kernel
theorem dX4_setMinutes_41 : decode cX4_setMinutes 41 = .ok (.iload_n 3, 1) := by decide +kernel
theorem dX4_setMinutes_42 : decode cX4_setMinutes 42 = .ok (.iconst 1, 1) := by decide +kernel
theorem dX4_setMinutes_43 : decode cX4_setMinutes 43 = .ok (.sipush 200, 3) := by decide +kernel
theorem dX4_setMinutes_46 : decode cX4_setMinutes 46 = .ok (.invokestatic 37, 3) := by decide +kernel
theorem dX4_setMinutes_49 : decode cX4_setMinutes 49 = .ok (.ifCond .eq 13, 3) := by decide +kernel
theorem dX4_setMinutes_52 : decode cX4_setMinutes 52 = .ok (.new 41, 3) := by decide +kernel
theorem dX4_setMinutes_55 : decode cX4_setMinutes 55 = .ok (.dup, 1) := by decide +kernel
theorem dX4_setMinutes_56 : decode cX4_setMinutes 56 = .ok (.ldc 80, 2) := by decide +kernel
theorem dX4_setMinutes_58 : decode cX4_setMinutes 58 = .ok (.invokespecial 45, 3) := by decide +kernel
theorem dX4_setMinutes_61 : decode cX4_setMinutes 61 = .ok (.athrow, 1) := by decide +kernel
theorem dX4_setMinutes_62 : decode cX4_setMinutes 62 = .ok (.aload_n 0, 1) := by decide +kernel
theorem dX4_setMinutes_63 : decode cX4_setMinutes 63 = .ok (.getfield 22, 3) := by decide +kernel
theorem dX4_setMinutes_66 : decode cX4_setMinutes 66 = .ok (.iload_n 1, 1) := by decide +kernel
theorem dX4_setMinutes_67 : decode cX4_setMinutes 67 = .ok (.iload_n 2, 1) := by decide +kernel
theorem dX4_setMinutes_68 : decode cX4_setMinutes 68 = .ok (.invokevirtual 82, 3) := by decide +kernel
theorem dX4_setMinutes_71 : decode cX4_setMinutes 71 = .ok (.istore 4, 2) := by decide +kernel
theorem dX4_setMinutes_73 : decode cX4_setMinutes 73 = .ok (.aload_n 0, 1) := by decide +kernel
theorem dX4_setMinutes_74 : decode cX4_setMinutes 74 = .ok (.getfield 22, 3) := by decide +kernel
theorem dX4_setMinutes_77 : decode cX4_setMinutes 77 = .ok (.iload_n 1, 1) := by decide +kernel
theorem dX4_setMinutes_78 : decode cX4_setMinutes 78 = .ok (.iload_n 2, 1) := by decide +kernel
theorem dX4_setMinutes_79 : decode cX4_setMinutes 79 = .ok (.iload_n 3, 1) := by decide +kernel
theorem dX4_setMinutes_80 : decode cX4_setMinutes 80 = .ok (.invokevirtual 86, 3) := by decide +kernel
theorem dX4_setMinutes_83 : decode cX4_setMinutes 83 = .ok (.aload_n 0, 1) := by decide +kernel
theorem dX4_setMinutes_84 : decode cX4_setMinutes 84 = .ok (.getfield 22, 3) := by decide +kernel
theorem dX4_setMinutes_87 : decode cX4_setMinutes 87 = .ok (.aload_n 0, 1) := by decide +kernel
theorem dX4_setMinutes_88 : decode cX4_setMinutes 88 = .ok (.getfield 10, 3) := by decide +kernel
theorem dX4_setMinutes_91 : decode cX4_setMinutes 91 = .ok (.invokevirtual 48, 3) := by decide +kernel
theorem dX4_setMinutes_94 : decode cX4_setMinutes 94 = .ok (.invokevirtual 66, 3) := by decide +kernel
theorem dX4_setMinutes_97 : decode cX4_setMinutes 97 = .ok (.iload 4, 2) := by decide +kernel
theorem dX4_setMinutes_99 : decode cX4_setMinutes 99 = .ok (.ireturn, 1) := by decide +kernel
theorem dX4_setSlot_0 : decode cX4_setSlot 0 = .ok (.aload_n 0, 1) := by decide +kernel
theorem dX4_setSlot_1 : decode cX4_setSlot 1 = .ok (.iload_n 1, 1) := by decide +kernel
theorem dX4_setSlot_2 : decode cX4_setSlot 2 = .ok (.iload_n 2, 1) := by decide +kernel
theorem dX4_setSlot_3 : decode cX4_setSlot 3 = .ok (.invokevirtual 90, 3) := by decide +kernel
theorem dX4_setSlot_6 : decode cX4_setSlot 6 = .ok (.astore 5, 2) := by decide +kernel
theorem dX4_setSlot_8 : decode cX4_setSlot 8 = .ok (.iload_n 3, 1) := by decide +kernel
theorem dX4_setSlot_9 : decode cX4_setSlot 9 = .ok (.iconst 0, 1) := by decide +kernel
theorem dX4_setSlot_10 : decode cX4_setSlot 10 = .ok (.bipush 30, 2) := by decide +kernel
theorem dX4_setSlot_12 : decode cX4_setSlot 12 = .ok (.invokestatic 37, 3) := by decide +kernel
theorem dX4_setSlot_15 : decode cX4_setSlot 15 = .ok (.ifCond .eq 13, 3) := by decide +kernel
theorem dX4_setSlot_18 : decode cX4_setSlot 18 = .ok (.new 41, 3) := by decide +kernel
theorem dX4_setSlot_21 : decode cX4_setSlot 21 = .ok (.dup, 1) := by decide +kernel
theorem dX4_setSlot_22 : decode cX4_setSlot 22 = .ok (.ldc 94, 2) := by decide +kernel
theorem dX4_setSlot_24 : decode cX4_setSlot 24 = .ok (.invokespecial 45, 3) := by decide +kernel
theorem dX4_setSlot_27 : decode cX4_setSlot 27 = .ok (.athrow, 1) := by decide +kernel
theorem dX4_setSlot_28 : decode cX4_setSlot 28 = .ok (.iload 4, 2) := by decide +kernel
theorem dX4_setSlot_30 : decode cX4_setSlot 30 = .ok (.iconst 0, 1) := by decide +kernel
theorem dX4_setSlot_31 : decode cX4_setSlot 31 = .ok (.bipush 20, 2) := by decide +kernel
theorem dX4_setSlot_33 : decode cX4_setSlot 33 = .ok (.invokestatic 37, 3) := by decide +kernel
theorem dX4_setSlot_36 : decode cX4_setSlot 36 = .ok (.ifCond .eq 13, 3) := by decide +kernel
theorem dX4_setSlot_39 : decode cX4_setSlot 39 = .ok (.new 41, 3) := by decide +kernel
theorem dX4_setSlot_42 : decode cX4_setSlot 42 = .ok (.dup, 1) := by decide +kernel
theorem dX4_setSlot_43 : decode cX4_setSlot 43 = .ok (.ldc 96, 2) := by decide +kernel
theorem dX4_setSlot_45 : decode cX4_setSlot 45 = .ok (.invokespecial 45, 3) := by decide +kernel
theorem dX4_setSlot_48 : decode cX4_setSlot 48 = .ok (.athrow, 1) := by decide +kernel
theorem dX4_setSlot_49 : decode cX4_setSlot 49 = .ok (.aload 5, 2) := by decide +kernel
theorem dX4_setSlot_51 : decode cX4_setSlot 51 = .ok (.getfield 98, 3) := by decide +kernel
theorem dX4_setSlot_54 : decode cX4_setSlot 54 = .ok (.istore 6, 2) := by decide +kernel
theorem dX4_setSlot_56 : decode cX4_setSlot 56 = .ok (.aload 5, 2) := by decide +kernel
theorem dX4_setSlot_58 : decode cX4_setSlot 58 = .ok (.iload_n 3, 1) := by decide +kernel
theorem dX4_setSlot_59 : decode cX4_setSlot 59 = .ok (.putfield 98, 3) := by decide +kernel
theorem dX4_setSlot_62 : decode cX4_setSlot 62 = .ok (.aload 5, 2) := by decide +kernel
theorem dX4_setSlot_64 : decode cX4_setSlot 64 = .ok (.aload 5, 2) := by decide +kernel
theorem dX4_setSlot_66 : decode cX4_setSlot 66 = .ok (.getfield 104, 3) := by decide +kernel
theorem dX4_setSlot_69 : decode cX4_setSlot 69 = .ok (.iload_n 3, 1) := by decide +kernel
theorem dX4_setSlot_70 : decode cX4_setSlot 70 = .ok (.invokestatic 107, 3) := by decide +kernel
theorem dX4_setSlot_73 : decode cX4_setSlot 73 = .ok (.putfield 104, 3) := by decide +kernel
theorem dX4_setSlot_76 : decode cX4_setSlot 76 = .ok (.aload 5, 2) := by decide +kernel
theorem dX4_setSlot_78 : decode cX4_setSlot 78 = .ok (.iload 4, 2) := by decide +kernel
theorem dX4_setSlot_80 : decode cX4_setSlot 80 = .ok (.putfield 112, 3) := by decide +kernel
theorem dX4_setSlot_83 : decode cX4_setSlot 83 = .ok (.iload 6, 2) := by decide +kernel
theorem dX4_setSlot_85 : decode cX4_setSlot 85 = .ok (.ireturn, 1) := by decide +kernel
theorem dX4_planPrice_0 : decode cX4_planPrice 0 = .ok (.aload_n 0, 1) := by decide +kernel
theorem dX4_planPrice_1 : decode cX4_planPrice 1 = .ok (.iload_n 1, 1) := by decide +kernel
theorem dX4_planPrice_2 : decode cX4_planPrice 2 = .ok (.iload_n 2, 1) := by decide +kernel
theorem dX4_planPrice_3 : decode cX4_planPrice 3 = .ok (.invokevirtual 90, 3) := by decide +kernel
theorem dX4_planPrice_6 : decode cX4_planPrice 6 = .ok (.astore 5, 2) := by decide +kernel
theorem dX4_planPrice_8 : decode cX4_planPrice 8 = .ok (.iload_n 3, 1) := by decide +kernel
theorem dX4_planPrice_9 : decode cX4_planPrice 9 = .ok (.aload_n 0, 1) := by decide +kernel
theorem dX4_planPrice_10 : decode cX4_planPrice 10 = .ok (.getfield 115, 3) := by decide +kernel
theorem dX4_planPrice_13 : decode cX4_planPrice 13 = .ok (.sipush 999, 3) := by decide +kernel
theorem dX4_planPrice_16 : decode cX4_planPrice 16 = .ok (.invokestatic 37, 3) := by decide +kernel
theorem dX4_planPrice_19 : decode cX4_planPrice 19 = .ok (.ifCond .eq 13, 3) := by decide +kernel
theorem dX4_planPrice_22 : decode cX4_planPrice 22 = .ok (.new 41, 3) := by decide +kernel
theorem dX4_planPrice_25 : decode cX4_planPrice 25 = .ok (.dup, 1) := by decide +kernel
theorem dX4_planPrice_26 : decode cX4_planPrice 26 = .ok (.ldc 118, 2) := by decide +kernel
theorem dX4_planPrice_28 : decode cX4_planPrice 28 = .ok (.invokespecial 45, 3) := by decide +kernel
theorem dX4_planPrice_31 : decode cX4_planPrice 31 = .ok (.athrow, 1) := by decide +kernel
theorem dX4_planPrice_32 : decode cX4_planPrice 32 = .ok (.iload 4, 2) := by decide +kernel
theorem dX4_planPrice_34 : decode cX4_planPrice 34 = .ok (.iconst 1, 1) := by decide +kernel
theorem dX4_planPrice_35 : decode cX4_planPrice 35 = .ok (.sipush 1000, 3) := by decide +kernel
theorem dX4_planPrice_38 : decode cX4_planPrice 38 = .ok (.invokestatic 37, 3) := by decide +kernel
theorem dX4_planPrice_41 : decode cX4_planPrice 41 = .ok (.ifCond .eq 13, 3) := by decide +kernel
theorem dX4_planPrice_44 : decode cX4_planPrice 44 = .ok (.new 41, 3) := by decide +kernel
theorem dX4_planPrice_47 : decode cX4_planPrice 47 = .ok (.dup, 1) := by decide +kernel
theorem dX4_planPrice_48 : decode cX4_planPrice 48 = .ok (.ldc 120, 2) := by decide +kernel
theorem dX4_planPrice_50 : decode cX4_planPrice 50 = .ok (.invokespecial 45, 3) := by decide +kernel
theorem dX4_planPrice_53 : decode cX4_planPrice 53 = .ok (.athrow, 1) := by decide +kernel
theorem dX4_planPrice_54 : decode cX4_planPrice 54 = .ok (.iload_n 3, 1) := by decide +kernel
theorem dX4_planPrice_55 : decode cX4_planPrice 55 = .ok (.aload_n 0, 1) := by decide +kernel
theorem dX4_planPrice_56 : decode cX4_planPrice 56 = .ok (.getfield 115, 3) := by decide +kernel
theorem dX4_planPrice_59 : decode cX4_planPrice 59 = .ok (.if_icmp .ne 18, 3) := by decide +kernel
theorem dX4_planPrice_62 : decode cX4_planPrice 62 = .ok (.aload 5, 2) := by decide +kernel
theorem dX4_planPrice_64 : decode cX4_planPrice 64 = .ok (.iload 4, 2) := by decide +kernel
theorem dX4_planPrice_66 : decode cX4_planPrice 66 = .ok (.putfield 122, 3) := by decide +kernel
theorem dX4_planPrice_69 : decode cX4_planPrice 69 = .ok (.aload_n 0, 1) := by decide +kernel
theorem dX4_planPrice_70 : decode cX4_planPrice 70 = .ok (.getfield 16, 3) := by decide +kernel
theorem dX4_planPrice_73 : decode cX4_planPrice 73 = .ok (.invokevirtual 48, 3) := by decide +kernel
theorem dX4_planPrice_76 : decode cX4_planPrice 76 = .ok (.ireturn, 1) := by decide +kernel
theorem dX4_planPrice_77 : decode cX4_planPrice 77 = .ok (.aload_n 0, 1) := by decide +kernel
theorem dX4_planPrice_78 : decode cX4_planPrice 78 = .ok (.getfield 16, 3) := by decide +kernel
theorem dX4_planPrice_81 : decode cX4_planPrice 81 = .ok (.invokevirtual 48, 3) := by decide +kernel
theorem dX4_planPrice_84 : decode cX4_planPrice 84 = .ok (.bipush 20, 2) := by decide +kernel
theorem dX4_planPrice_86 : decode cX4_planPrice 86 = .ok (.if_icmp .lt 13, 3) := by decide +kernel
theorem dX4_planPrice_89 : decode cX4_planPrice 89 = .ok (.new 52, 3) := by decide +kernel
theorem dX4_planPrice_92 : decode cX4_planPrice 92 = .ok (.dup, 1) := by decide +kernel
theorem dX4_planPrice_93 : decode cX4_planPrice 93 = .ok (.ldc 125, 2) := by decide +kernel
theorem dX4_planPrice_95 : decode cX4_planPrice 95 = .ok (.invokespecial 56, 3) := by decide +kernel
theorem dX4_planPrice_98 : decode cX4_planPrice 98 = .ok (.athrow, 1) := by decide +kernel
theorem dX4_planPrice_99 : decode cX4_planPrice 99 = .ok (.aload_n 0, 1) := by decide +kernel
theorem dX4_planPrice_100 : decode cX4_planPrice 100 = .ok (.getfield 16, 3) := by decide +kernel
theorem dX4_planPrice_103 : decode cX4_planPrice 103 = .ok (.new 127, 3) := by decide +kernel
theorem dX4_planPrice_106 : decode cX4_planPrice 106 = .ok (.dup, 1) := by decide +kernel
theorem dX4_planPrice_107 : decode cX4_planPrice 107 = .ok (.aload 5, 2) := by decide +kernel
theorem dX4_planPrice_109 : decode cX4_planPrice 109 = .ok (.iload_n 3, 1) := by decide +kernel
theorem dX4_planPrice_110 : decode cX4_planPrice 110 = .ok (.iload 4, 2) := by decide +kernel
theorem dX4_planPrice_112 : decode cX4_planPrice 112 = .ok (.invokespecial 129, 3) := by decide +kernel
theorem dX4_planPrice_115 : decode cX4_planPrice 115 = .ok (.invokevirtual 62, 3) := by decide +kernel
theorem dX4_planPrice_118 : decode cX4_planPrice 118 = .ok (.pop, 1) := by decide +kernel
theorem dX4_planPrice_119 : decode cX4_planPrice 119 = .ok (.aload_n 0, 1) := by decide +kernel
theorem dX4_planPrice_120 : decode cX4_planPrice 120 = .ok (.getfield 16, 3) := by decide +kernel
theorem dX4_planPrice_123 : decode cX4_planPrice 123 = .ok (.invokevirtual 48, 3) := by decide +kernel
theorem dX4_planPrice_126 : decode cX4_planPrice 126 = .ok (.ireturn, 1) := by decide +kernel
theorem dX4_machineCount_0 : decode cX4_machineCount 0 = .ok (.aload_n 0, 1) := by decide +kernel
theorem dX4_machineCount_1 : decode cX4_machineCount 1 = .ok (.getfield 10, 3) := by decide +kernel
theorem dX4_machineCount_4 : decode cX4_machineCount 4 = .ok (.invokevirtual 48, 3) := by decide +kernel
theorem dX4_machineCount_7 : decode cX4_machineCount 7 = .ok (.ireturn, 1) := by decide +kernel
theorem dX4_slot_0 : decode cX4_slot 0 = .ok (.aload_n 0, 1) := by decide +kernel
theorem dX4_slot_1 : decode cX4_slot 1 = .ok (.iload_n 1, 1) := by decide +kernel
theorem dX4_slot_2 : decode cX4_slot 2 = .ok (.iload_n 2, 1) := by decide +kernel
theorem dX4_slot_3 : decode cX4_slot 3 = .ok (.invokevirtual 90, 3) := by decide +kernel
theorem dX4_slot_6 : decode cX4_slot 6 = .ok (.astore 4, 2) := by decide +kernel
theorem dX4_slot_8 : decode cX4_slot 8 = .ok (.iload_n 3, 1) := by decide +kernel
theorem dX4_slot_9 : decode cX4_slot 9 = .ok (.iconst 0, 1) := by decide +kernel
theorem dX4_slot_10 : decode cX4_slot 10 = .ok (.iconst 5, 1) := by decide +kernel
theorem dX4_slot_11 : decode cX4_slot 11 = .ok (.invokestatic 37, 3) := by decide +kernel
theorem dX4_slot_14 : decode cX4_slot 14 = .ok (.ifCond .eq 13, 3) := by decide +kernel
theorem dX4_slot_17 : decode cX4_slot 17 = .ok (.new 73, 3) := by decide +kernel
theorem dX4_slot_20 : decode cX4_slot 20 = .ok (.dup, 1) := by decide +kernel
theorem dX4_slot_21 : decode cX4_slot 21 = .ok (.ldc 132, 2) := by decide +kernel
theorem dX4_slot_23 : decode cX4_slot 23 = .ok (.invokespecial 77, 3) := by decide +kernel
theorem dX4_slot_26 : decode cX4_slot 26 = .ok (.athrow, 1) := by decide +kernel
theorem dX4_slot_27 : decode cX4_slot 27 = .ok (.aload 4, 2) := by decide +kernel
theorem dX4_slot_29 : decode cX4_slot 29 = .ok (.iload_n 3, 1) := by decide +kernel
theorem dX4_slot_30 : decode cX4_slot 30 = .ok (.invokevirtual 134, 3) := by decide +kernel
theorem dX4_slot_33 : decode cX4_slot 33 = .ok (.ireturn, 1) := by decide +kernel
theorem dX4_machine_0 : decode cX4_machine 0 = .ok (.aload_n 0, 1) := by decide +kernel
theorem dX4_machine_1 : decode cX4_machine 1 = .ok (.iload_n 1, 1) := by decide +kernel
theorem dX4_machine_2 : decode cX4_machine 2 = .ok (.invokevirtual 138, 3) := by decide +kernel
theorem dX4_machine_5 : decode cX4_machine 5 = .ok (.astore_n 3, 1) := by decide +kernel
theorem dX4_machine_6 : decode cX4_machine 6 = .ok (.iload_n 2, 1) := by decide +kernel
theorem dX4_machine_7 : decode cX4_machine 7 = .ok (.iconst 0, 1) := by decide +kernel
theorem dX4_machine_8 : decode cX4_machine 8 = .ok (.iconst 4, 1) := by decide +kernel
theorem dX4_machine_9 : decode cX4_machine 9 = .ok (.invokestatic 37, 3) := by decide +kernel
theorem dX4_machine_12 : decode cX4_machine 12 = .ok (.ifCond .eq 13, 3) := by decide +kernel
theorem dX4_machine_15 : decode cX4_machine 15 = .ok (.new 73, 3) := by decide +kernel
theorem dX4_machine_18 : decode cX4_machine 18 = .ok (.dup, 1) := by decide +kernel
theorem dX4_machine_19 : decode cX4_machine 19 = .ok (.ldc 142, 2) := by decide +kernel
theorem dX4_machine_21 : decode cX4_machine 21 = .ok (.invokespecial 77, 3) := by decide +kernel
theorem dX4_machine_24 : decode cX4_machine 24 = .ok (.athrow, 1) := by decide +kernel
theorem dX4_machine_25 : decode cX4_machine 25 = .ok (.aload_n 3, 1) := by decide +kernel
theorem dX4_machine_26 : decode cX4_machine 26 = .ok (.iload_n 2, 1) := by decide +kernel
theorem dX4_machine_27 : decode cX4_machine 27 = .ok (.invokevirtual 144, 3) := by decide +kernel
theorem dX4_machine_30 : decode cX4_machine 30 = .ok (.ireturn, 1) := by decide +kernel
theorem dX4_runsOut_0 : decode cX4_runsOut 0 = .ok (.aload_n 0, 1) := by decide +kernel
theorem dX4_runsOut_1 : decode cX4_runsOut 1 = .ok (.iload_n 1, 1) := by decide +kernel
theorem dX4_runsOut_2 : decode cX4_runsOut 2 = .ok (.iload_n 2, 1) := by decide +kernel
theorem dX4_runsOut_3 : decode cX4_runsOut 3 = .ok (.invokevirtual 90, 3) := by decide +kernel
theorem dX4_runsOut_6 : decode cX4_runsOut 6 = .ok (.astore_n 3, 1) := by decide +kernel
theorem dX4_runsOut_7 : decode cX4_runsOut 7 = .ok (.aload_n 3, 1) := by decide +kernel
theorem dX4_runsOut_8 : decode cX4_runsOut 8 = .ok (.getfield 104, 3) := by decide +kernel
theorem dX4_runsOut_11 : decode cX4_runsOut 11 = .ok (.ifCond .le 10, 3) := by decide +kernel
theorem dX4_runsOut_14 : decode cX4_runsOut 14 = .ok (.aload_n 3, 1) := by decide +kernel
theorem dX4_runsOut_15 : decode cX4_runsOut 15 = .ok (.getfield 112, 3) := by decide +kernel
theorem dX4_runsOut_18 : decode cX4_runsOut 18 = .ok (.ifCond .gt 5, 3) := by decide +kernel
theorem dX4_runsOut_21 : decode cX4_runsOut 21 = .ok (.iconst (-1), 1) := by decide +kernel
theorem dX4_runsOut_22 : decode cX4_runsOut 22 = .ok (.ireturn, 1) := by decide +kernel
theorem dX4_runsOut_23 : decode cX4_runsOut 23 = .ok (.aload_n 0, 1) := by decide +kernel
theorem dX4_runsOut_24 : decode cX4_runsOut 24 = .ok (.getfield 115, 3) := by decide +kernel
theorem dX4_runsOut_27 : decode cX4_runsOut 27 = .ok (.aload_n 3, 1) := by decide +kernel
theorem dX4_runsOut_28 : decode cX4_runsOut 28 = .ok (.getfield 104, 3) := by decide +kernel
theorem dX4_runsOut_31 : decode cX4_runsOut 31 = .ok (.iconst 1, 1) := by decide +kernel
theorem dX4_runsOut_32 : decode cX4_runsOut 32 = .ok (.isub, 1) := by decide +kernel
theorem dX4_runsOut_33 : decode cX4_runsOut 33 = .ok (.aload_n 3, 1) := by decide +kernel
theorem dX4_runsOut_34 : decode cX4_runsOut 34 = .ok (.getfield 112, 3) := by decide +kernel
theorem dX4_runsOut_37 : decode cX4_runsOut 37 = .ok (.idiv, 1) := by decide +kernel
theorem dX4_runsOut_38 : decode cX4_runsOut 38 = .ok (.iadd, 1) := by decide +kernel
theorem dX4_runsOut_39 : decode cX4_runsOut 39 = .ok (.ireturn, 1) := by decide +kernel
theorem dX4_pass_0 : decode cX4_pass 0 = .ok (.iload_n 1, 1) := by decide +kernel
theorem dX4_pass_1 : decode cX4_pass 1 = .ok (.iconst 1, 1) := by decide +kernel
theorem dX4_pass_2 : decode cX4_pass 2 = .ok (.bipush 30, 2) := by decide +kernel
theorem dX4_pass_4 : decode cX4_pass 4 = .ok (.invokestatic 37, 3) := by decide +kernel
theorem dX4_pass_7 : decode cX4_pass 7 = .ok (.ifCond .eq 13, 3) := by decide +kernel
theorem dX4_pass_10 : decode cX4_pass 10 = .ok (.new 41, 3) := by decide +kernel
theorem dX4_pass_13 : decode cX4_pass 13 = .ok (.dup, 1) := by decide +kernel
theorem dX4_pass_14 : decode cX4_pass 14 = .ok (.ldc 145, 2) := by decide +kernel
theorem dX4_pass_16 : decode cX4_pass 16 = .ok (.invokespecial 45, 3) := by decide +kernel
theorem dX4_pass_19 : decode cX4_pass 19 = .ok (.athrow, 1) := by decide +kernel
theorem dX4_pass_20 : decode cX4_pass 20 = .ok (.aload_n 0, 1) := by decide +kernel
theorem dX4_pass_21 : decode cX4_pass 21 = .ok (.getfield 115, 3) := by decide +kernel
theorem dX4_pass_24 : decode cX4_pass 24 = .ok (.iload_n 1, 1) := by decide +kernel
theorem dX4_pass_25 : decode cX4_pass 25 = .ok (.iadd, 1) := by decide +kernel
theorem dX4_pass_26 : decode cX4_pass 26 = .ok (.sipush 999, 3) := by decide +kernel
theorem dX4_pass_29 : decode cX4_pass 29 = .ok (.if_icmp .le 13, 3) := by decide +kernel
theorem dX4_pass_32 : decode cX4_pass 32 = .ok (.new 52, 3) := by decide +kernel
theorem dX4_pass_35 : decode cX4_pass 35 = .ok (.dup, 1) := by decide +kernel
theorem dX4_pass_36 : decode cX4_pass 36 = .ok (.ldc 147, 2) := by decide +kernel
theorem dX4_pass_38 : decode cX4_pass 38 = .ok (.invokespecial 56, 3) := by decide +kernel
theorem dX4_pass_41 : decode cX4_pass 41 = .ok (.athrow, 1) := by decide +kernel
theorem dX4_pass_42 : decode cX4_pass 42 = .ok (.iconst 0, 1) := by decide +kernel
theorem dX4_pass_43 : decode cX4_pass 43 = .ok (.istore_n 2, 1) := by decide +kernel
theorem dX4_pass_44 : decode cX4_pass 44 = .ok (.iconst 0, 1) := by decide +kernel
theorem dX4_pass_45 : decode cX4_pass 45 = .ok (.istore_n 3, 1) := by decide +kernel
theorem dX4_pass_46 : decode cX4_pass 46 = .ok (.iload_n 3, 1) := by decide +kernel
theorem dX4_pass_47 : decode cX4_pass 47 = .ok (.iload_n 1, 1) := by decide +kernel
theorem dX4_pass_48 : decode cX4_pass 48 = .ok (.if_icmp .ge 30, 3) := by decide +kernel
theorem dX4_pass_51 : decode cX4_pass 51 = .ok (.iload_n 2, 1) := by decide +kernel
theorem dX4_pass_52 : decode cX4_pass 52 = .ok (.aload_n 0, 1) := by decide +kernel
theorem dX4_pass_53 : decode cX4_pass 53 = .ok (.invokevirtual 149, 3) := by decide +kernel
theorem dX4_pass_56 : decode cX4_pass 56 = .ok (.iadd, 1) := by decide +kernel
theorem dX4_pass_57 : decode cX4_pass 57 = .ok (.istore_n 2, 1) := by decide +kernel
theorem dX4_pass_58 : decode cX4_pass 58 = .ok (.aload_n 0, 1) := by decide +kernel
theorem dX4_pass_59 : decode cX4_pass 59 = .ok (.dup, 1) := by decide +kernel
theorem dX4_pass_60 : decode cX4_pass 60 = .ok (.getfield 115, 3) := by decide +kernel
theorem dX4_pass_63 : decode cX4_pass 63 = .ok (.iconst 1, 1) := by decide +kernel
theorem dX4_pass_64 : decode cX4_pass 64 = .ok (.iadd, 1) := by decide +kernel
theorem dX4_pass_65 : decode cX4_pass 65 = .ok (.putfield 115, 3) := by decide +kernel
theorem dX4_pass_68 : decode cX4_pass 68 = .ok (.aload_n 0, 1) := by decide +kernel
theorem dX4_pass_69 : decode cX4_pass 69 = .ok (.invokevirtual 152, 3) := by decide +kernel
theorem dX4_pass_72 : decode cX4_pass 72 = .ok (.iinc 3 1, 3) := by decide +kernel
theorem dX4_pass_75 : decode cX4_pass 75 = .ok (.goto (-29), 3) := by decide +kernel
theorem dX4_pass_78 : decode cX4_pass 78 = .ok (.iload_n 2, 1) := by decide +kernel
theorem dX4_pass_79 : decode cX4_pass 79 = .ok (.ireturn, 1) := by decide +kernel
theorem dX4_today_0 : decode cX4_today 0 = .ok (.aload_n 0, 1) := by decide +kernel
theorem dX4_today_1 : decode cX4_today 1 = .ok (.getfield 115, 3) := by decide +kernel
theorem dX4_today_4 : decode cX4_today 4 = .ok (.ireturn, 1) := by decide +kernel
theorem dX4_planned_0 : decode cX4_planned 0 = .ok (.aload_n 0, 1) := by decide +kernel
theorem dX4_planned_1 : decode cX4_planned 1 = .ok (.getfield 16, 3) := by decide +kernel
theorem dX4_planned_4 : decode cX4_planned 4 = .ok (.invokevirtual 48, 3) := by decide +kernel
theorem dX4_planned_7 : decode cX4_planned 7 = .ok (.ireturn, 1) := by decide +kernel
theorem dX4_drive_0 : decode cX4_drive 0 = .ok (.aload_n 0, 1) := by decide +kernel
theorem dX4_drive_1 : decode cX4_drive 1 = .ok (.iload_n 1, 1) := by decide +kernel
theorem dX4_drive_2 : decode cX4_drive 2 = .ok (.invokevirtual 155, 3) := by decide +kernel
theorem dX4_drive_5 : decode cX4_drive 5 = .ok (.aload_n 0, 1) := by decide +kernel
theorem dX4_drive_6 : decode cX4_drive 6 = .ok (.getfield 22, 3) := by decide +kernel
theorem dX4_drive_9 : decode cX4_drive 9 = .ok (.iconst (-1), 1) := by decide +kernel
theorem dX4_drive_10 : decode cX4_drive 10 = .ok (.iload_n 1, 1) := by decide +kernel
theorem dX4_drive_11 : decode cX4_drive 11 = .ok (.invokevirtual 158, 3) := by decide +kernel
theorem dX4_drive_14 : decode cX4_drive 14 = .ok (.ireturn, 1) := by decide +kernel
theorem dX4_visit_0 : decode cX4_visit 0 = .ok (.aload_n 0, 1) := by decide +kernel
theorem dX4_visit_1 : decode cX4_visit 1 = .ok (.iload_n 1, 1) := by decide +kernel
theorem dX4_visit_2 : decode cX4_visit 2 = .ok (.invokevirtual 155, 3) := by decide +kernel
theorem dX4_visit_5 : decode cX4_visit 5 = .ok (.iload_n 2, 1) := by decide +kernel
theorem dX4_visit_6 : decode cX4_visit 6 = .ok (.iconst 0, 1) := by decide +kernel
theorem dX4_visit_7 : decode cX4_visit 7 = .ok (.iload_n 1, 1) := by decide +kernel
theorem dX4_visit_8 : decode cX4_visit 8 = .ok (.invokestatic 161, 3) := by decide +kernel
theorem dX4_visit_11 : decode cX4_visit 11 = .ok (.iconst 1, 1) := by decide +kernel
theorem dX4_visit_12 : decode cX4_visit 12 = .ok (.isub, 1) := by decide +kernel
theorem dX4_visit_13 : decode cX4_visit 13 = .ok (.invokestatic 37, 3) := by decide +kernel
theorem dX4_visit_16 : decode cX4_visit 16 = .ok (.ifCond .eq 13, 3) := by decide +kernel
theorem dX4_visit_19 : decode cX4_visit 19 = .ok (.new 73, 3) := by decide +kernel
theorem dX4_visit_22 : decode cX4_visit 22 = .ok (.dup, 1) := by decide +kernel
theorem dX4_visit_23 : decode cX4_visit 23 = .ok (.ldc 166, 2) := by decide +kernel
theorem dX4_visit_25 : decode cX4_visit 25 = .ok (.invokespecial 77, 3) := by decide +kernel
theorem dX4_visit_28 : decode cX4_visit 28 = .ok (.athrow, 1) := by decide +kernel
theorem dX4_visit_29 : decode cX4_visit 29 = .ok (.iconst (-1), 1) := by decide +kernel
theorem dX4_visit_30 : decode cX4_visit 30 = .ok (.istore_n 3, 1) := by decide +kernel
theorem dX4_visit_31 : decode cX4_visit 31 = .ok (.iload_n 1, 1) := by decide +kernel
theorem dX4_visit_32 : decode cX4_visit 32 = .ok (.istore 4, 2) := by decide +kernel
theorem dX4_visit_34 : decode cX4_visit 34 = .ok (.iconst 0, 1) := by decide +kernel
theorem dX4_visit_35 : decode cX4_visit 35 = .ok (.istore 5, 2) := by decide +kernel
theorem dX4_visit_37 : decode cX4_visit 37 = .ok (.iload 5, 2) := by decide +kernel
theorem dX4_visit_39 : decode cX4_visit 39 = .ok (.iload_n 2, 1) := by decide +kernel
theorem dX4_visit_40 : decode cX4_visit 40 = .ok (.if_icmp .gt 28, 3) := by decide +kernel
theorem dX4_visit_43 : decode cX4_visit 43 = .ok (.aload_n 0, 1) := by decide +kernel
theorem dX4_visit_44 : decode cX4_visit 44 = .ok (.getfield 22, 3) := by decide +kernel
theorem dX4_visit_47 : decode cX4_visit 47 = .ok (.iload_n 3, 1) := by decide +kernel
theorem dX4_visit_48 : decode cX4_visit 48 = .ok (.iload 4, 2) := by decide +kernel
theorem dX4_visit_50 : decode cX4_visit 50 = .ok (.invokevirtual 168, 3) := by decide +kernel
theorem dX4_visit_53 : decode cX4_visit 53 = .ok (.istore_n 3, 1) := by decide +kernel
theorem dX4_visit_54 : decode cX4_visit 54 = .ok (.iload 4, 2) := by decide +kernel
theorem dX4_visit_56 : decode cX4_visit 56 = .ok (.iload_n 3, 1) := by decide +kernel
theorem dX4_visit_57 : decode cX4_visit 57 = .ok (.invokestatic 171, 3) := by decide +kernel
theorem dX4_visit_60 : decode cX4_visit 60 = .ok (.istore 4, 2) := by decide +kernel
theorem dX4_visit_62 : decode cX4_visit 62 = .ok (.iinc 5 1, 3) := by decide +kernel
theorem dX4_visit_65 : decode cX4_visit 65 = .ok (.goto (-28), 3) := by decide +kernel
theorem dX4_visit_68 : decode cX4_visit 68 = .ok (.iload_n 3, 1) := by decide +kernel
theorem dX4_visit_69 : decode cX4_visit 69 = .ok (.ireturn, 1) := by decide +kernel
theorem dX4_minutes_0 : decode cX4_minutes 0 = .ok (.aload_n 0, 1) := by decide +kernel
theorem dX4_minutes_1 : decode cX4_minutes 1 = .ok (.iload_n 1, 1) := by decide +kernel
theorem dX4_minutes_2 : decode cX4_minutes 2 = .ok (.invokevirtual 155, 3) := by decide +kernel
theorem dX4_minutes_5 : decode cX4_minutes 5 = .ok (.aload_n 0, 1) := by decide +kernel
theorem dX4_minutes_6 : decode cX4_minutes 6 = .ok (.invokevirtual 174, 3) := by decide +kernel
theorem dX4_minutes_9 : decode cX4_minutes 9 = .ok (.aload_n 0, 1) := by decide +kernel
theorem dX4_minutes_10 : decode cX4_minutes 10 = .ok (.iload_n 1, 1) := by decide +kernel
theorem dX4_minutes_11 : decode cX4_minutes 11 = .ok (.invokevirtual 177, 3) := by decide +kernel
theorem dX4_minutes_14 : decode cX4_minutes 14 = .ok (.ireturn, 1) := by decide +kernel
theorem dX4_best_0 : decode cX4_best 0 = .ok (.iload_n 1, 1) := by decide +kernel
theorem dX4_best_1 : decode cX4_best 1 = .ok (.iconst 0, 1) := by decide +kernel
theorem dX4_best_2 : decode cX4_best 2 = .ok (.sipush 5000, 3) := by decide +kernel
theorem dX4_best_5 : decode cX4_best 5 = .ok (.invokestatic 37, 3) := by decide +kernel
theorem dX4_best_8 : decode cX4_best 8 = .ok (.ifCond .eq 13, 3) := by decide +kernel
theorem dX4_best_11 : decode cX4_best 11 = .ok (.new 41, 3) := by decide +kernel
theorem dX4_best_14 : decode cX4_best 14 = .ok (.dup, 1) := by decide +kernel
theorem dX4_best_15 : decode cX4_best 15 = .ok (.ldc 180, 2) := by decide +kernel
theorem dX4_best_17 : decode cX4_best 17 = .ok (.invokespecial 45, 3) := by decide +kernel
theorem dX4_best_20 : decode cX4_best 20 = .ok (.athrow, 1) := by decide +kernel
theorem dX4_best_21 : decode cX4_best 21 = .ok (.iload_n 2, 1) := by decide +kernel
theorem dX4_best_22 : decode cX4_best 22 = .ok (.invokestatic 182, 3) := by decide +kernel
theorem dX4_best_25 : decode cX4_best 25 = .ok (.aload_n 0, 1) := by decide +kernel
theorem dX4_best_26 : decode cX4_best 26 = .ok (.invokevirtual 174, 3) := by decide +kernel
theorem dX4_best_29 : decode cX4_best 29 = .ok (.iconst 0, 1) := by decide +kernel
theorem dX4_best_30 : decode cX4_best 30 = .ok (.istore_n 3, 1) := by decide +kernel
theorem dX4_best_31 : decode cX4_best 31 = .ok (.iconst 0, 1) := by decide +kernel
theorem dX4_best_32 : decode cX4_best 32 = .ok (.istore 4, 2) := by decide +kernel
theorem dX4_best_34 : decode cX4_best 34 = .ok (.iconst 0, 1) := by decide +kernel
theorem dX4_best_35 : decode cX4_best 35 = .ok (.istore 5, 2) := by decide +kernel
theorem dX4_best_37 : decode cX4_best 37 = .ok (.iconst 1, 1) := by decide +kernel
theorem dX4_best_38 : decode cX4_best 38 = .ok (.aload_n 0, 1) := by decide +kernel
theorem dX4_best_39 : decode cX4_best 39 = .ok (.getfield 10, 3) := by decide +kernel
theorem dX4_best_42 : decode cX4_best 42 = .ok (.invokevirtual 48, 3) := by decide +kernel
theorem dX4_best_45 : decode cX4_best 45 = .ok (.ishl, 1) := by decide +kernel
theorem dX4_best_46 : decode cX4_best 46 = .ok (.istore 6, 2) := by decide +kernel
theorem dX4_best_48 : decode cX4_best 48 = .ok (.iconst 1, 1) := by decide +kernel
theorem dX4_best_49 : decode cX4_best 49 = .ok (.istore 7, 2) := by decide +kernel
theorem dX4_best_51 : decode cX4_best 51 = .ok (.iload 7, 2) := by decide +kernel
theorem dX4_best_53 : decode cX4_best 53 = .ok (.iload 6, 2) := by decide +kernel
theorem dX4_best_55 : decode cX4_best 55 = .ok (.if_icmp .ge 91, 3) := by decide +kernel
theorem dX4_best_58 : decode cX4_best 58 = .ok (.aload_n 0, 1) := by decide +kernel
theorem dX4_best_59 : decode cX4_best 59 = .ok (.iload 7, 2) := by decide +kernel
theorem dX4_best_61 : decode cX4_best 61 = .ok (.invokevirtual 177, 3) := by decide +kernel
theorem dX4_best_64 : decode cX4_best 64 = .ok (.istore 8, 2) := by decide +kernel
theorem dX4_best_66 : decode cX4_best 66 = .ok (.iload 7, 2) := by decide +kernel
theorem dX4_best_68 : decode cX4_best 68 = .ok (.aload_n 0, 1) := by decide +kernel
theorem dX4_best_69 : decode cX4_best 69 = .ok (.getfield 33, 3) := by decide +kernel
theorem dX4_best_72 : decode cX4_best 72 = .ok (.invokestatic 185, 3) := by decide +kernel
theorem dX4_best_75 : decode cX4_best 75 = .ok (.istore 9, 2) := by decide +kernel
theorem dX4_best_77 : decode cX4_best 77 = .ok (.iload 8, 2) := by decide +kernel
theorem dX4_best_79 : decode cX4_best 79 = .ok (.iload_n 1, 1) := by decide +kernel
theorem dX4_best_80 : decode cX4_best 80 = .ok (.if_icmp .gt 20, 3) := by decide +kernel
theorem dX4_best_83 : decode cX4_best 83 = .ok (.iload 7, 2) := by decide +kernel
theorem dX4_best_85 : decode cX4_best 85 = .ok (.aload_n 0, 1) := by decide +kernel
theorem dX4_best_86 : decode cX4_best 86 = .ok (.getfield 30, 3) := by decide +kernel
theorem dX4_best_89 : decode cX4_best 89 = .ok (.invokestatic 185, 3) := by decide +kernel
theorem dX4_best_92 : decode cX4_best 92 = .ok (.iload_n 2, 1) := by decide +kernel
theorem dX4_best_93 : decode cX4_best 93 = .ok (.if_icmp .gt 7, 3) := by decide +kernel
theorem dX4_best_96 : decode cX4_best 96 = .ok (.iconst 1, 1) := by decide +kernel
theorem dX4_best_97 : decode cX4_best 97 = .ok (.goto 4, 3) := by decide +kernel
theorem dX4_best_100 : decode cX4_best 100 = .ok (.iconst 0, 1) := by decide +kernel
theorem dX4_best_101 : decode cX4_best 101 = .ok (.istore 10, 2) := by decide +kernel
theorem dX4_best_103 : decode cX4_best 103 = .ok (.iload 10, 2) := by decide +kernel
theorem dX4_best_105 : decode cX4_best 105 = .ok (.ifCond .eq 35, 3) := by decide +kernel
theorem dX4_best_108 : decode cX4_best 108 = .ok (.iload 9, 2) := by decide +kernel
theorem dX4_best_110 : decode cX4_best 110 = .ok (.iload 4, 2) := by decide +kernel
theorem dX4_best_112 : decode cX4_best 112 = .ok (.if_icmp .gt 17, 3) := by decide +kernel
theorem dX4_best_115 : decode cX4_best 115 = .ok (.iload 9, 2) := by decide +kernel
theorem dX4_best_117 : decode cX4_best 117 = .ok (.iload 4, 2) := by decide +kernel
theorem dX4_best_119 : decode cX4_best 119 = .ok (.if_icmp .ne 21, 3) := by decide +kernel
theorem dX4_best_122 : decode cX4_best 122 = .ok (.iload 8, 2) := by decide +kernel
theorem dX4_best_124 : decode cX4_best 124 = .ok (.iload 5, 2) := by decide +kernel
theorem dX4_best_126 : decode cX4_best 126 = .ok (.if_icmp .ge 14, 3) := by decide +kernel
theorem dX4_best_129 : decode cX4_best 129 = .ok (.iload 7, 2) := by decide +kernel
theorem dX4_best_131 : decode cX4_best 131 = .ok (.istore_n 3, 1) := by decide +kernel
theorem dX4_best_132 : decode cX4_best 132 = .ok (.iload 9, 2) := by decide +kernel
theorem dX4_best_134 : decode cX4_best 134 = .ok (.istore 4, 2) := by decide +kernel
theorem dX4_best_136 : decode cX4_best 136 = .ok (.iload 8, 2) := by decide +kernel
theorem dX4_best_138 : decode cX4_best 138 = .ok (.istore 5, 2) := by decide +kernel
theorem dX4_best_140 : decode cX4_best 140 = .ok (.iinc 7 1, 3) := by decide +kernel
theorem dX4_best_143 : decode cX4_best 143 = .ok (.goto (-92), 3) := by decide +kernel
theorem dX4_best_146 : decode cX4_best 146 = .ok (.iload_n 3, 1) := by decide +kernel
theorem dX4_best_147 : decode cX4_best 147 = .ok (.ireturn, 1) := by decide +kernel
theorem dX4_go_0 : decode cX4_go 0 = .ok (.aload_n 0, 1) := by decide +kernel
theorem dX4_go_1 : decode cX4_go 1 = .ok (.iload_n 1, 1) := by decide +kernel
theorem dX4_go_2 : decode cX4_go 2 = .ok (.invokevirtual 155, 3) := by decide +kernel
theorem dX4_go_5 : decode cX4_go 5 = .ok (.iload_n 2, 1) := by decide +kernel
theorem dX4_go_6 : decode cX4_go 6 = .ok (.invokestatic 182, 3) := by decide +kernel
theorem dX4_go_9 : decode cX4_go 9 = .ok (.aload_n 0, 1) := by decide +kernel
theorem dX4_go_10 : decode cX4_go 10 = .ok (.invokevirtual 174, 3) := by decide +kernel
theorem dX4_go_13 : decode cX4_go 13 = .ok (.aload_n 0, 1) := by decide +kernel
theorem dX4_go_14 : decode cX4_go 14 = .ok (.dup, 1) := by decide +kernel
theorem dX4_go_15 : decode cX4_go 15 = .ok (.getfield 189, 3) := by decide +kernel
theorem dX4_go_18 : decode cX4_go 18 = .ok (.aload_n 0, 1) := by decide +kernel
theorem dX4_go_19 : decode cX4_go 19 = .ok (.iload_n 1, 1) := by decide +kernel
theorem dX4_go_20 : decode cX4_go 20 = .ok (.invokevirtual 177, 3) := by decide +kernel
theorem dX4_go_23 : decode cX4_go 23 = .ok (.i2l, 1) := by decide +kernel
theorem dX4_go_24 : decode cX4_go 24 = .ok (.ladd, 1) := by decide +kernel
theorem dX4_go_25 : decode cX4_go 25 = .ok (.putfield 189, 3) := by decide +kernel
theorem dX4_go_28 : decode cX4_go 28 = .ok (.aload_n 0, 1) := by decide +kernel
theorem dX4_go_29 : decode cX4_go 29 = .ok (.dup, 1) := by decide +kernel
theorem dX4_go_30 : decode cX4_go 30 = .ok (.getfield 193, 3) := by decide +kernel
theorem dX4_go_33 : decode cX4_go 33 = .ok (.lconst 1, 1) := by decide +kernel
theorem dX4_go_34 : decode cX4_go 34 = .ok (.ladd, 1) := by decide +kernel
theorem dX4_go_35 : decode cX4_go 35 = .ok (.putfield 193, 3) := by decide +kernel
theorem dX4_go_38 : decode cX4_go 38 = .ok (.iload_n 1, 1) := by decide +kernel
theorem dX4_go_39 : decode cX4_go 39 = .ok (.istore_n 3, 1) := by decide +kernel
theorem dX4_go_40 : decode cX4_go 40 = .ok (.iload_n 2, 1) := by decide +kernel
theorem dX4_go_41 : decode cX4_go 41 = .ok (.istore 4, 2) := by decide +kernel
theorem dX4_go_43 : decode cX4_go 43 = .ok (.aload_n 0, 1) := by decide +kernel
theorem dX4_go_44 : decode cX4_go 44 = .ok (.getfield 22, 3) := by decide +kernel
theorem dX4_go_47 : decode cX4_go 47 = .ok (.iconst (-1), 1) := by decide +kernel
theorem dX4_go_48 : decode cX4_go 48 = .ok (.iload_n 3, 1) := by decide +kernel
theorem dX4_go_49 : decode cX4_go 49 = .ok (.invokevirtual 168, 3) := by decide +kernel
theorem dX4_go_52 : decode cX4_go 52 = .ok (.istore 5, 2) := by decide +kernel
theorem dX4_go_54 : decode cX4_go 54 = .ok (.iconst 0, 1) := by decide +kernel
theorem dX4_go_55 : decode cX4_go 55 = .ok (.istore 6, 2) := by decide +kernel
theorem dX4_go_57 : decode cX4_go 57 = .ok (.iload 6, 2) := by decide +kernel
theorem dX4_go_59 : decode cX4_go 59 = .ok (.bipush 8, 2) := by decide +kernel
theorem dX4_go_61 : decode cX4_go 61 = .ok (.if_icmp .ge 60, 3) := by decide +kernel
theorem dX4_go_64 : decode cX4_go 64 = .ok (.aload_n 0, 1) := by decide +kernel
theorem dX4_go_65 : decode cX4_go 65 = .ok (.iload 5, 2) := by decide +kernel
theorem dX4_go_67 : decode cX4_go 67 = .ok (.invokevirtual 196, 3) := by decide +kernel
theorem dX4_go_70 : decode cX4_go 70 = .ok (.ifCond .ne 51, 3) := by decide +kernel
theorem dX4_go_73 : decode cX4_go 73 = .ok (.iload 4, 2) := by decide +kernel
theorem dX4_go_75 : decode cX4_go 75 = .ok (.aload_n 0, 1) := by decide +kernel
theorem dX4_go_76 : decode cX4_go 76 = .ok (.aload_n 0, 1) := by decide +kernel
theorem dX4_go_77 : decode cX4_go 77 = .ok (.getfield 10, 3) := by decide +kernel
theorem dX4_go_80 : decode cX4_go 80 = .ok (.iload 5, 2) := by decide +kernel
theorem dX4_go_82 : decode cX4_go 82 = .ok (.invokevirtual 199, 3) := by decide +kernel
theorem dX4_go_85 : decode cX4_go 85 = .ok (.checkcast 57, 3) := by decide +kernel
theorem dX4_go_88 : decode cX4_go 88 = .ok (.iload 4, 2) := by decide +kernel
theorem dX4_go_90 : decode cX4_go 90 = .ok (.invokevirtual 203, 3) := by decide +kernel
theorem dX4_go_93 : decode cX4_go 93 = .ok (.isub, 1) := by decide +kernel
theorem dX4_go_94 : decode cX4_go 94 = .ok (.istore 4, 2) := by decide +kernel
theorem dX4_go_96 : decode cX4_go 96 = .ok (.iload_n 3, 1) := by decide +kernel
theorem dX4_go_97 : decode cX4_go 97 = .ok (.iload 5, 2) := by decide +kernel
theorem dX4_go_99 : decode cX4_go 99 = .ok (.invokestatic 171, 3) := by decide +kernel
theorem dX4_go_102 : decode cX4_go 102 = .ok (.istore_n 3, 1) := by decide +kernel
theorem dX4_go_103 : decode cX4_go 103 = .ok (.aload_n 0, 1) := by decide +kernel
theorem dX4_go_104 : decode cX4_go 104 = .ok (.getfield 22, 3) := by decide +kernel
theorem dX4_go_107 : decode cX4_go 107 = .ok (.iload 5, 2) := by decide +kernel
theorem dX4_go_109 : decode cX4_go 109 = .ok (.iload_n 3, 1) := by decide +kernel
theorem dX4_go_110 : decode cX4_go 110 = .ok (.invokevirtual 168, 3) := by decide +kernel
theorem dX4_go_113 : decode cX4_go 113 = .ok (.istore 5, 2) := by decide +kernel
theorem dX4_go_115 : decode cX4_go 115 = .ok (.iinc 6 1, 3) := by decide +kernel
theorem dX4_go_118 : decode cX4_go 118 = .ok (.goto (-61), 3) := by decide +kernel
theorem dX4_go_121 : decode cX4_go 121 = .ok (.iload 4, 2) := by decide +kernel
theorem dX4_go_123 : decode cX4_go 123 = .ok (.ireturn, 1) := by decide +kernel
theorem dX4_total_0 : decode cX4_total 0 = .ok (.iload_n 1, 1) := by decide +kernel
theorem dX4_total_1 : decode cX4_total 1 = .ok (.iconst 0, 1) := by decide +kernel
theorem dX4_total_2 : decode cX4_total 2 = .ok (.iconst 3, 1) := by decide +kernel
theorem dX4_total_3 : decode cX4_total 3 = .ok (.invokestatic 37, 3) := by decide +kernel
theorem dX4_total_6 : decode cX4_total 6 = .ok (.ifCond .eq 13, 3) := by decide +kernel
theorem dX4_total_9 : decode cX4_total 9 = .ok (.new 73, 3) := by decide +kernel
theorem dX4_total_12 : decode cX4_total 12 = .ok (.dup, 1) := by decide +kernel
theorem dX4_total_13 : decode cX4_total 13 = .ok (.ldc 207, 2) := by decide +kernel
theorem dX4_total_15 : decode cX4_total 15 = .ok (.invokespecial 77, 3) := by decide +kernel
theorem dX4_total_18 : decode cX4_total 18 = .ok (.athrow, 1) := by decide +kernel
theorem dX4_total_19 : decode cX4_total 19 = .ok (.iload_n 1, 1) := by decide +kernel
theorem dX4_total_20 : decode cX4_total 20 = .ok (.tableswitch 43 0 2 #[28, 33, 38], 28) := by decide +kernel
theorem dX4_total_48 : decode cX4_total 48 = .ok (.aload_n 0, 1) := by decide +kernel
theorem dX4_total_49 : decode cX4_total 49 = .ok (.getfield 209, 3) := by decide +kernel
theorem dX4_total_52 : decode cX4_total 52 = .ok (.lreturn, 1) := by decide +kernel
theorem dX4_total_53 : decode cX4_total 53 = .ok (.aload_n 0, 1) := by decide +kernel
theorem dX4_total_54 : decode cX4_total 54 = .ok (.getfield 189, 3) := by decide +kernel
theorem dX4_total_57 : decode cX4_total 57 = .ok (.lreturn, 1) := by decide +kernel
theorem dX4_total_58 : decode cX4_total 58 = .ok (.aload_n 0, 1) := by decide +kernel
theorem dX4_total_59 : decode cX4_total 59 = .ok (.getfield 212, 3) := by decide +kernel
theorem dX4_total_62 : decode cX4_total 62 = .ok (.lreturn, 1) := by decide +kernel
theorem dX4_total_63 : decode cX4_total 63 = .ok (.aload_n 0, 1) := by decide +kernel
theorem dX4_total_64 : decode cX4_total 64 = .ok (.getfield 193, 3) := by decide +kernel
theorem dX4_total_67 : decode cX4_total 67 = .ok (.lreturn, 1) := by decide +kernel
theorem dX4_filled_0 : decode cX4_filled 0 = .ok (.iconst 0, 1) := by decide +kernel
theorem dX4_filled_1 : decode cX4_filled 1 = .ok (.istore_n 1, 1) := by decide +kernel
theorem dX4_filled_2 : decode cX4_filled 2 = .ok (.iconst 0, 1) := by decide +kernel
theorem dX4_filled_3 : decode cX4_filled 3 = .ok (.istore_n 2, 1) := by decide +kernel
theorem dX4_filled_4 : decode cX4_filled 4 = .ok (.iconst 0, 1) := by decide +kernel
theorem dX4_filled_5 : decode cX4_filled 5 = .ok (.istore_n 3, 1) := by decide +kernel
theorem dX4_filled_6 : decode cX4_filled 6 = .ok (.iload_n 3, 1) := by decide +kernel
theorem dX4_filled_7 : decode cX4_filled 7 = .ok (.aload_n 0, 1) := by decide +kernel
theorem dX4_filled_8 : decode cX4_filled 8 = .ok (.getfield 10, 3) := by decide +kernel
theorem dX4_filled_11 : decode cX4_filled 11 = .ok (.invokevirtual 48, 3) := by decide +kernel
theorem dX4_filled_14 : decode cX4_filled 14 = .ok (.if_icmp .ge 66, 3) := by decide +kernel
theorem dX4_filled_17 : decode cX4_filled 17 = .ok (.aload_n 0, 1) := by decide +kernel
theorem dX4_filled_18 : decode cX4_filled 18 = .ok (.getfield 10, 3) := by decide +kernel
theorem dX4_filled_21 : decode cX4_filled 21 = .ok (.iload_n 3, 1) := by decide +kernel
theorem dX4_filled_22 : decode cX4_filled 22 = .ok (.invokevirtual 199, 3) := by decide +kernel
theorem dX4_filled_25 : decode cX4_filled 25 = .ok (.checkcast 57, 3) := by decide +kernel
theorem dX4_filled_28 : decode cX4_filled 28 = .ok (.astore 4, 2) := by decide +kernel
theorem dX4_filled_30 : decode cX4_filled 30 = .ok (.iconst 0, 1) := by decide +kernel
theorem dX4_filled_31 : decode cX4_filled 31 = .ok (.istore 5, 2) := by decide +kernel
theorem dX4_filled_33 : decode cX4_filled 33 = .ok (.iload 5, 2) := by decide +kernel
theorem dX4_filled_35 : decode cX4_filled 35 = .ok (.bipush 6, 2) := by decide +kernel
theorem dX4_filled_37 : decode cX4_filled 37 = .ok (.if_icmp .ge 37, 3) := by decide +kernel
theorem dX4_filled_40 : decode cX4_filled 40 = .ok (.iload_n 1, 1) := by decide +kernel
theorem dX4_filled_41 : decode cX4_filled 41 = .ok (.aload 4, 2) := by decide +kernel
theorem dX4_filled_43 : decode cX4_filled 43 = .ok (.getfield 215, 3) := by decide +kernel
theorem dX4_filled_46 : decode cX4_filled 46 = .ok (.iload 5, 2) := by decide +kernel
theorem dX4_filled_48 : decode cX4_filled 48 = .ok (.aaload, 1) := by decide +kernel
theorem dX4_filled_49 : decode cX4_filled 49 = .ok (.getfield 104, 3) := by decide +kernel
theorem dX4_filled_52 : decode cX4_filled 52 = .ok (.iadd, 1) := by decide +kernel
theorem dX4_filled_53 : decode cX4_filled 53 = .ok (.istore_n 1, 1) := by decide +kernel
theorem dX4_filled_54 : decode cX4_filled 54 = .ok (.iload_n 2, 1) := by decide +kernel
theorem dX4_filled_55 : decode cX4_filled 55 = .ok (.aload 4, 2) := by decide +kernel
theorem dX4_filled_57 : decode cX4_filled 57 = .ok (.getfield 215, 3) := by decide +kernel
theorem dX4_filled_60 : decode cX4_filled 60 = .ok (.iload 5, 2) := by decide +kernel
theorem dX4_filled_62 : decode cX4_filled 62 = .ok (.aaload, 1) := by decide +kernel
theorem dX4_filled_63 : decode cX4_filled 63 = .ok (.getfield 98, 3) := by decide +kernel
theorem dX4_filled_66 : decode cX4_filled 66 = .ok (.iadd, 1) := by decide +kernel
theorem dX4_filled_67 : decode cX4_filled 67 = .ok (.istore_n 2, 1) := by decide +kernel
theorem dX4_filled_68 : decode cX4_filled 68 = .ok (.iinc 5 1, 3) := by decide +kernel
theorem dX4_filled_71 : decode cX4_filled 71 = .ok (.goto (-38), 3) := by decide +kernel
theorem dX4_filled_74 : decode cX4_filled 74 = .ok (.iinc 3 1, 3) := by decide +kernel
theorem dX4_filled_77 : decode cX4_filled 77 = .ok (.goto (-71), 3) := by decide +kernel
theorem dX4_filled_80 : decode cX4_filled 80 = .ok (.iload_n 2, 1) := by decide +kernel
theorem dX4_filled_81 : decode cX4_filled 81 = .ok (.ifCond .ne 5, 3) := by decide +kernel
theorem dX4_filled_84 : decode cX4_filled 84 = .ok (.dconst 1, 1) := by decide +kernel
theorem dX4_filled_85 : decode cX4_filled 85 = .ok (.dreturn, 1) := by decide +kernel
theorem dX4_filled_86 : decode cX4_filled 86 = .ok (.iload_n 1, 1) := by decide +kernel
theorem dX4_filled_87 : decode cX4_filled 87 = .ok (.i2d, 1) := by decide +kernel
theorem dX4_filled_88 : decode cX4_filled 88 = .ok (.iload_n 2, 1) := by decide +kernel
theorem dX4_filled_89 : decode cX4_filled 89 = .ok (.i2d, 1) := by decide +kernel
theorem dX4_filled_90 : decode cX4_filled 90 = .ok (.ddiv, 1) := by decide +kernel
theorem dX4_filled_91 : decode cX4_filled 91 = .ok (.dreturn, 1) := by decide +kernel
theorem dX4_digest_0 : decode cX4_digest 0 = .ok (.aload_n 0, 1) := by decide +kernel
theorem dX4_digest_1 : decode cX4_digest 1 = .ok (.getfield 10, 3) := by decide +kernel
theorem dX4_digest_4 : decode cX4_digest 4 = .ok (.invokevirtual 48, 3) := by decide +kernel
theorem dX4_digest_7 : decode cX4_digest 7 = .ok (.istore_n 1, 1) := by decide +kernel
theorem dX4_digest_8 : decode cX4_digest 8 = .ok (.ldc2_w 219, 3) := by decide +kernel
theorem dX4_digest_11 : decode cX4_digest 11 = .ok (.aload_n 0, 1) := by decide +kernel
theorem dX4_digest_12 : decode cX4_digest 12 = .ok (.getfield 115, 3) := by decide +kernel
theorem dX4_digest_15 : decode cX4_digest 15 = .ok (.i2l, 1) := by decide +kernel
theorem dX4_digest_16 : decode cX4_digest 16 = .ok (.invokestatic 221, 3) := by decide +kernel
theorem dX4_digest_19 : decode cX4_digest 19 = .ok (.iload_n 1, 1) := by decide +kernel
theorem dX4_digest_20 : decode cX4_digest 20 = .ok (.i2l, 1) := by decide +kernel
theorem dX4_digest_21 : decode cX4_digest 21 = .ok (.invokestatic 221, 3) := by decide +kernel
theorem dX4_digest_24 : decode cX4_digest 24 = .ok (.lstore_n 2, 1) := by decide +kernel
theorem dX4_digest_25 : decode cX4_digest 25 = .ok (.iconst 0, 1) := by decide +kernel
theorem dX4_digest_26 : decode cX4_digest 26 = .ok (.istore 4, 2) := by decide +kernel
theorem dX4_digest_28 : decode cX4_digest 28 = .ok (.iload 4, 2) := by decide +kernel
theorem dX4_digest_30 : decode cX4_digest 30 = .ok (.iload_n 1, 1) := by decide +kernel
theorem dX4_digest_31 : decode cX4_digest 31 = .ok (.if_icmp .ge 42, 3) := by decide +kernel
theorem dX4_digest_34 : decode cX4_digest 34 = .ok (.iconst (-1), 1) := by decide +kernel
theorem dX4_digest_35 : decode cX4_digest 35 = .ok (.istore 5, 2) := by decide +kernel
theorem dX4_digest_37 : decode cX4_digest 37 = .ok (.iload 5, 2) := by decide +kernel
theorem dX4_digest_39 : decode cX4_digest 39 = .ok (.iload 4, 2) := by decide +kernel
theorem dX4_digest_41 : decode cX4_digest 41 = .ok (.if_icmp .ge 26, 3) := by decide +kernel
theorem dX4_digest_44 : decode cX4_digest 44 = .ok (.lload_n 2, 1) := by decide +kernel
theorem dX4_digest_45 : decode cX4_digest 45 = .ok (.aload_n 0, 1) := by decide +kernel
theorem dX4_digest_46 : decode cX4_digest 46 = .ok (.getfield 22, 3) := by decide +kernel
theorem dX4_digest_49 : decode cX4_digest 49 = .ok (.iload 5, 2) := by decide +kernel
theorem dX4_digest_51 : decode cX4_digest 51 = .ok (.iload 4, 2) := by decide +kernel
theorem dX4_digest_53 : decode cX4_digest 53 = .ok (.invokevirtual 82, 3) := by decide +kernel
theorem dX4_digest_56 : decode cX4_digest 56 = .ok (.i2l, 1) := by decide +kernel
theorem dX4_digest_57 : decode cX4_digest 57 = .ok (.invokestatic 221, 3) := by decide +kernel
theorem dX4_digest_60 : decode cX4_digest 60 = .ok (.lstore_n 2, 1) := by decide +kernel
theorem dX4_digest_61 : decode cX4_digest 61 = .ok (.iinc 5 1, 3) := by decide +kernel
theorem dX4_digest_64 : decode cX4_digest 64 = .ok (.goto (-27), 3) := by decide +kernel
theorem dX4_digest_67 : decode cX4_digest 67 = .ok (.iinc 4 1, 3) := by decide +kernel
theorem dX4_digest_70 : decode cX4_digest 70 = .ok (.goto (-42), 3) := by decide +kernel
theorem dX4_digest_73 : decode cX4_digest 73 = .ok (.iconst 0, 1) := by decide +kernel
theorem dX4_digest_74 : decode cX4_digest 74 = .ok (.istore 4, 2) := by decide +kernel
theorem dX4_digest_76 : decode cX4_digest 76 = .ok (.iload 4, 2) := by decide +kernel
theorem dX4_digest_78 : decode cX4_digest 78 = .ok (.iload_n 1, 1) := by decide +kernel
theorem dX4_digest_79 : decode cX4_digest 79 = .ok (.if_icmp .ge 26, 3) := by decide +kernel
theorem dX4_digest_82 : decode cX4_digest 82 = .ok (.lload_n 2, 1) := by decide +kernel
theorem dX4_digest_83 : decode cX4_digest 83 = .ok (.aload_n 0, 1) := by decide +kernel
theorem dX4_digest_84 : decode cX4_digest 84 = .ok (.getfield 10, 3) := by decide +kernel
theorem dX4_digest_87 : decode cX4_digest 87 = .ok (.iload 4, 2) := by decide +kernel
theorem dX4_digest_89 : decode cX4_digest 89 = .ok (.invokevirtual 199, 3) := by decide +kernel
theorem dX4_digest_92 : decode cX4_digest 92 = .ok (.checkcast 57, 3) := by decide +kernel
theorem dX4_digest_95 : decode cX4_digest 95 = .ok (.invokestatic 225, 3) := by decide +kernel
theorem dX4_digest_98 : decode cX4_digest 98 = .ok (.lstore_n 2, 1) := by decide +kernel
theorem dX4_digest_99 : decode cX4_digest 99 = .ok (.iinc 4 1, 3) := by decide +kernel
theorem dX4_digest_102 : decode cX4_digest 102 = .ok (.goto (-26), 3) := by decide +kernel
theorem dX4_digest_105 : decode cX4_digest 105 = .ok (.lload_n 2, 1) := by decide +kernel
theorem dX4_digest_106 : decode cX4_digest 106 = .ok (.aload_n 0, 1) := by decide +kernel
theorem dX4_digest_107 : decode cX4_digest 107 = .ok (.getfield 16, 3) := by decide +kernel
theorem dX4_digest_110 : decode cX4_digest 110 = .ok (.invokevirtual 48, 3) := by decide +kernel
theorem dX4_digest_113 : decode cX4_digest 113 = .ok (.i2l, 1) := by decide +kernel
theorem dX4_digest_114 : decode cX4_digest 114 = .ok (.invokestatic 221, 3) := by decide +kernel
theorem dX4_digest_117 : decode cX4_digest 117 = .ok (.lstore_n 2, 1) := by decide +kernel
theorem dX4_digest_118 : decode cX4_digest 118 = .ok (.lload_n 2, 1) := by decide +kernel
theorem dX4_digest_119 : decode cX4_digest 119 = .ok (.aload_n 0, 1) := by decide +kernel
theorem dX4_digest_120 : decode cX4_digest 120 = .ok (.getfield 209, 3) := by decide +kernel
theorem dX4_digest_123 : decode cX4_digest 123 = .ok (.invokestatic 221, 3) := by decide +kernel
theorem dX4_digest_126 : decode cX4_digest 126 = .ok (.aload_n 0, 1) := by decide +kernel
theorem dX4_digest_127 : decode cX4_digest 127 = .ok (.getfield 189, 3) := by decide +kernel
theorem dX4_digest_130 : decode cX4_digest 130 = .ok (.invokestatic 221, 3) := by decide +kernel
theorem dX4_digest_133 : decode cX4_digest 133 = .ok (.lstore_n 2, 1) := by decide +kernel
theorem dX4_digest_134 : decode cX4_digest 134 = .ok (.lload_n 2, 1) := by decide +kernel
theorem dX4_digest_135 : decode cX4_digest 135 = .ok (.aload_n 0, 1) := by decide +kernel
theorem dX4_digest_136 : decode cX4_digest 136 = .ok (.getfield 212, 3) := by decide +kernel
theorem dX4_digest_139 : decode cX4_digest 139 = .ok (.invokestatic 221, 3) := by decide +kernel
theorem dX4_digest_142 : decode cX4_digest 142 = .ok (.aload_n 0, 1) := by decide +kernel
theorem dX4_digest_143 : decode cX4_digest 143 = .ok (.getfield 193, 3) := by decide +kernel
theorem dX4_digest_146 : decode cX4_digest 146 = .ok (.invokestatic 221, 3) := by decide +kernel
theorem dX4_digest_149 : decode cX4_digest 149 = .ok (.lreturn, 1) := by decide +kernel
theorem dX4_outside_0 : decode cX4_outside 0 = .ok (.iload_n 0, 1) := by decide +kernel
theorem dX4_outside_1 : decode cX4_outside 1 = .ok (.iload_n 1, 1) := by decide +kernel
theorem dX4_outside_2 : decode cX4_outside 2 = .ok (.if_icmp .lt 8, 3) := by decide +kernel
theorem dX4_outside_5 : decode cX4_outside 5 = .ok (.iload_n 0, 1) := by decide +kernel
theorem dX4_outside_6 : decode cX4_outside 6 = .ok (.iload_n 2, 1) := by decide +kernel
theorem dX4_outside_7 : decode cX4_outside 7 = .ok (.if_icmp .le 7, 3) := by decide +kernel
theorem dX4_outside_10 : decode cX4_outside 10 = .ok (.iconst 1, 1) := by decide +kernel
theorem dX4_outside_11 : decode cX4_outside 11 = .ok (.goto 4, 3) := by decide +kernel
theorem dX4_outside_14 : decode cX4_outside 14 = .ok (.iconst 0, 1) := by decide +kernel
theorem dX4_outside_15 : decode cX4_outside 15 = .ok (.ireturn, 1) := by decide +kernel
theorem dX4_contains_0 : decode cX4_contains 0 = .ok (.iload_n 0, 1) := by decide +kernel
theorem dX4_contains_1 : decode cX4_contains 1 = .ok (.iload_n 1, 1) := by decide +kernel
theorem dX4_contains_2 : decode cX4_contains 2 = .ok (.ishr, 1) := by decide +kernel
theorem dX4_contains_3 : decode cX4_contains 3 = .ok (.iconst 1, 1) := by decide +kernel
theorem dX4_contains_4 : decode cX4_contains 4 = .ok (.iand, 1) := by decide +kernel
theorem dX4_contains_5 : decode cX4_contains 5 = .ok (.ifCond .eq 7, 3) := by decide +kernel
theorem dX4_contains_8 : decode cX4_contains 8 = .ok (.iconst 1, 1) := by decide +kernel
theorem dX4_contains_9 : decode cX4_contains 9 = .ok (.goto 4, 3) := by decide +kernel
theorem dX4_contains_12 : decode cX4_contains 12 = .ok (.iconst 0, 1) := by decide +kernel
theorem dX4_contains_13 : decode cX4_contains 13 = .ok (.ireturn, 1) := by decide +kernel
theorem dX4_without_0 : decode cX4_without 0 = .ok (.iload_n 0, 1) := by decide +kernel
theorem dX4_without_1 : decode cX4_without 1 = .ok (.iconst 1, 1) := by decide +kernel
theorem dX4_without_2 : decode cX4_without 2 = .ok (.iload_n 1, 1) := by decide +kernel
theorem dX4_without_3 : decode cX4_without 3 = .ok (.ishl, 1) := by decide +kernel
theorem dX4_without_4 : decode cX4_without 4 = .ok (.iconst (-1), 1) := by decide +kernel
theorem dX4_without_5 : decode cX4_without 5 = .ok (.ixor, 1) := by decide +kernel
theorem dX4_without_6 : decode cX4_without 6 = .ok (.iand, 1) := by decide +kernel
theorem dX4_without_7 : decode cX4_without 7 = .ok (.ireturn, 1) := by decide +kernel
theorem dX4_sumOver_0 : decode cX4_sumOver 0 = .ok (.iconst 0, 1) := by decide +kernel
theorem dX4_sumOver_1 : decode cX4_sumOver 1 = .ok (.istore_n 2, 1) := by decide +kernel
theorem dX4_sumOver_2 : decode cX4_sumOver 2 = .ok (.iconst 0, 1) := by decide +kernel
theorem dX4_sumOver_3 : decode cX4_sumOver 3 = .ok (.istore_n 3, 1) := by decide +kernel
theorem dX4_sumOver_4 : decode cX4_sumOver 4 = .ok (.iload_n 3, 1) := by decide +kernel
theorem dX4_sumOver_5 : decode cX4_sumOver 5 = .ok (.aload_n 1, 1) := by decide +kernel
theorem dX4_sumOver_6 : decode cX4_sumOver 6 = .ok (.arraylength, 1) := by decide +kernel
theorem dX4_sumOver_7 : decode cX4_sumOver 7 = .ok (.if_icmp .ge 23, 3) := by decide +kernel
theorem dX4_sumOver_10 : decode cX4_sumOver 10 = .ok (.iload_n 0, 1) := by decide +kernel
theorem dX4_sumOver_11 : decode cX4_sumOver 11 = .ok (.iload_n 3, 1) := by decide +kernel
theorem dX4_sumOver_12 : decode cX4_sumOver 12 = .ok (.invokestatic 229, 3) := by decide +kernel
theorem dX4_sumOver_15 : decode cX4_sumOver 15 = .ok (.ifCond .eq 9, 3) := by decide +kernel
theorem dX4_sumOver_18 : decode cX4_sumOver 18 = .ok (.iload_n 2, 1) := by decide +kernel
theorem dX4_sumOver_19 : decode cX4_sumOver 19 = .ok (.aload_n 1, 1) := by decide +kernel
theorem dX4_sumOver_20 : decode cX4_sumOver 20 = .ok (.iload_n 3, 1) := by decide +kernel
theorem dX4_sumOver_21 : decode cX4_sumOver 21 = .ok (.iaload, 1) := by decide +kernel
theorem dX4_sumOver_22 : decode cX4_sumOver 22 = .ok (.iadd, 1) := by decide +kernel
theorem dX4_sumOver_23 : decode cX4_sumOver 23 = .ok (.istore_n 2, 1) := by decide +kernel
theorem dX4_sumOver_24 : decode cX4_sumOver 24 = .ok (.iinc 3 1, 3) := by decide +kernel
theorem dX4_sumOver_27 : decode cX4_sumOver 27 = .ok (.goto (-23), 3) := by decide +kernel
theorem dX4_sumOver_30 : decode cX4_sumOver 30 = .ok (.iload_n 2, 1) := by decide +kernel
theorem dX4_sumOver_31 : decode cX4_sumOver 31 = .ok (.ireturn, 1) := by decide +kernel
theorem dX4_mixed_0 : decode cX4_mixed 0 = .ok (.lload_n 0, 1) := by decide +kernel
theorem dX4_mixed_1 : decode cX4_mixed 1 = .ok (.ldc2_w 233, 3) := by decide +kernel
theorem dX4_mixed_4 : decode cX4_mixed 4 = .ok (.lmul, 1) := by decide +kernel
theorem dX4_mixed_5 : decode cX4_mixed 5 = .ok (.lload_n 2, 1) := by decide +kernel
theorem dX4_mixed_6 : decode cX4_mixed 6 = .ok (.ladd, 1) := by decide +kernel
theorem dX4_mixed_7 : decode cX4_mixed 7 = .ok (.lreturn, 1) := by decide +kernel
theorem dX4_mixedMachine_0 : decode cX4_mixedMachine 0 = .ok (.iconst 0, 1) := by decide +kernel
theorem dX4_mixedMachine_1 : decode cX4_mixedMachine 1 = .ok (.istore_n 3, 1) := by decide +kernel
theorem dX4_mixedMachine_2 : decode cX4_mixedMachine 2 = .ok (.iload_n 3, 1) := by decide +kernel
theorem dX4_mixedMachine_3 : decode cX4_mixedMachine 3 = .ok (.iconst 5, 1) := by decide +kernel
theorem dX4_mixedMachine_4 : decode cX4_mixedMachine 4 = .ok (.if_icmp .ge 20, 3) := by decide +kernel
theorem dX4_mixedMachine_7 : decode cX4_mixedMachine 7 = .ok (.lload_n 0, 1) := by decide +kernel
theorem dX4_mixedMachine_8 : decode cX4_mixedMachine 8 = .ok (.aload_n 2, 1) := by decide +kernel
theorem dX4_mixedMachine_9 : decode cX4_mixedMachine 9 = .ok (.iload_n 3, 1) := by decide +kernel
theorem dX4_mixedMachine_10 : decode cX4_mixedMachine 10 = .ok (.invokevirtual 144, 3) := by decide +kernel
theorem dX4_mixedMachine_13 : decode cX4_mixedMachine 13 = .ok (.i2l, 1) := by decide +kernel
theorem dX4_mixedMachine_14 : decode cX4_mixedMachine 14 = .ok (.invokestatic 221, 3) := by decide +kernel
theorem dX4_mixedMachine_17 : decode cX4_mixedMachine 17 = .ok (.lstore_n 0, 1) := by decide +kernel
theorem dX4_mixedMachine_18 : decode cX4_mixedMachine 18 = .ok (.iinc 3 1, 3) := by decide +kernel
theorem dX4_mixedMachine_21 : decode cX4_mixedMachine 21 = .ok (.goto (-19), 3) := by decide +kernel
theorem dX4_mixedMachine_24 : decode cX4_mixedMachine 24 = .ok (.iconst 0, 1) := by decide +kernel
theorem dX4_mixedMachine_25 : decode cX4_mixedMachine 25 = .ok (.istore_n 3, 1) := by decide +kernel
theorem dX4_mixedMachine_26 : decode cX4_mixedMachine 26 = .ok (.iload_n 3, 1) := by decide +kernel
theorem dX4_mixedMachine_27 : decode cX4_mixedMachine 27 = .ok (.bipush 6, 2) := by decide +kernel
theorem dX4_mixedMachine_29 : decode cX4_mixedMachine 29 = .ok (.if_icmp .ge 42, 3) := by decide +kernel
theorem dX4_mixedMachine_32 : decode cX4_mixedMachine 32 = .ok (.iconst 0, 1) := by decide +kernel
theorem dX4_mixedMachine_33 : decode cX4_mixedMachine 33 = .ok (.istore 4, 2) := by decide +kernel
theorem dX4_mixedMachine_35 : decode cX4_mixedMachine 35 = .ok (.iload 4, 2) := by decide +kernel
theorem dX4_mixedMachine_37 : decode cX4_mixedMachine 37 = .ok (.bipush 6, 2) := by decide +kernel
theorem dX4_mixedMachine_39 : decode cX4_mixedMachine 39 = .ok (.if_icmp .ge 26, 3) := by decide +kernel
theorem dX4_mixedMachine_42 : decode cX4_mixedMachine 42 = .ok (.lload_n 0, 1) := by decide +kernel
theorem dX4_mixedMachine_43 : decode cX4_mixedMachine 43 = .ok (.aload_n 2, 1) := by decide +kernel
theorem dX4_mixedMachine_44 : decode cX4_mixedMachine 44 = .ok (.getfield 215, 3) := by decide +kernel
theorem dX4_mixedMachine_47 : decode cX4_mixedMachine 47 = .ok (.iload_n 3, 1) := by decide +kernel
theorem dX4_mixedMachine_48 : decode cX4_mixedMachine 48 = .ok (.aaload, 1) := by decide +kernel
theorem dX4_mixedMachine_49 : decode cX4_mixedMachine 49 = .ok (.iload 4, 2) := by decide +kernel
theorem dX4_mixedMachine_51 : decode cX4_mixedMachine 51 = .ok (.invokevirtual 134, 3) := by decide +kernel
theorem dX4_mixedMachine_54 : decode cX4_mixedMachine 54 = .ok (.i2l, 1) := by decide +kernel
theorem dX4_mixedMachine_55 : decode cX4_mixedMachine 55 = .ok (.invokestatic 221, 3) := by decide +kernel
theorem dX4_mixedMachine_58 : decode cX4_mixedMachine 58 = .ok (.lstore_n 0, 1) := by decide +kernel
theorem dX4_mixedMachine_59 : decode cX4_mixedMachine 59 = .ok (.iinc 4 1, 3) := by decide +kernel
theorem dX4_mixedMachine_62 : decode cX4_mixedMachine 62 = .ok (.goto (-27), 3) := by decide +kernel
theorem dX4_mixedMachine_65 : decode cX4_mixedMachine 65 = .ok (.iinc 3 1, 3) := by decide +kernel
theorem dX4_mixedMachine_68 : decode cX4_mixedMachine 68 = .ok (.goto (-42), 3) := by decide +kernel
theorem dX4_mixedMachine_71 : decode cX4_mixedMachine 71 = .ok (.lload_n 0, 1) := by decide +kernel
theorem dX4_mixedMachine_72 : decode cX4_mixedMachine 72 = .ok (.lreturn, 1) := by decide +kernel
theorem dX4_isNoMachine_0 : decode cX4_isNoMachine 0 = .ok (.iload_n 1, 1) := by decide +kernel
theorem dX4_isNoMachine_1 : decode cX4_isNoMachine 1 = .ok (.iconst 0, 1) := by decide +kernel
theorem dX4_isNoMachine_2 : decode cX4_isNoMachine 2 = .ok (.aload_n 0, 1) := by decide +kernel
theorem dX4_isNoMachine_3 : decode cX4_isNoMachine 3 = .ok (.getfield 10, 3) := by decide +kernel
theorem dX4_isNoMachine_6 : decode cX4_isNoMachine 6 = .ok (.invokevirtual 48, 3) := by decide +kernel
theorem dX4_isNoMachine_9 : decode cX4_isNoMachine 9 = .ok (.iconst 1, 1) := by decide +kernel
theorem dX4_isNoMachine_10 : decode cX4_isNoMachine 10 = .ok (.isub, 1) := by decide +kernel
theorem dX4_isNoMachine_11 : decode cX4_isNoMachine 11 = .ok (.invokestatic 37, 3) := by decide +kernel
theorem dX4_isNoMachine_14 : decode cX4_isNoMachine 14 = .ok (.ireturn, 1) := by decide +kernel
theorem dX4_isNoPlace_0 : decode cX4_isNoPlace 0 = .ok (.iload_n 1, 1) := by decide +kernel
theorem dX4_isNoPlace_1 : decode cX4_isNoPlace 1 = .ok (.iconst (-1), 1) := by decide +kernel
theorem dX4_isNoPlace_2 : decode cX4_isNoPlace 2 = .ok (.if_icmp .eq 15, 3) := by decide +kernel
theorem dX4_isNoPlace_5 : decode cX4_isNoPlace 5 = .ok (.aload_n 0, 1) := by decide +kernel
theorem dX4_isNoPlace_6 : decode cX4_isNoPlace 6 = .ok (.iload_n 1, 1) := by decide +kernel
theorem dX4_isNoPlace_7 : decode cX4_isNoPlace 7 = .ok (.invokevirtual 196, 3) := by decide +kernel
theorem dX4_isNoPlace_10 : decode cX4_isNoPlace 10 = .ok (.ifCond .eq 7, 3) := by decide +kernel
theorem dX4_isNoPlace_13 : decode cX4_isNoPlace 13 = .ok (.iconst 1, 1) := by decide +kernel
theorem dX4_isNoPlace_14 : decode cX4_isNoPlace 14 = .ok (.goto 4, 3) := by decide +kernel
theorem dX4_isNoPlace_17 : decode cX4_isNoPlace 17 = .ok (.iconst 0, 1) := by decide +kernel
theorem dX4_isNoPlace_18 : decode cX4_isNoPlace 18 = .ok (.ireturn, 1) := by decide +kernel
theorem dX4_machineAt_0 : decode cX4_machineAt 0 = .ok (.aload_n 0, 1) := by decide +kernel
theorem dX4_machineAt_1 : decode cX4_machineAt 1 = .ok (.iload_n 1, 1) := by decide +kernel
theorem dX4_machineAt_2 : decode cX4_machineAt 2 = .ok (.invokevirtual 196, 3) := by decide +kernel
theorem dX4_machineAt_5 : decode cX4_machineAt 5 = .ok (.ifCond .eq 13, 3) := by decide +kernel
theorem dX4_machineAt_8 : decode cX4_machineAt 8 = .ok (.new 73, 3) := by decide +kernel
theorem dX4_machineAt_11 : decode cX4_machineAt 11 = .ok (.dup, 1) := by decide +kernel
theorem dX4_machineAt_12 : decode cX4_machineAt 12 = .ok (.ldc 75, 2) := by decide +kernel
theorem dX4_machineAt_14 : decode cX4_machineAt 14 = .ok (.invokespecial 77, 3) := by decide +kernel
theorem dX4_machineAt_17 : decode cX4_machineAt 17 = .ok (.athrow, 1) := by decide +kernel
theorem dX4_machineAt_18 : decode cX4_machineAt 18 = .ok (.aload_n 0, 1) := by decide +kernel
theorem dX4_machineAt_19 : decode cX4_machineAt 19 = .ok (.getfield 10, 3) := by decide +kernel
theorem dX4_machineAt_22 : decode cX4_machineAt 22 = .ok (.iload_n 1, 1) := by decide +kernel
theorem dX4_machineAt_23 : decode cX4_machineAt 23 = .ok (.invokevirtual 199, 3) := by decide +kernel
theorem dX4_machineAt_26 : decode cX4_machineAt 26 = .ok (.checkcast 57, 3) := by decide +kernel
theorem dX4_machineAt_29 : decode cX4_machineAt 29 = .ok (.areturn, 1) := by decide +kernel
theorem dX4_slotAt_0 : decode cX4_slotAt 0 = .ok (.aload_n 0, 1) := by decide +kernel
theorem dX4_slotAt_1 : decode cX4_slotAt 1 = .ok (.iload_n 1, 1) := by decide +kernel
theorem dX4_slotAt_2 : decode cX4_slotAt 2 = .ok (.invokevirtual 138, 3) := by decide +kernel
theorem dX4_slotAt_5 : decode cX4_slotAt 5 = .ok (.astore_n 3, 1) := by decide +kernel
theorem dX4_slotAt_6 : decode cX4_slotAt 6 = .ok (.iload_n 2, 1) := by decide +kernel
theorem dX4_slotAt_7 : decode cX4_slotAt 7 = .ok (.iconst 0, 1) := by decide +kernel
theorem dX4_slotAt_8 : decode cX4_slotAt 8 = .ok (.iconst 5, 1) := by decide +kernel
theorem dX4_slotAt_9 : decode cX4_slotAt 9 = .ok (.invokestatic 37, 3) := by decide +kernel
theorem dX4_slotAt_12 : decode cX4_slotAt 12 = .ok (.ifCond .eq 13, 3) := by decide +kernel
theorem dX4_slotAt_15 : decode cX4_slotAt 15 = .ok (.new 73, 3) := by decide +kernel
theorem dX4_slotAt_18 : decode cX4_slotAt 18 = .ok (.dup, 1) := by decide +kernel
theorem dX4_slotAt_19 : decode cX4_slotAt 19 = .ok (.ldc 235, 2) := by decide +kernel
theorem dX4_slotAt_21 : decode cX4_slotAt 21 = .ok (.invokespecial 77, 3) := by decide +kernel
theorem dX4_slotAt_24 : decode cX4_slotAt 24 = .ok (.athrow, 1) := by decide +kernel
theorem dX4_slotAt_25 : decode cX4_slotAt 25 = .ok (.aload_n 3, 1) := by decide +kernel
theorem dX4_slotAt_26 : decode cX4_slotAt 26 = .ok (.getfield 215, 3) := by decide +kernel
theorem dX4_slotAt_29 : decode cX4_slotAt 29 = .ok (.iload_n 2, 1) := by decide +kernel
theorem dX4_slotAt_30 : decode cX4_slotAt 30 = .ok (.aaload, 1) := by decide +kernel
theorem dX4_slotAt_31 : decode cX4_slotAt 31 = .ok (.areturn, 1) := by decide +kernel
theorem dX4_requireSet_0 : decode cX4_requireSet 0 = .ok (.iload_n 1, 1) := by decide +kernel
theorem dX4_requireSet_1 : decode cX4_requireSet 1 = .ok (.aload_n 0, 1) := by decide +kernel
theorem dX4_requireSet_2 : decode cX4_requireSet 2 = .ok (.getfield 10, 3) := by decide +kernel
theorem dX4_requireSet_5 : decode cX4_requireSet 5 = .ok (.invokevirtual 48, 3) := by decide +kernel
theorem dX4_requireSet_8 : decode cX4_requireSet 8 = .ok (.iushr, 1) := by decide +kernel
theorem dX4_requireSet_9 : decode cX4_requireSet 9 = .ok (.ifCond .eq 13, 3) := by decide +kernel
theorem dX4_requireSet_12 : decode cX4_requireSet 12 = .ok (.new 41, 3) := by decide +kernel
theorem dX4_requireSet_15 : decode cX4_requireSet 15 = .ok (.dup, 1) := by decide +kernel
theorem dX4_requireSet_16 : decode cX4_requireSet 16 = .ok (.ldc 237, 2) := by decide +kernel
theorem dX4_requireSet_18 : decode cX4_requireSet 18 = .ok (.invokespecial 45, 3) := by decide +kernel
theorem dX4_requireSet_21 : decode cX4_requireSet 21 = .ok (.athrow, 1) := by decide +kernel
theorem dX4_requireSet_22 : decode cX4_requireSet 22 = .ok (.return_, 1) := by decide +kernel
theorem dX4_requireLoad_0 : decode cX4_requireLoad 0 = .ok (.iload_n 0, 1) := by decide +kernel
theorem dX4_requireLoad_1 : decode cX4_requireLoad 1 = .ok (.iconst 0, 1) := by decide +kernel
theorem dX4_requireLoad_2 : decode cX4_requireLoad 2 = .ok (.sipush 2000, 3) := by decide +kernel
theorem dX4_requireLoad_5 : decode cX4_requireLoad 5 = .ok (.invokestatic 37, 3) := by decide +kernel
theorem dX4_requireLoad_8 : decode cX4_requireLoad 8 = .ok (.ifCond .eq 13, 3) := by decide +kernel
theorem dX4_requireLoad_11 : decode cX4_requireLoad 11 = .ok (.new 41, 3) := by decide +kernel
theorem dX4_requireLoad_14 : decode cX4_requireLoad 14 = .ok (.dup, 1) := by decide +kernel
theorem dX4_requireLoad_15 : decode cX4_requireLoad 15 = .ok (.ldc 239, 2) := by decide +kernel
theorem dX4_requireLoad_17 : decode cX4_requireLoad 17 = .ok (.invokespecial 45, 3) := by decide +kernel
theorem dX4_requireLoad_20 : decode cX4_requireLoad 20 = .ok (.athrow, 1) := by decide +kernel
theorem dX4_requireLoad_21 : decode cX4_requireLoad 21 = .ok (.return_, 1) := by decide +kernel
theorem dX4_sellEverywhere_0 : decode cX4_sellEverywhere 0 = .ok (.iconst 0, 1) := by decide +kernel
theorem dX4_sellEverywhere_1 : decode cX4_sellEverywhere 1 = .ok (.istore_n 1, 1) := by decide +kernel
theorem dX4_sellEverywhere_2 : decode cX4_sellEverywhere 2 = .ok (.iconst 0, 1) := by decide +kernel
theorem dX4_sellEverywhere_3 : decode cX4_sellEverywhere 3 = .ok (.istore_n 2, 1) := by decide +kernel
theorem dX4_sellEverywhere_4 : decode cX4_sellEverywhere 4 = .ok (.iload_n 2, 1) := by decide +kernel
theorem dX4_sellEverywhere_5 : decode cX4_sellEverywhere 5 = .ok (.aload_n 0, 1) := by decide +kernel
theorem dX4_sellEverywhere_6 : decode cX4_sellEverywhere 6 = .ok (.getfield 10, 3) := by decide +kernel
theorem dX4_sellEverywhere_9 : decode cX4_sellEverywhere 9 = .ok (.invokevirtual 48, 3) := by decide +kernel
theorem dX4_sellEverywhere_12 : decode cX4_sellEverywhere 12 = .ok (.if_icmp .ge 26, 3) := by decide +kernel
theorem dX4_sellEverywhere_15 : decode cX4_sellEverywhere 15 = .ok (.iload_n 1, 1) := by decide +kernel
theorem dX4_sellEverywhere_16 : decode cX4_sellEverywhere 16 = .ok (.aload_n 0, 1) := by decide +kernel
theorem dX4_sellEverywhere_17 : decode cX4_sellEverywhere 17 = .ok (.getfield 10, 3) := by decide +kernel
theorem dX4_sellEverywhere_20 : decode cX4_sellEverywhere 20 = .ok (.iload_n 2, 1) := by decide +kernel
theorem dX4_sellEverywhere_21 : decode cX4_sellEverywhere 21 = .ok (.invokevirtual 199, 3) := by decide +kernel
theorem dX4_sellEverywhere_24 : decode cX4_sellEverywhere 24 = .ok (.checkcast 57, 3) := by decide +kernel
theorem dX4_sellEverywhere_27 : decode cX4_sellEverywhere 27 = .ok (.invokevirtual 241, 3) := by decide +kernel
theorem dX4_sellEverywhere_30 : decode cX4_sellEverywhere 30 = .ok (.iadd, 1) := by decide +kernel
theorem dX4_sellEverywhere_31 : decode cX4_sellEverywhere 31 = .ok (.istore_n 1, 1) := by decide +kernel
theorem dX4_sellEverywhere_32 : decode cX4_sellEverywhere 32 = .ok (.iinc 2 1, 3) := by decide +kernel
theorem dX4_sellEverywhere_35 : decode cX4_sellEverywhere 35 = .ok (.goto (-31), 3) := by decide +kernel
theorem dX4_sellEverywhere_38 : decode cX4_sellEverywhere 38 = .ok (.iload_n 1, 1) := by decide +kernel
theorem dX4_sellEverywhere_39 : decode cX4_sellEverywhere 39 = .ok (.ireturn, 1) := by decide +kernel
theorem dX4_changePrices_0 : decode cX4_changePrices 0 = .ok (.iconst 0, 1) := by decide +kernel
theorem dX4_changePrices_1 : decode cX4_changePrices 1 = .ok (.istore_n 1, 1) := by decide +kernel
theorem dX4_changePrices_2 : decode cX4_changePrices 2 = .ok (.iload_n 1, 1) := by decide +kernel
theorem dX4_changePrices_3 : decode cX4_changePrices 3 = .ok (.aload_n 0, 1) := by decide +kernel
theorem dX4_changePrices_4 : decode cX4_changePrices 4 = .ok (.getfield 16, 3) := by decide +kernel
theorem dX4_changePrices_7 : decode cX4_changePrices 7 = .ok (.invokevirtual 48, 3) := by decide +kernel
theorem dX4_changePrices_10 : decode cX4_changePrices 10 = .ok (.if_icmp .ge 43, 3) := by decide +kernel
theorem dX4_changePrices_13 : decode cX4_changePrices 13 = .ok (.aload_n 0, 1) := by decide +kernel
theorem dX4_changePrices_14 : decode cX4_changePrices 14 = .ok (.getfield 16, 3) := by decide +kernel
theorem dX4_changePrices_17 : decode cX4_changePrices 17 = .ok (.iload_n 1, 1) := by decide +kernel
theorem dX4_changePrices_18 : decode cX4_changePrices 18 = .ok (.invokevirtual 199, 3) := by decide +kernel
theorem dX4_changePrices_21 : decode cX4_changePrices 21 = .ok (.checkcast 127, 3) := by decide +kernel
theorem dX4_changePrices_24 : decode cX4_changePrices 24 = .ok (.astore_n 2, 1) := by decide +kernel
theorem dX4_changePrices_25 : decode cX4_changePrices 25 = .ok (.aload_n 2, 1) := by decide +kernel
theorem dX4_changePrices_26 : decode cX4_changePrices 26 = .ok (.getfield 244, 3) := by decide +kernel
theorem dX4_changePrices_29 : decode cX4_changePrices 29 = .ok (.aload_n 0, 1) := by decide +kernel
theorem dX4_changePrices_30 : decode cX4_changePrices 30 = .ok (.getfield 115, 3) := by decide +kernel
theorem dX4_changePrices_33 : decode cX4_changePrices 33 = .ok (.if_icmp .ne 14, 3) := by decide +kernel
theorem dX4_changePrices_36 : decode cX4_changePrices 36 = .ok (.aload_n 2, 1) := by decide +kernel
theorem dX4_changePrices_37 : decode cX4_changePrices 37 = .ok (.getfield 245, 3) := by decide +kernel
theorem dX4_changePrices_40 : decode cX4_changePrices 40 = .ok (.aload_n 2, 1) := by decide +kernel
theorem dX4_changePrices_41 : decode cX4_changePrices 41 = .ok (.getfield 249, 3) := by decide +kernel
theorem dX4_changePrices_44 : decode cX4_changePrices 44 = .ok (.putfield 122, 3) := by decide +kernel
theorem dX4_changePrices_47 : decode cX4_changePrices 47 = .ok (.iinc 1 1, 3) := by decide +kernel
theorem dX4_changePrices_50 : decode cX4_changePrices 50 = .ok (.goto (-48), 3) := by decide +kernel
theorem dX4_changePrices_53 : decode cX4_changePrices 53 = .ok (.aload_n 0, 1) := by decide +kernel
theorem dX4_changePrices_54 : decode cX4_changePrices 54 = .ok (.getfield 16, 3) := by decide +kernel
theorem dX4_changePrices_57 : decode cX4_changePrices 57 = .ok (.invokevirtual 48, 3) := by decide +kernel
theorem dX4_changePrices_60 : decode cX4_changePrices 60 = .ok (.iconst 1, 1) := by decide +kernel
theorem dX4_changePrices_61 : decode cX4_changePrices 61 = .ok (.isub, 1) := by decide +kernel
theorem dX4_changePrices_62 : decode cX4_changePrices 62 = .ok (.istore_n 1, 1) := by decide +kernel
theorem dX4_changePrices_63 : decode cX4_changePrices 63 = .ok (.iload_n 1, 1) := by decide +kernel
theorem dX4_changePrices_64 : decode cX4_changePrices 64 = .ok (.ifCond .lt 39, 3) := by decide +kernel
theorem dX4_changePrices_67 : decode cX4_changePrices 67 = .ok (.aload_n 0, 1) := by decide +kernel
theorem dX4_changePrices_68 : decode cX4_changePrices 68 = .ok (.getfield 16, 3) := by decide +kernel
theorem dX4_changePrices_71 : decode cX4_changePrices 71 = .ok (.iload_n 1, 1) := by decide +kernel
theorem dX4_changePrices_72 : decode cX4_changePrices 72 = .ok (.invokevirtual 199, 3) := by decide +kernel
theorem dX4_changePrices_75 : decode cX4_changePrices 75 = .ok (.checkcast 127, 3) := by decide +kernel
theorem dX4_changePrices_78 : decode cX4_changePrices 78 = .ok (.getfield 244, 3) := by decide +kernel
theorem dX4_changePrices_81 : decode cX4_changePrices 81 = .ok (.aload_n 0, 1) := by decide +kernel
theorem dX4_changePrices_82 : decode cX4_changePrices 82 = .ok (.getfield 115, 3) := by decide +kernel
theorem dX4_changePrices_85 : decode cX4_changePrices 85 = .ok (.if_icmp .ne 12, 3) := by decide +kernel
theorem dX4_changePrices_88 : decode cX4_changePrices 88 = .ok (.aload_n 0, 1) := by decide +kernel
theorem dX4_changePrices_89 : decode cX4_changePrices 89 = .ok (.getfield 16, 3) := by decide +kernel
theorem dX4_changePrices_92 : decode cX4_changePrices 92 = .ok (.iload_n 1, 1) := by decide +kernel
theorem dX4_changePrices_93 : decode cX4_changePrices 93 = .ok (.invokevirtual 250, 3) := by decide +kernel
theorem dX4_changePrices_96 : decode cX4_changePrices 96 = .ok (.pop, 1) := by decide +kernel
theorem dX4_changePrices_97 : decode cX4_changePrices 97 = .ok (.iinc 1 (-1), 3) := by decide +kernel
theorem dX4_changePrices_100 : decode cX4_changePrices 100 = .ok (.goto (-37), 3) := by decide +kernel
theorem dX4_changePrices_103 : decode cX4_changePrices 103 = .ok (.return_, 1) := by decide +kernel
theorem dX4_survey_0 : decode cX4_survey 0 = .ok (.iconst 0, 1) := by decide +kernel
theorem dX4_survey_1 : decode cX4_survey 1 = .ok (.istore_n 1, 1) := by decide +kernel
theorem dX4_survey_2 : decode cX4_survey 2 = .ok (.iload_n 1, 1) := by decide +kernel
theorem dX4_survey_3 : decode cX4_survey 3 = .ok (.aload_n 0, 1) := by decide +kernel
theorem dX4_survey_4 : decode cX4_survey 4 = .ok (.getfield 10, 3) := by decide +kernel
theorem dX4_survey_7 : decode cX4_survey 7 = .ok (.invokevirtual 48, 3) := by decide +kernel
theorem dX4_survey_10 : decode cX4_survey 10 = .ok (.if_icmp .ge 51, 3) := by decide +kernel
theorem dX4_survey_13 : decode cX4_survey 13 = .ok (.aload_n 0, 1) := by decide +kernel
theorem dX4_survey_14 : decode cX4_survey 14 = .ok (.getfield 10, 3) := by decide +kernel
theorem dX4_survey_17 : decode cX4_survey 17 = .ok (.iload_n 1, 1) := by decide +kernel
theorem dX4_survey_18 : decode cX4_survey 18 = .ok (.invokevirtual 199, 3) := by decide +kernel
theorem dX4_survey_21 : decode cX4_survey 21 = .ok (.checkcast 57, 3) := by decide +kernel
theorem dX4_survey_24 : decode cX4_survey 24 = .ok (.astore_n 2, 1) := by decide +kernel
theorem dX4_survey_25 : decode cX4_survey 25 = .ok (.aload_n 0, 1) := by decide +kernel
theorem dX4_survey_26 : decode cX4_survey 26 = .ok (.getfield 30, 3) := by decide +kernel
theorem dX4_survey_29 : decode cX4_survey 29 = .ok (.iload_n 1, 1) := by decide +kernel
theorem dX4_survey_30 : decode cX4_survey 30 = .ok (.aload_n 2, 1) := by decide +kernel
theorem dX4_survey_31 : decode cX4_survey 31 = .ok (.invokevirtual 253, 3) := by decide +kernel
theorem dX4_survey_34 : decode cX4_survey 34 = .ok (.iastore, 1) := by decide +kernel
theorem dX4_survey_35 : decode cX4_survey 35 = .ok (.aload_n 0, 1) := by decide +kernel
theorem dX4_survey_36 : decode cX4_survey 36 = .ok (.getfield 33, 3) := by decide +kernel
theorem dX4_survey_39 : decode cX4_survey 39 = .ok (.iload_n 1, 1) := by decide +kernel
theorem dX4_survey_40 : decode cX4_survey 40 = .ok (.aload_n 2, 1) := by decide +kernel
theorem dX4_survey_41 : decode cX4_survey 41 = .ok (.invokevirtual 256, 3) := by decide +kernel
theorem dX4_survey_44 : decode cX4_survey 44 = .ok (.iastore, 1) := by decide +kernel
theorem dX4_survey_45 : decode cX4_survey 45 = .ok (.aload_n 0, 1) := by decide +kernel
theorem dX4_survey_46 : decode cX4_survey 46 = .ok (.getfield 26, 3) := by decide +kernel
theorem dX4_survey_49 : decode cX4_survey 49 = .ok (.iload_n 1, 1) := by decide +kernel
theorem dX4_survey_50 : decode cX4_survey 50 = .ok (.aload_n 2, 1) := by decide +kernel
theorem dX4_survey_51 : decode cX4_survey 51 = .ok (.invokevirtual 259, 3) := by decide +kernel
theorem dX4_survey_54 : decode cX4_survey 54 = .ok (.iastore, 1) := by decide +kernel
theorem dX4_survey_55 : decode cX4_survey 55 = .ok (.iinc 1 1, 3) := by decide +kernel
theorem dX4_survey_58 : decode cX4_survey 58 = .ok (.goto (-56), 3) := by decide +kernel
theorem dX4_survey_61 : decode cX4_survey 61 = .ok (.return_, 1) := by decide +kernel
theorem dX4_roundTime_0 : decode cX4_roundTime 0 = .ok (.aload_n 0, 1) := by decide +kernel
theorem dX4_roundTime_1 : decode cX4_roundTime 1 = .ok (.getfield 22, 3) := by decide +kernel
theorem dX4_roundTime_4 : decode cX4_roundTime 4 = .ok (.iconst (-1), 1) := by decide +kernel
theorem dX4_roundTime_5 : decode cX4_roundTime 5 = .ok (.iload_n 1, 1) := by decide +kernel
theorem dX4_roundTime_6 : decode cX4_roundTime 6 = .ok (.invokevirtual 158, 3) := by decide +kernel
theorem dX4_roundTime_9 : decode cX4_roundTime 9 = .ok (.iload_n 1, 1) := by decide +kernel
theorem dX4_roundTime_10 : decode cX4_roundTime 10 = .ok (.aload_n 0, 1) := by decide +kernel
theorem dX4_roundTime_11 : decode cX4_roundTime 11 = .ok (.getfield 26, 3) := by decide +kernel
theorem dX4_roundTime_14 : decode cX4_roundTime 14 = .ok (.invokestatic 185, 3) := by decide +kernel
theorem dX4_roundTime_17 : decode cX4_roundTime 17 = .ok (.iadd, 1) := by decide +kernel
theorem dX4_roundTime_18 : decode cX4_roundTime 18 = .ok (.ireturn, 1) := by decide +kernel
theorem dX4_serve_0 : decode cX4_serve 0 = .ok (.aload_n 0, 1) := by decide +kernel
theorem dX4_serve_1 : decode cX4_serve 1 = .ok (.dup, 1) := by decide +kernel
theorem dX4_serve_2 : decode cX4_serve 2 = .ok (.getfield 209, 3) := by decide +kernel
theorem dX4_serve_5 : decode cX4_serve 5 = .ok (.aload_n 1, 1) := by decide +kernel
theorem dX4_serve_6 : decode cX4_serve 6 = .ok (.invokevirtual 262, 3) := by decide +kernel
theorem dX4_serve_9 : decode cX4_serve 9 = .ok (.i2l, 1) := by decide +kernel
theorem dX4_serve_10 : decode cX4_serve 10 = .ok (.ladd, 1) := by decide +kernel
theorem dX4_serve_11 : decode cX4_serve 11 = .ok (.putfield 209, 3) := by decide +kernel
theorem dX4_serve_14 : decode cX4_serve 14 = .ok (.aload_n 1, 1) := by decide +kernel
theorem dX4_serve_15 : decode cX4_serve 15 = .ok (.dup, 1) := by decide +kernel
theorem dX4_serve_16 : decode cX4_serve 16 = .ok (.getfield 265, 3) := by decide +kernel
theorem dX4_serve_19 : decode cX4_serve 19 = .ok (.iconst 1, 1) := by decide +kernel
theorem dX4_serve_20 : decode cX4_serve 20 = .ok (.iadd, 1) := by decide +kernel
theorem dX4_serve_21 : decode cX4_serve 21 = .ok (.putfield 265, 3) := by decide +kernel
theorem dX4_serve_24 : decode cX4_serve 24 = .ok (.aload_n 1, 1) := by decide +kernel
theorem dX4_serve_25 : decode cX4_serve 25 = .ok (.iload_n 2, 1) := by decide +kernel
theorem dX4_serve_26 : decode cX4_serve 26 = .ok (.invokevirtual 268, 3) := by decide +kernel
theorem dX4_serve_29 : decode cX4_serve 29 = .ok (.istore_n 3, 1) := by decide +kernel
theorem dX4_serve_30 : decode cX4_serve 30 = .ok (.aload_n 0, 1) := by decide +kernel
theorem dX4_serve_31 : decode cX4_serve 31 = .ok (.dup, 1) := by decide +kernel
theorem dX4_serve_32 : decode cX4_serve 32 = .ok (.getfield 212, 3) := by decide +kernel
theorem dX4_serve_35 : decode cX4_serve 35 = .ok (.iload_n 3, 1) := by decide +kernel
theorem dX4_serve_36 : decode cX4_serve 36 = .ok (.i2l, 1) := by decide +kernel
theorem dX4_serve_37 : decode cX4_serve 37 = .ok (.ladd, 1) := by decide +kernel
theorem dX4_serve_38 : decode cX4_serve 38 = .ok (.putfield 212, 3) := by decide +kernel
theorem dX4_serve_41 : decode cX4_serve 41 = .ok (.iload_n 3, 1) := by decide +kernel
theorem dX4_serve_42 : decode cX4_serve 42 = .ok (.ireturn, 1) := by decide +kernel
theorem dX5_init_0 : decode cX5_init 0 = .ok (.aload_n 0, 1) := by decide +kernel
theorem dX5_init_1 : decode cX5_init 1 = .ok (.invokespecial 1, 3) := by decide +kernel
theorem dX5_init_4 : decode cX5_init 4 = .ok (.aload_n 0, 1) := by decide +kernel
theorem dX5_init_5 : decode cX5_init 5 = .ok (.bipush 8, 2) := by decide +kernel
theorem dX5_init_7 : decode cX5_init 7 = .ok (.newarray .int, 2) := by decide +kernel
theorem dX5_init_9 : decode cX5_init 9 = .ok (.putfield 9, 3) := by decide +kernel
theorem dX5_init_12 : decode cX5_init 12 = .ok (.aload_n 0, 1) := by decide +kernel
theorem dX5_init_13 : decode cX5_init 13 = .ok (.bipush 8, 2) := by decide +kernel
theorem dX5_init_15 : decode cX5_init 15 = .ok (.newarray .int, 2) := by decide +kernel
theorem dX5_init_17 : decode cX5_init 17 = .ok (.putfield 13, 3) := by decide +kernel
theorem dX5_init_20 : decode cX5_init 20 = .ok (.aload_n 0, 1) := by decide +kernel
theorem dX5_init_21 : decode cX5_init 21 = .ok (.bipush 8, 2) := by decide +kernel
theorem dX5_init_23 : decode cX5_init 23 = .ok (.newarray .int, 2) := by decide +kernel
theorem dX5_init_25 : decode cX5_init 25 = .ok (.putfield 16, 3) := by decide +kernel
theorem dX5_init_28 : decode cX5_init 28 = .ok (.aload_n 0, 1) := by decide +kernel
theorem dX5_init_29 : decode cX5_init 29 = .ok (.bipush 81, 2) := by decide +kernel
theorem dX5_init_31 : decode cX5_init 31 = .ok (.newarray .int, 2) := by decide +kernel
theorem dX5_init_33 : decode cX5_init 33 = .ok (.putfield 19, 3) := by decide +kernel
theorem dX5_init_36 : decode cX5_init 36 = .ok (.aload_n 0, 1) := by decide +kernel
theorem dX5_init_37 : decode cX5_init 37 = .ok (.bipush 48, 2) := by decide +kernel
theorem dX5_init_39 : decode cX5_init 39 = .ok (.newarray .int, 2) := by decide +kernel
theorem dX5_init_41 : decode cX5_init 41 = .ok (.putfield 22, 3) := by decide +kernel
theorem dX5_init_44 : decode cX5_init 44 = .ok (.aload_n 0, 1) := by decide +kernel
theorem dX5_init_45 : decode cX5_init 45 = .ok (.bipush 48, 2) := by decide +kernel
theorem dX5_init_47 : decode cX5_init 47 = .ok (.newarray .int, 2) := by decide +kernel
theorem dX5_init_49 : decode cX5_init 49 = .ok (.putfield 25, 3) := by decide +kernel
theorem dX5_init_52 : decode cX5_init 52 = .ok (.aload_n 0, 1) := by decide +kernel
theorem dX5_init_53 : decode cX5_init 53 = .ok (.bipush 48, 2) := by decide +kernel
theorem dX5_init_55 : decode cX5_init 55 = .ok (.newarray .int, 2) := by decide +kernel
theorem dX5_init_57 : decode cX5_init 57 = .ok (.putfield 28, 3) := by decide +kernel
theorem dX5_init_60 : decode cX5_init 60 = .ok (.aload_n 0, 1) := by decide +kernel
theorem dX5_init_61 : decode cX5_init 61 = .ok (.bipush 48, 2) := by decide +kernel
theorem dX5_init_63 : decode cX5_init 63 = .ok (.newarray .int, 2) := by decide +kernel
theorem dX5_init_65 : decode cX5_init 65 = .ok (.putfield 31, 3) := by decide +kernel
theorem dX5_init_68 : decode cX5_init 68 = .ok (.aload_n 0, 1) := by decide +kernel
theorem dX5_init_69 : decode cX5_init 69 = .ok (.bipush 48, 2) := by decide +kernel
theorem dX5_init_71 : decode cX5_init 71 = .ok (.newarray .int, 2) := by decide +kernel
theorem dX5_init_73 : decode cX5_init 73 = .ok (.putfield 34, 3) := by decide +kernel
theorem dX5_init_76 : decode cX5_init 76 = .ok (.aload_n 0, 1) := by decide +kernel
theorem dX5_init_77 : decode cX5_init 77 = .ok (.bipush 48, 2) := by decide +kernel
theorem dX5_init_79 : decode cX5_init 79 = .ok (.newarray .int, 2) := by decide +kernel
theorem dX5_init_81 : decode cX5_init 81 = .ok (.putfield 37, 3) := by decide +kernel
theorem dX5_init_84 : decode cX5_init 84 = .ok (.aload_n 0, 1) := by decide +kernel
theorem dX5_init_85 : decode cX5_init 85 = .ok (.bipush 60, 2) := by decide +kernel
theorem dX5_init_87 : decode cX5_init 87 = .ok (.newarray .int, 2) := by decide +kernel
theorem dX5_init_89 : decode cX5_init 89 = .ok (.putfield 40, 3) := by decide +kernel
theorem dX5_init_92 : decode cX5_init 92 = .ok (.aload_n 0, 1) := by decide +kernel
theorem dX5_init_93 : decode cX5_init 93 = .ok (.iconst 4, 1) := by decide +kernel
theorem dX5_init_94 : decode cX5_init 94 = .ok (.newarray .long, 2) := by decide +kernel
theorem dX5_init_96 : decode cX5_init 96 = .ok (.putfield 43, 3) := by decide +kernel
theorem dX5_init_99 : decode cX5_init 99 = .ok (.aload_n 0, 1) := by decide +kernel
theorem dX5_init_100 : decode cX5_init 100 = .ok (.sipush 2304, 3) := by decide +kernel
theorem dX5_init_103 : decode cX5_init 103 = .ok (.newarray .int, 2) := by decide +kernel
theorem dX5_init_105 : decode cX5_init 105 = .ok (.putfield 47, 3) := by decide +kernel
theorem dX5_init_108 : decode cX5_init 108 = .ok (.iconst 0, 1) := by decide +kernel
theorem dX5_init_109 : decode cX5_init 109 = .ok (.istore_n 1, 1) := by decide +kernel
theorem dX5_init_110 : decode cX5_init 110 = .ok (.iload_n 1, 1) := by decide +kernel
theorem dX5_init_111 : decode cX5_init 111 = .ok (.aload_n 0, 1) := by decide +kernel
theorem dX5_init_112 : decode cX5_init 112 = .ok (.getfield 19, 3) := by decide +kernel
theorem dX5_init_115 : decode cX5_init 115 = .ok (.arraylength, 1) := by decide +kernel
theorem dX5_init_116 : decode cX5_init 116 = .ok (.if_icmp .ge 32, 3) := by decide +kernel
theorem dX5_init_119 : decode cX5_init 119 = .ok (.aload_n 0, 1) := by decide +kernel
theorem dX5_init_120 : decode cX5_init 120 = .ok (.getfield 19, 3) := by decide +kernel
theorem dX5_init_123 : decode cX5_init 123 = .ok (.iload_n 1, 1) := by decide +kernel
theorem dX5_init_124 : decode cX5_init 124 = .ok (.iload_n 1, 1) := by decide +kernel
theorem dX5_init_125 : decode cX5_init 125 = .ok (.bipush 9, 2) := by decide +kernel
theorem dX5_init_127 : decode cX5_init 127 = .ok (.idiv, 1) := by decide +kernel
theorem dX5_init_128 : decode cX5_init 128 = .ok (.iload_n 1, 1) := by decide +kernel
theorem dX5_init_129 : decode cX5_init 129 = .ok (.bipush 9, 2) := by decide +kernel
theorem dX5_init_131 : decode cX5_init 131 = .ok (.irem, 1) := by decide +kernel
theorem dX5_init_132 : decode cX5_init 132 = .ok (.if_icmp .ne 7, 3) := by decide +kernel
theorem dX5_init_135 : decode cX5_init 135 = .ok (.iconst 0, 1) := by decide +kernel
theorem dX5_init_136 : decode cX5_init 136 = .ok (.goto 5, 3) := by decide +kernel
theorem dX5_init_139 : decode cX5_init 139 = .ok (.bipush 20, 2) := by decide +kernel
theorem dX5_init_141 : decode cX5_init 141 = .ok (.iastore, 1) := by decide +kernel
theorem dX5_init_142 : decode cX5_init 142 = .ok (.iinc 1 1, 3) := by decide +kernel
theorem dX5_init_145 : decode cX5_init 145 = .ok (.goto (-35), 3) := by decide +kernel
theorem dX5_init_148 : decode cX5_init 148 = .ok (.iconst 0, 1) := by decide +kernel
theorem dX5_init_149 : decode cX5_init 149 = .ok (.istore_n 1, 1) := by decide +kernel
theorem dX5_init_150 : decode cX5_init 150 = .ok (.iload_n 1, 1) := by decide +kernel
theorem dX5_init_151 : decode cX5_init 151 = .ok (.aload_n 0, 1) := by decide +kernel
theorem dX5_init_152 : decode cX5_init 152 = .ok (.getfield 28, 3) := by decide +kernel
theorem dX5_init_155 : decode cX5_init 155 = .ok (.arraylength, 1) := by decide +kernel
theorem dX5_init_156 : decode cX5_init 156 = .ok (.if_icmp .ge 17, 3) := by decide +kernel
theorem dX5_init_159 : decode cX5_init 159 = .ok (.aload_n 0, 1) := by decide +kernel
theorem dX5_init_160 : decode cX5_init 160 = .ok (.getfield 28, 3) := by decide +kernel
theorem dX5_init_163 : decode cX5_init 163 = .ok (.iload_n 1, 1) := by decide +kernel
theorem dX5_init_164 : decode cX5_init 164 = .ok (.bipush 100, 2) := by decide +kernel
theorem dX5_init_166 : decode cX5_init 166 = .ok (.iastore, 1) := by decide +kernel
theorem dX5_init_167 : decode cX5_init 167 = .ok (.iinc 1 1, 3) := by decide +kernel
theorem dX5_init_170 : decode cX5_init 170 = .ok (.goto (-20), 3) := by decide +kernel
theorem dX5_init_173 : decode cX5_init 173 = .ok (.return_, 1) := by decide +kernel
theorem dX5_thrown_0 : decode cX5_thrown 0 = .ok (.aload_n 0, 1) := by decide +kernel
theorem dX5_thrown_1 : decode cX5_thrown 1 = .ok (.getfield 50, 3) := by decide +kernel
theorem dX5_thrown_4 : decode cX5_thrown 4 = .ok (.ireturn, 1) := by decide +kernel
theorem dX5_fail_0 : decode cX5_fail 0 = .ok (.aload_n 0, 1) := by decide +kernel
theorem dX5_fail_1 : decode cX5_fail 1 = .ok (.iload_n 1, 1) := by decide +kernel
theorem dX5_fail_2 : decode cX5_fail 2 = .ok (.putfield 50, 3) := by decide +kernel
theorem dX5_fail_5 : decode cX5_fail 5 = .ok (.iconst 0, 1) := by decide +kernel
theorem dX5_fail_6 : decode cX5_fail 6 = .ok (.ireturn, 1) := by decide +kernel
theorem dX5_isIn_0 : decode cX5_isIn 0 = .ok (.iload_n 0, 1) := by decide +kernel
theorem dX5_isIn_1 : decode cX5_isIn 1 = .ok (.iload_n 1, 1) := by decide +kernel
theorem dX5_isIn_2 : decode cX5_isIn 2 = .ok (.if_icmp .lt 12, 3) := by decide +kernel
theorem dX5_isIn_5 : decode cX5_isIn 5 = .ok (.iload_n 0, 1) := by decide +kernel
theorem dX5_isIn_6 : decode cX5_isIn 6 = .ok (.iload_n 2, 1) := by decide +kernel
theorem dX5_isIn_7 : decode cX5_isIn 7 = .ok (.if_icmp .gt 7, 3) := by decide +kernel
theorem dX5_isIn_10 : decode cX5_isIn 10 = .ok (.iconst 1, 1) := by decide +kernel
theorem dX5_isIn_11 : decode cX5_isIn 11 = .ok (.goto 4, 3) := by decide +kernel
theorem dX5_isIn_14 : decode cX5_isIn 14 = .ok (.iconst 0, 1) := by decide +kernel
theorem dX5_isIn_15 : decode cX5_isIn 15 = .ok (.ireturn, 1) := by decide +kernel
theorem dX5_isMachine_0 : decode cX5_isMachine 0 = .ok (.iload_n 1, 1) := by decide +kernel
theorem dX5_isMachine_1 : decode cX5_isMachine 1 = .ok (.iconst 0, 1) := by decide +kernel
theorem dX5_isMachine_2 : decode cX5_isMachine 2 = .ok (.aload_n 0, 1) := by decide +kernel
theorem dX5_isMachine_3 : decode cX5_isMachine 3 = .ok (.getfield 54, 3) := by decide +kernel
theorem dX5_isMachine_6 : decode cX5_isMachine 6 = .ok (.iconst 1, 1) := by decide +kernel
theorem dX5_isMachine_7 : decode cX5_isMachine 7 = .ok (.isub, 1) := by decide +kernel
theorem dX5_isMachine_8 : decode cX5_isMachine 8 = .ok (.invokestatic 57, 3) := by decide +kernel
theorem dX5_isMachine_11 : decode cX5_isMachine 11 = .ok (.ireturn, 1) := by decide +kernel
theorem dX5_isSlot_0 : decode cX5_isSlot 0 = .ok (.aload_n 0, 1) := by decide +kernel
theorem dX5_isSlot_1 : decode cX5_isSlot 1 = .ok (.iload_n 1, 1) := by decide +kernel
theorem dX5_isSlot_2 : decode cX5_isSlot 2 = .ok (.invokevirtual 61, 3) := by decide +kernel
theorem dX5_isSlot_5 : decode cX5_isSlot 5 = .ok (.ifCond .eq 16, 3) := by decide +kernel
theorem dX5_isSlot_8 : decode cX5_isSlot 8 = .ok (.iload_n 2, 1) := by decide +kernel
theorem dX5_isSlot_9 : decode cX5_isSlot 9 = .ok (.iconst 0, 1) := by decide +kernel
theorem dX5_isSlot_10 : decode cX5_isSlot 10 = .ok (.iconst 5, 1) := by decide +kernel
theorem dX5_isSlot_11 : decode cX5_isSlot 11 = .ok (.invokestatic 57, 3) := by decide +kernel
theorem dX5_isSlot_14 : decode cX5_isSlot 14 = .ok (.ifCond .eq 7, 3) := by decide +kernel
theorem dX5_isSlot_17 : decode cX5_isSlot 17 = .ok (.iconst 1, 1) := by decide +kernel
theorem dX5_isSlot_18 : decode cX5_isSlot 18 = .ok (.goto 4, 3) := by decide +kernel
theorem dX5_isSlot_21 : decode cX5_isSlot 21 = .ok (.iconst 0, 1) := by decide +kernel
theorem dX5_isSlot_22 : decode cX5_isSlot 22 = .ok (.ireturn, 1) := by decide +kernel
theorem dX5_areMachines_0 : decode cX5_areMachines 0 = .ok (.iload_n 1, 1) := by decide +kernel
theorem dX5_areMachines_1 : decode cX5_areMachines 1 = .ok (.iconst 0, 1) := by decide +kernel
theorem dX5_areMachines_2 : decode cX5_areMachines 2 = .ok (.iconst 1, 1) := by decide +kernel
theorem dX5_areMachines_3 : decode cX5_areMachines 3 = .ok (.aload_n 0, 1) := by decide +kernel
theorem dX5_areMachines_4 : decode cX5_areMachines 4 = .ok (.getfield 54, 3) := by decide +kernel
theorem dX5_areMachines_7 : decode cX5_areMachines 7 = .ok (.ishl, 1) := by decide +kernel
theorem dX5_areMachines_8 : decode cX5_areMachines 8 = .ok (.iconst 1, 1) := by decide +kernel
theorem dX5_areMachines_9 : decode cX5_areMachines 9 = .ok (.isub, 1) := by decide +kernel
theorem dX5_areMachines_10 : decode cX5_areMachines 10 = .ok (.invokestatic 57, 3) := by decide +kernel
theorem dX5_areMachines_13 : decode cX5_areMachines 13 = .ok (.ireturn, 1) := by decide +kernel
theorem dX5_has_0 : decode cX5_has 0 = .ok (.iload_n 0, 1) := by decide +kernel
theorem dX5_has_1 : decode cX5_has 1 = .ok (.iload_n 1, 1) := by decide +kernel
theorem dX5_has_2 : decode cX5_has 2 = .ok (.ishr, 1) := by decide +kernel
theorem dX5_has_3 : decode cX5_has 3 = .ok (.iconst 1, 1) := by decide +kernel
theorem dX5_has_4 : decode cX5_has 4 = .ok (.iand, 1) := by decide +kernel
theorem dX5_has_5 : decode cX5_has 5 = .ok (.iconst 1, 1) := by decide +kernel
theorem dX5_has_6 : decode cX5_has 6 = .ok (.if_icmp .ne 7, 3) := by decide +kernel
theorem dX5_has_9 : decode cX5_has 9 = .ok (.iconst 1, 1) := by decide +kernel
theorem dX5_has_10 : decode cX5_has 10 = .ok (.goto 4, 3) := by decide +kernel
theorem dX5_has_13 : decode cX5_has 13 = .ok (.iconst 0, 1) := by decide +kernel
theorem dX5_has_14 : decode cX5_has 14 = .ok (.ireturn, 1) := by decide +kernel
theorem dX5_addMachine_0 : decode cX5_addMachine 0 = .ok (.aload_n 0, 1) := by decide +kernel
theorem dX5_addMachine_1 : decode cX5_addMachine 1 = .ok (.iconst 0, 1) := by decide +kernel
theorem dX5_addMachine_2 : decode cX5_addMachine 2 = .ok (.putfield 50, 3) := by decide +kernel
theorem dX5_addMachine_5 : decode cX5_addMachine 5 = .ok (.iload_n 1, 1) := by decide +kernel
theorem dX5_addMachine_6 : decode cX5_addMachine 6 = .ok (.bipush 100, 2) := by decide +kernel
theorem dX5_addMachine_8 : decode cX5_addMachine 8 = .ok (.ldc 65, 2) := by decide +kernel
theorem dX5_addMachine_10 : decode cX5_addMachine 10 = .ok (.invokestatic 57, 3) := by decide +kernel
theorem dX5_addMachine_13 : decode cX5_addMachine 13 = .ok (.ifCond .ne 9, 3) := by decide +kernel
theorem dX5_addMachine_16 : decode cX5_addMachine 16 = .ok (.aload_n 0, 1) := by decide +kernel
theorem dX5_addMachine_17 : decode cX5_addMachine 17 = .ok (.iconst 1, 1) := by decide +kernel
theorem dX5_addMachine_18 : decode cX5_addMachine 18 = .ok (.invokevirtual 66, 3) := by decide +kernel
theorem dX5_addMachine_21 : decode cX5_addMachine 21 = .ok (.ireturn, 1) := by decide +kernel
theorem dX5_addMachine_22 : decode cX5_addMachine 22 = .ok (.aload_n 0, 1) := by decide +kernel
theorem dX5_addMachine_23 : decode cX5_addMachine 23 = .ok (.getfield 54, 3) := by decide +kernel
theorem dX5_addMachine_26 : decode cX5_addMachine 26 = .ok (.bipush 8, 2) := by decide +kernel
theorem dX5_addMachine_28 : decode cX5_addMachine 28 = .ok (.if_icmp .ne 9, 3) := by decide +kernel
theorem dX5_addMachine_31 : decode cX5_addMachine 31 = .ok (.aload_n 0, 1) := by decide +kernel
theorem dX5_addMachine_32 : decode cX5_addMachine 32 = .ok (.iconst 2, 1) := by decide +kernel
theorem dX5_addMachine_33 : decode cX5_addMachine 33 = .ok (.invokevirtual 66, 3) := by decide +kernel
theorem dX5_addMachine_36 : decode cX5_addMachine 36 = .ok (.ireturn, 1) := by decide +kernel
theorem dX5_addMachine_37 : decode cX5_addMachine 37 = .ok (.aload_n 0, 1) := by decide +kernel
theorem dX5_addMachine_38 : decode cX5_addMachine 38 = .ok (.getfield 9, 3) := by decide +kernel
theorem dX5_addMachine_41 : decode cX5_addMachine 41 = .ok (.aload_n 0, 1) := by decide +kernel
theorem dX5_addMachine_42 : decode cX5_addMachine 42 = .ok (.getfield 54, 3) := by decide +kernel
theorem dX5_addMachine_45 : decode cX5_addMachine 45 = .ok (.iload_n 1, 1) := by decide +kernel
theorem dX5_addMachine_46 : decode cX5_addMachine 46 = .ok (.iastore, 1) := by decide +kernel
theorem dX5_addMachine_47 : decode cX5_addMachine 47 = .ok (.aload_n 0, 1) := by decide +kernel
theorem dX5_addMachine_48 : decode cX5_addMachine 48 = .ok (.dup, 1) := by decide +kernel
theorem dX5_addMachine_49 : decode cX5_addMachine 49 = .ok (.getfield 54, 3) := by decide +kernel
theorem dX5_addMachine_52 : decode cX5_addMachine 52 = .ok (.iconst 1, 1) := by decide +kernel
theorem dX5_addMachine_53 : decode cX5_addMachine 53 = .ok (.iadd, 1) := by decide +kernel
theorem dX5_addMachine_54 : decode cX5_addMachine 54 = .ok (.putfield 54, 3) := by decide +kernel
theorem dX5_addMachine_57 : decode cX5_addMachine 57 = .ok (.aload_n 0, 1) := by decide +kernel
theorem dX5_addMachine_58 : decode cX5_addMachine 58 = .ok (.getfield 54, 3) := by decide +kernel
theorem dX5_addMachine_61 : decode cX5_addMachine 61 = .ok (.iconst 1, 1) := by decide +kernel
theorem dX5_addMachine_62 : decode cX5_addMachine 62 = .ok (.isub, 1) := by decide +kernel
theorem dX5_addMachine_63 : decode cX5_addMachine 63 = .ok (.ireturn, 1) := by decide +kernel
theorem dX5_way_0 : decode cX5_way 0 = .ok (.aload_n 0, 1) := by decide +kernel
theorem dX5_way_1 : decode cX5_way 1 = .ok (.getfield 19, 3) := by decide +kernel
theorem dX5_way_4 : decode cX5_way 4 = .ok (.bipush 9, 2) := by decide +kernel
theorem dX5_way_6 : decode cX5_way 6 = .ok (.iload_n 1, 1) := by decide +kernel
theorem dX5_way_7 : decode cX5_way 7 = .ok (.imul, 1) := by decide +kernel
theorem dX5_way_8 : decode cX5_way 8 = .ok (.iload_n 2, 1) := by decide +kernel
theorem dX5_way_9 : decode cX5_way 9 = .ok (.iadd, 1) := by decide +kernel
theorem dX5_way_10 : decode cX5_way 10 = .ok (.iaload, 1) := by decide +kernel
theorem dX5_way_11 : decode cX5_way 11 = .ok (.ireturn, 1) := by decide +kernel
theorem dX5_setMinutes_0 : decode cX5_setMinutes 0 = .ok (.aload_n 0, 1) := by decide +kernel
theorem dX5_setMinutes_1 : decode cX5_setMinutes 1 = .ok (.iconst 0, 1) := by decide +kernel
theorem dX5_setMinutes_2 : decode cX5_setMinutes 2 = .ok (.putfield 50, 3) := by decide +kernel
theorem dX5_setMinutes_5 : decode cX5_setMinutes 5 = .ok (.iload_n 1, 1) := by decide +kernel
theorem dX5_setMinutes_6 : decode cX5_setMinutes 6 = .ok (.iconst (-1), 1) := by decide +kernel
theorem dX5_setMinutes_7 : decode cX5_setMinutes 7 = .ok (.aload_n 0, 1) := by decide +kernel
theorem dX5_setMinutes_8 : decode cX5_setMinutes 8 = .ok (.getfield 54, 3) := by decide +kernel
theorem dX5_setMinutes_11 : decode cX5_setMinutes 11 = .ok (.iconst 1, 1) := by decide +kernel
theorem dX5_setMinutes_12 : decode cX5_setMinutes 12 = .ok (.isub, 1) := by decide +kernel
theorem dX5_setMinutes_13 : decode cX5_setMinutes 13 = .ok (.invokestatic 57, 3) := by decide +kernel
theorem dX5_setMinutes_16 : decode cX5_setMinutes 16 = .ok (.ifCond .eq 17, 3) := by decide +kernel
theorem dX5_setMinutes_19 : decode cX5_setMinutes 19 = .ok (.iload_n 2, 1) := by decide +kernel
theorem dX5_setMinutes_20 : decode cX5_setMinutes 20 = .ok (.iconst (-1), 1) := by decide +kernel
theorem dX5_setMinutes_21 : decode cX5_setMinutes 21 = .ok (.aload_n 0, 1) := by decide +kernel
theorem dX5_setMinutes_22 : decode cX5_setMinutes 22 = .ok (.getfield 54, 3) := by decide +kernel
theorem dX5_setMinutes_25 : decode cX5_setMinutes 25 = .ok (.iconst 1, 1) := by decide +kernel
theorem dX5_setMinutes_26 : decode cX5_setMinutes 26 = .ok (.isub, 1) := by decide +kernel
theorem dX5_setMinutes_27 : decode cX5_setMinutes 27 = .ok (.invokestatic 57, 3) := by decide +kernel
theorem dX5_setMinutes_30 : decode cX5_setMinutes 30 = .ok (.ifCond .ne 9, 3) := by decide +kernel
theorem dX5_setMinutes_33 : decode cX5_setMinutes 33 = .ok (.aload_n 0, 1) := by decide +kernel
theorem dX5_setMinutes_34 : decode cX5_setMinutes 34 = .ok (.iconst 1, 1) := by decide +kernel
theorem dX5_setMinutes_35 : decode cX5_setMinutes 35 = .ok (.invokevirtual 66, 3) := by decide +kernel
theorem dX5_setMinutes_38 : decode cX5_setMinutes 38 = .ok (.ireturn, 1) := by decide +kernel
theorem dX5_setMinutes_39 : decode cX5_setMinutes 39 = .ok (.iload_n 1, 1) := by decide +kernel
theorem dX5_setMinutes_40 : decode cX5_setMinutes 40 = .ok (.iload_n 2, 1) := by decide +kernel
theorem dX5_setMinutes_41 : decode cX5_setMinutes 41 = .ok (.if_icmp .eq 14, 3) := by decide +kernel
theorem dX5_setMinutes_44 : decode cX5_setMinutes 44 = .ok (.iload_n 3, 1) := by decide +kernel
theorem dX5_setMinutes_45 : decode cX5_setMinutes 45 = .ok (.iconst 1, 1) := by decide +kernel
theorem dX5_setMinutes_46 : decode cX5_setMinutes 46 = .ok (.sipush 200, 3) := by decide +kernel
theorem dX5_setMinutes_49 : decode cX5_setMinutes 49 = .ok (.invokestatic 57, 3) := by decide +kernel
theorem dX5_setMinutes_52 : decode cX5_setMinutes 52 = .ok (.ifCond .ne 9, 3) := by decide +kernel
theorem dX5_setMinutes_55 : decode cX5_setMinutes 55 = .ok (.aload_n 0, 1) := by decide +kernel
theorem dX5_setMinutes_56 : decode cX5_setMinutes 56 = .ok (.iconst 2, 1) := by decide +kernel
theorem dX5_setMinutes_57 : decode cX5_setMinutes 57 = .ok (.invokevirtual 66, 3) := by decide +kernel
theorem dX5_setMinutes_60 : decode cX5_setMinutes 60 = .ok (.ireturn, 1) := by decide +kernel
theorem dX5_setMinutes_61 : decode cX5_setMinutes 61 = .ok (.iload_n 1, 1) := by decide +kernel
theorem dX5_setMinutes_62 : decode cX5_setMinutes 62 = .ok (.ifCond .ge 8, 3) := by decide +kernel
theorem dX5_setMinutes_65 : decode cX5_setMinutes 65 = .ok (.bipush 8, 2) := by decide +kernel
theorem dX5_setMinutes_67 : decode cX5_setMinutes 67 = .ok (.goto 4, 3) := by decide +kernel
theorem dX5_setMinutes_70 : decode cX5_setMinutes 70 = .ok (.iload_n 1, 1) := by decide +kernel
theorem dX5_setMinutes_71 : decode cX5_setMinutes 71 = .ok (.istore 4, 2) := by decide +kernel
theorem dX5_setMinutes_73 : decode cX5_setMinutes 73 = .ok (.iload_n 2, 1) := by decide +kernel
theorem dX5_setMinutes_74 : decode cX5_setMinutes 74 = .ok (.ifCond .ge 8, 3) := by decide +kernel
theorem dX5_setMinutes_77 : decode cX5_setMinutes 77 = .ok (.bipush 8, 2) := by decide +kernel
theorem dX5_setMinutes_79 : decode cX5_setMinutes 79 = .ok (.goto 4, 3) := by decide +kernel
theorem dX5_setMinutes_82 : decode cX5_setMinutes 82 = .ok (.iload_n 2, 1) := by decide +kernel
theorem dX5_setMinutes_83 : decode cX5_setMinutes 83 = .ok (.istore 5, 2) := by decide +kernel
theorem dX5_setMinutes_85 : decode cX5_setMinutes 85 = .ok (.aload_n 0, 1) := by decide +kernel
theorem dX5_setMinutes_86 : decode cX5_setMinutes 86 = .ok (.iload 4, 2) := by decide +kernel
theorem dX5_setMinutes_88 : decode cX5_setMinutes 88 = .ok (.iload 5, 2) := by decide +kernel
theorem dX5_setMinutes_90 : decode cX5_setMinutes 90 = .ok (.invokevirtual 70, 3) := by decide +kernel
theorem dX5_setMinutes_93 : decode cX5_setMinutes 93 = .ok (.istore 6, 2) := by decide +kernel
theorem dX5_setMinutes_95 : decode cX5_setMinutes 95 = .ok (.aload_n 0, 1) := by decide +kernel
theorem dX5_setMinutes_96 : decode cX5_setMinutes 96 = .ok (.getfield 19, 3) := by decide +kernel
theorem dX5_setMinutes_99 : decode cX5_setMinutes 99 = .ok (.bipush 9, 2) := by decide +kernel
theorem dX5_setMinutes_101 : decode cX5_setMinutes 101 = .ok (.iload 4, 2) := by decide +kernel
theorem dX5_setMinutes_103 : decode cX5_setMinutes 103 = .ok (.imul, 1) := by decide +kernel
theorem dX5_setMinutes_104 : decode cX5_setMinutes 104 = .ok (.iload 5, 2) := by decide +kernel
theorem dX5_setMinutes_106 : decode cX5_setMinutes 106 = .ok (.iadd, 1) := by decide +kernel
theorem dX5_setMinutes_107 : decode cX5_setMinutes 107 = .ok (.iload_n 3, 1) := by decide +kernel
theorem dX5_setMinutes_108 : decode cX5_setMinutes 108 = .ok (.iastore, 1) := by decide +kernel
theorem dX5_setMinutes_109 : decode cX5_setMinutes 109 = .ok (.aload_n 0, 1) := by decide +kernel
theorem dX5_setMinutes_110 : decode cX5_setMinutes 110 = .ok (.getfield 19, 3) := by decide +kernel
theorem dX5_setMinutes_113 : decode cX5_setMinutes 113 = .ok (.bipush 9, 2) := by decide +kernel
theorem dX5_setMinutes_115 : decode cX5_setMinutes 115 = .ok (.iload 5, 2) := by decide +kernel
theorem dX5_setMinutes_117 : decode cX5_setMinutes 117 = .ok (.imul, 1) := by decide +kernel
theorem dX5_setMinutes_118 : decode cX5_setMinutes 118 = .ok (.iload 4, 2) := by decide +kernel
theorem dX5_setMinutes_120 : decode cX5_setMinutes 120 = .ok (.iadd, 1) := by decide +kernel
theorem dX5_setMinutes_121 : decode cX5_setMinutes 121 = .ok (.iload_n 3, 1) := by decide +kernel
theorem dX5_setMinutes_122 : decode cX5_setMinutes 122 = .ok (.iastore, 1) := by decide +kernel
theorem dX5_setMinutes_123 : decode cX5_setMinutes 123 = .ok (.iload 6, 2) := by decide +kernel
theorem dX5_setMinutes_125 : decode cX5_setMinutes 125 = .ok (.ireturn, 1) := by decide +kernel
theorem dX5_setSlot_0 : decode cX5_setSlot 0 = .ok (.aload_n 0, 1) := by decide +kernel
theorem dX5_setSlot_1 : decode cX5_setSlot 1 = .ok (.iconst 0, 1) := by decide +kernel
theorem dX5_setSlot_2 : decode cX5_setSlot 2 = .ok (.putfield 50, 3) := by decide +kernel
theorem dX5_setSlot_5 : decode cX5_setSlot 5 = .ok (.aload_n 0, 1) := by decide +kernel
theorem dX5_setSlot_6 : decode cX5_setSlot 6 = .ok (.iload_n 1, 1) := by decide +kernel
theorem dX5_setSlot_7 : decode cX5_setSlot 7 = .ok (.iload_n 2, 1) := by decide +kernel
theorem dX5_setSlot_8 : decode cX5_setSlot 8 = .ok (.invokevirtual 74, 3) := by decide +kernel
theorem dX5_setSlot_11 : decode cX5_setSlot 11 = .ok (.ifCond .ne 9, 3) := by decide +kernel
theorem dX5_setSlot_14 : decode cX5_setSlot 14 = .ok (.aload_n 0, 1) := by decide +kernel
theorem dX5_setSlot_15 : decode cX5_setSlot 15 = .ok (.iconst 1, 1) := by decide +kernel
theorem dX5_setSlot_16 : decode cX5_setSlot 16 = .ok (.invokevirtual 66, 3) := by decide +kernel
theorem dX5_setSlot_19 : decode cX5_setSlot 19 = .ok (.ireturn, 1) := by decide +kernel
theorem dX5_setSlot_20 : decode cX5_setSlot 20 = .ok (.iload_n 3, 1) := by decide +kernel
theorem dX5_setSlot_21 : decode cX5_setSlot 21 = .ok (.iconst 0, 1) := by decide +kernel
theorem dX5_setSlot_22 : decode cX5_setSlot 22 = .ok (.bipush 30, 2) := by decide +kernel
theorem dX5_setSlot_24 : decode cX5_setSlot 24 = .ok (.invokestatic 57, 3) := by decide +kernel
theorem dX5_setSlot_27 : decode cX5_setSlot 27 = .ok (.ifCond .eq 14, 3) := by decide +kernel
theorem dX5_setSlot_30 : decode cX5_setSlot 30 = .ok (.iload 4, 2) := by decide +kernel
theorem dX5_setSlot_32 : decode cX5_setSlot 32 = .ok (.iconst 0, 1) := by decide +kernel
theorem dX5_setSlot_33 : decode cX5_setSlot 33 = .ok (.bipush 20, 2) := by decide +kernel
theorem dX5_setSlot_35 : decode cX5_setSlot 35 = .ok (.invokestatic 57, 3) := by decide +kernel
theorem dX5_setSlot_38 : decode cX5_setSlot 38 = .ok (.ifCond .ne 9, 3) := by decide +kernel
theorem dX5_setSlot_41 : decode cX5_setSlot 41 = .ok (.aload_n 0, 1) := by decide +kernel
theorem dX5_setSlot_42 : decode cX5_setSlot 42 = .ok (.iconst 2, 1) := by decide +kernel
theorem dX5_setSlot_43 : decode cX5_setSlot 43 = .ok (.invokevirtual 66, 3) := by decide +kernel
theorem dX5_setSlot_46 : decode cX5_setSlot 46 = .ok (.ireturn, 1) := by decide +kernel
theorem dX5_setSlot_47 : decode cX5_setSlot 47 = .ok (.bipush 6, 2) := by decide +kernel
theorem dX5_setSlot_49 : decode cX5_setSlot 49 = .ok (.iload_n 1, 1) := by decide +kernel
theorem dX5_setSlot_50 : decode cX5_setSlot 50 = .ok (.imul, 1) := by decide +kernel
theorem dX5_setSlot_51 : decode cX5_setSlot 51 = .ok (.iload_n 2, 1) := by decide +kernel
theorem dX5_setSlot_52 : decode cX5_setSlot 52 = .ok (.iadd, 1) := by decide +kernel
theorem dX5_setSlot_53 : decode cX5_setSlot 53 = .ok (.istore 5, 2) := by decide +kernel
theorem dX5_setSlot_55 : decode cX5_setSlot 55 = .ok (.aload_n 0, 1) := by decide +kernel
theorem dX5_setSlot_56 : decode cX5_setSlot 56 = .ok (.getfield 22, 3) := by decide +kernel
theorem dX5_setSlot_59 : decode cX5_setSlot 59 = .ok (.iload 5, 2) := by decide +kernel
theorem dX5_setSlot_61 : decode cX5_setSlot 61 = .ok (.iaload, 1) := by decide +kernel
theorem dX5_setSlot_62 : decode cX5_setSlot 62 = .ok (.istore 6, 2) := by decide +kernel
theorem dX5_setSlot_64 : decode cX5_setSlot 64 = .ok (.aload_n 0, 1) := by decide +kernel
theorem dX5_setSlot_65 : decode cX5_setSlot 65 = .ok (.getfield 22, 3) := by decide +kernel
theorem dX5_setSlot_68 : decode cX5_setSlot 68 = .ok (.iload 5, 2) := by decide +kernel
theorem dX5_setSlot_70 : decode cX5_setSlot 70 = .ok (.iload_n 3, 1) := by decide +kernel
theorem dX5_setSlot_71 : decode cX5_setSlot 71 = .ok (.iastore, 1) := by decide +kernel
theorem dX5_setSlot_72 : decode cX5_setSlot 72 = .ok (.aload_n 0, 1) := by decide +kernel
theorem dX5_setSlot_73 : decode cX5_setSlot 73 = .ok (.getfield 31, 3) := by decide +kernel
theorem dX5_setSlot_76 : decode cX5_setSlot 76 = .ok (.iload 5, 2) := by decide +kernel
theorem dX5_setSlot_78 : decode cX5_setSlot 78 = .ok (.iload 4, 2) := by decide +kernel
theorem dX5_setSlot_80 : decode cX5_setSlot 80 = .ok (.iastore, 1) := by decide +kernel
theorem dX5_setSlot_81 : decode cX5_setSlot 81 = .ok (.aload_n 0, 1) := by decide +kernel
theorem dX5_setSlot_82 : decode cX5_setSlot 82 = .ok (.getfield 25, 3) := by decide +kernel
theorem dX5_setSlot_85 : decode cX5_setSlot 85 = .ok (.iload 5, 2) := by decide +kernel
theorem dX5_setSlot_87 : decode cX5_setSlot 87 = .ok (.aload_n 0, 1) := by decide +kernel
theorem dX5_setSlot_88 : decode cX5_setSlot 88 = .ok (.getfield 25, 3) := by decide +kernel
theorem dX5_setSlot_91 : decode cX5_setSlot 91 = .ok (.iload 5, 2) := by decide +kernel
theorem dX5_setSlot_93 : decode cX5_setSlot 93 = .ok (.iaload, 1) := by decide +kernel
theorem dX5_setSlot_94 : decode cX5_setSlot 94 = .ok (.iload_n 3, 1) := by decide +kernel
theorem dX5_setSlot_95 : decode cX5_setSlot 95 = .ok (.invokestatic 78, 3) := by decide +kernel
theorem dX5_setSlot_98 : decode cX5_setSlot 98 = .ok (.iastore, 1) := by decide +kernel
theorem dX5_setSlot_99 : decode cX5_setSlot 99 = .ok (.iload 6, 2) := by decide +kernel
theorem dX5_setSlot_101 : decode cX5_setSlot 101 = .ok (.ireturn, 1) := by decide +kernel
theorem dX5_planPrice_0 : decode cX5_planPrice 0 = .ok (.aload_n 0, 1) := by decide +kernel
theorem dX5_planPrice_1 : decode cX5_planPrice 1 = .ok (.iconst 0, 1) := by decide +kernel
theorem dX5_planPrice_2 : decode cX5_planPrice 2 = .ok (.putfield 50, 3) := by decide +kernel
theorem dX5_planPrice_5 : decode cX5_planPrice 5 = .ok (.aload_n 0, 1) := by decide +kernel
theorem dX5_planPrice_6 : decode cX5_planPrice 6 = .ok (.iload_n 1, 1) := by decide +kernel
theorem dX5_planPrice_7 : decode cX5_planPrice 7 = .ok (.iload_n 2, 1) := by decide +kernel
theorem dX5_planPrice_8 : decode cX5_planPrice 8 = .ok (.invokevirtual 74, 3) := by decide +kernel
theorem dX5_planPrice_11 : decode cX5_planPrice 11 = .ok (.ifCond .ne 9, 3) := by decide +kernel
theorem dX5_planPrice_14 : decode cX5_planPrice 14 = .ok (.aload_n 0, 1) := by decide +kernel
theorem dX5_planPrice_15 : decode cX5_planPrice 15 = .ok (.iconst 1, 1) := by decide +kernel
theorem dX5_planPrice_16 : decode cX5_planPrice 16 = .ok (.invokevirtual 66, 3) := by decide +kernel
theorem dX5_planPrice_19 : decode cX5_planPrice 19 = .ok (.ireturn, 1) := by decide +kernel
theorem dX5_planPrice_20 : decode cX5_planPrice 20 = .ok (.iload_n 3, 1) := by decide +kernel
theorem dX5_planPrice_21 : decode cX5_planPrice 21 = .ok (.aload_n 0, 1) := by decide +kernel
theorem dX5_planPrice_22 : decode cX5_planPrice 22 = .ok (.getfield 83, 3) := by decide +kernel
theorem dX5_planPrice_25 : decode cX5_planPrice 25 = .ok (.sipush 999, 3) := by decide +kernel
theorem dX5_planPrice_28 : decode cX5_planPrice 28 = .ok (.invokestatic 57, 3) := by decide +kernel
theorem dX5_planPrice_31 : decode cX5_planPrice 31 = .ok (.ifCond .eq 15, 3) := by decide +kernel
theorem dX5_planPrice_34 : decode cX5_planPrice 34 = .ok (.iload 4, 2) := by decide +kernel
theorem dX5_planPrice_36 : decode cX5_planPrice 36 = .ok (.iconst 1, 1) := by decide +kernel
theorem dX5_planPrice_37 : decode cX5_planPrice 37 = .ok (.sipush 1000, 3) := by decide +kernel
theorem dX5_planPrice_40 : decode cX5_planPrice 40 = .ok (.invokestatic 57, 3) := by decide +kernel
theorem dX5_planPrice_43 : decode cX5_planPrice 43 = .ok (.ifCond .ne 9, 3) := by decide +kernel
theorem dX5_planPrice_46 : decode cX5_planPrice 46 = .ok (.aload_n 0, 1) := by decide +kernel
theorem dX5_planPrice_47 : decode cX5_planPrice 47 = .ok (.iconst 2, 1) := by decide +kernel
theorem dX5_planPrice_48 : decode cX5_planPrice 48 = .ok (.invokevirtual 66, 3) := by decide +kernel
theorem dX5_planPrice_51 : decode cX5_planPrice 51 = .ok (.ireturn, 1) := by decide +kernel
theorem dX5_planPrice_52 : decode cX5_planPrice 52 = .ok (.iload_n 3, 1) := by decide +kernel
theorem dX5_planPrice_53 : decode cX5_planPrice 53 = .ok (.aload_n 0, 1) := by decide +kernel
theorem dX5_planPrice_54 : decode cX5_planPrice 54 = .ok (.getfield 83, 3) := by decide +kernel
theorem dX5_planPrice_57 : decode cX5_planPrice 57 = .ok (.if_icmp .eq 18, 3) := by decide +kernel
theorem dX5_planPrice_60 : decode cX5_planPrice 60 = .ok (.aload_n 0, 1) := by decide +kernel
theorem dX5_planPrice_61 : decode cX5_planPrice 61 = .ok (.getfield 86, 3) := by decide +kernel
theorem dX5_planPrice_64 : decode cX5_planPrice 64 = .ok (.bipush 20, 2) := by decide +kernel
theorem dX5_planPrice_66 : decode cX5_planPrice 66 = .ok (.if_icmp .ne 9, 3) := by decide +kernel
theorem dX5_planPrice_69 : decode cX5_planPrice 69 = .ok (.aload_n 0, 1) := by decide +kernel
theorem dX5_planPrice_70 : decode cX5_planPrice 70 = .ok (.iconst 3, 1) := by decide +kernel
theorem dX5_planPrice_71 : decode cX5_planPrice 71 = .ok (.invokevirtual 66, 3) := by decide +kernel
theorem dX5_planPrice_74 : decode cX5_planPrice 74 = .ok (.ireturn, 1) := by decide +kernel
theorem dX5_planPrice_75 : decode cX5_planPrice 75 = .ok (.bipush 6, 2) := by decide +kernel
theorem dX5_planPrice_77 : decode cX5_planPrice 77 = .ok (.iload_n 1, 1) := by decide +kernel
theorem dX5_planPrice_78 : decode cX5_planPrice 78 = .ok (.imul, 1) := by decide +kernel
theorem dX5_planPrice_79 : decode cX5_planPrice 79 = .ok (.iload_n 2, 1) := by decide +kernel
theorem dX5_planPrice_80 : decode cX5_planPrice 80 = .ok (.iadd, 1) := by decide +kernel
theorem dX5_planPrice_81 : decode cX5_planPrice 81 = .ok (.istore 5, 2) := by decide +kernel
theorem dX5_planPrice_83 : decode cX5_planPrice 83 = .ok (.iload_n 3, 1) := by decide +kernel
theorem dX5_planPrice_84 : decode cX5_planPrice 84 = .ok (.aload_n 0, 1) := by decide +kernel
theorem dX5_planPrice_85 : decode cX5_planPrice 85 = .ok (.getfield 83, 3) := by decide +kernel
theorem dX5_planPrice_88 : decode cX5_planPrice 88 = .ok (.if_icmp .ne 17, 3) := by decide +kernel
theorem dX5_planPrice_91 : decode cX5_planPrice 91 = .ok (.aload_n 0, 1) := by decide +kernel
theorem dX5_planPrice_92 : decode cX5_planPrice 92 = .ok (.getfield 28, 3) := by decide +kernel
theorem dX5_planPrice_95 : decode cX5_planPrice 95 = .ok (.iload 5, 2) := by decide +kernel
theorem dX5_planPrice_97 : decode cX5_planPrice 97 = .ok (.iload 4, 2) := by decide +kernel
theorem dX5_planPrice_99 : decode cX5_planPrice 99 = .ok (.iastore, 1) := by decide +kernel
theorem dX5_planPrice_100 : decode cX5_planPrice 100 = .ok (.aload_n 0, 1) := by decide +kernel
theorem dX5_planPrice_101 : decode cX5_planPrice 101 = .ok (.getfield 86, 3) := by decide +kernel
theorem dX5_planPrice_104 : decode cX5_planPrice 104 = .ok (.ireturn, 1) := by decide +kernel
theorem dX5_planPrice_105 : decode cX5_planPrice 105 = .ok (.aload_n 0, 1) := by decide +kernel
theorem dX5_planPrice_106 : decode cX5_planPrice 106 = .ok (.getfield 40, 3) := by decide +kernel
theorem dX5_planPrice_109 : decode cX5_planPrice 109 = .ok (.iconst 3, 1) := by decide +kernel
theorem dX5_planPrice_110 : decode cX5_planPrice 110 = .ok (.aload_n 0, 1) := by decide +kernel
theorem dX5_planPrice_111 : decode cX5_planPrice 111 = .ok (.getfield 86, 3) := by decide +kernel
theorem dX5_planPrice_114 : decode cX5_planPrice 114 = .ok (.imul, 1) := by decide +kernel
theorem dX5_planPrice_115 : decode cX5_planPrice 115 = .ok (.iload_n 3, 1) := by decide +kernel
theorem dX5_planPrice_116 : decode cX5_planPrice 116 = .ok (.iastore, 1) := by decide +kernel
theorem dX5_planPrice_117 : decode cX5_planPrice 117 = .ok (.aload_n 0, 1) := by decide +kernel
theorem dX5_planPrice_118 : decode cX5_planPrice 118 = .ok (.getfield 40, 3) := by decide +kernel
theorem dX5_planPrice_121 : decode cX5_planPrice 121 = .ok (.iconst 3, 1) := by decide +kernel
theorem dX5_planPrice_122 : decode cX5_planPrice 122 = .ok (.aload_n 0, 1) := by decide +kernel
theorem dX5_planPrice_123 : decode cX5_planPrice 123 = .ok (.getfield 86, 3) := by decide +kernel
theorem dX5_planPrice_126 : decode cX5_planPrice 126 = .ok (.imul, 1) := by decide +kernel
theorem dX5_planPrice_127 : decode cX5_planPrice 127 = .ok (.iconst 1, 1) := by decide +kernel
theorem dX5_planPrice_128 : decode cX5_planPrice 128 = .ok (.iadd, 1) := by decide +kernel
theorem dX5_planPrice_129 : decode cX5_planPrice 129 = .ok (.iload 5, 2) := by decide +kernel
theorem dX5_planPrice_131 : decode cX5_planPrice 131 = .ok (.iastore, 1) := by decide +kernel
theorem dX5_planPrice_132 : decode cX5_planPrice 132 = .ok (.aload_n 0, 1) := by decide +kernel
theorem dX5_planPrice_133 : decode cX5_planPrice 133 = .ok (.getfield 40, 3) := by decide +kernel
theorem dX5_planPrice_136 : decode cX5_planPrice 136 = .ok (.iconst 3, 1) := by decide +kernel
theorem dX5_planPrice_137 : decode cX5_planPrice 137 = .ok (.aload_n 0, 1) := by decide +kernel
theorem dX5_planPrice_138 : decode cX5_planPrice 138 = .ok (.getfield 86, 3) := by decide +kernel
theorem dX5_planPrice_141 : decode cX5_planPrice 141 = .ok (.imul, 1) := by decide +kernel
theorem dX5_planPrice_142 : decode cX5_planPrice 142 = .ok (.iconst 2, 1) := by decide +kernel
theorem dX5_planPrice_143 : decode cX5_planPrice 143 = .ok (.iadd, 1) := by decide +kernel
theorem dX5_planPrice_144 : decode cX5_planPrice 144 = .ok (.iload 4, 2) := by decide +kernel
theorem dX5_planPrice_146 : decode cX5_planPrice 146 = .ok (.iastore, 1) := by decide +kernel
theorem dX5_planPrice_147 : decode cX5_planPrice 147 = .ok (.aload_n 0, 1) := by decide +kernel
theorem dX5_planPrice_148 : decode cX5_planPrice 148 = .ok (.dup, 1) := by decide +kernel
theorem dX5_planPrice_149 : decode cX5_planPrice 149 = .ok (.getfield 86, 3) := by decide +kernel
theorem dX5_planPrice_152 : decode cX5_planPrice 152 = .ok (.iconst 1, 1) := by decide +kernel
theorem dX5_planPrice_153 : decode cX5_planPrice 153 = .ok (.iadd, 1) := by decide +kernel
theorem dX5_planPrice_154 : decode cX5_planPrice 154 = .ok (.putfield 86, 3) := by decide +kernel
theorem dX5_planPrice_157 : decode cX5_planPrice 157 = .ok (.aload_n 0, 1) := by decide +kernel
theorem dX5_planPrice_158 : decode cX5_planPrice 158 = .ok (.getfield 86, 3) := by decide +kernel
theorem dX5_planPrice_161 : decode cX5_planPrice 161 = .ok (.ireturn, 1) := by decide +kernel
theorem dX5_machineCount_0 : decode cX5_machineCount 0 = .ok (.aload_n 0, 1) := by decide +kernel
theorem dX5_machineCount_1 : decode cX5_machineCount 1 = .ok (.iconst 0, 1) := by decide +kernel
theorem dX5_machineCount_2 : decode cX5_machineCount 2 = .ok (.putfield 50, 3) := by decide +kernel
theorem dX5_machineCount_5 : decode cX5_machineCount 5 = .ok (.aload_n 0, 1) := by decide +kernel
theorem dX5_machineCount_6 : decode cX5_machineCount 6 = .ok (.getfield 54, 3) := by decide +kernel
theorem dX5_machineCount_9 : decode cX5_machineCount 9 = .ok (.ireturn, 1) := by decide +kernel
theorem dX5_slotOf_0 : decode cX5_slotOf 0 = .ok (.iload_n 2, 1) := by decide +kernel
theorem dX5_slotOf_1 : decode cX5_slotOf 1 = .ok (.tableswitch 70 0 4 #[35, 42, 49, 56, 63], 35) := by decide +kernel
theorem dX5_slotOf_36 : decode cX5_slotOf 36 = .ok (.aload_n 0, 1) := by decide +kernel
theorem dX5_slotOf_37 : decode cX5_slotOf 37 = .ok (.getfield 22, 3) := by decide +kernel
theorem dX5_slotOf_40 : decode cX5_slotOf 40 = .ok (.iload_n 1, 1) := by decide +kernel
theorem dX5_slotOf_41 : decode cX5_slotOf 41 = .ok (.iaload, 1) := by decide +kernel
theorem dX5_slotOf_42 : decode cX5_slotOf 42 = .ok (.ireturn, 1) := by decide +kernel
theorem dX5_slotOf_43 : decode cX5_slotOf 43 = .ok (.aload_n 0, 1) := by decide +kernel
theorem dX5_slotOf_44 : decode cX5_slotOf 44 = .ok (.getfield 25, 3) := by decide +kernel
theorem dX5_slotOf_47 : decode cX5_slotOf 47 = .ok (.iload_n 1, 1) := by decide +kernel
theorem dX5_slotOf_48 : decode cX5_slotOf 48 = .ok (.iaload, 1) := by decide +kernel
theorem dX5_slotOf_49 : decode cX5_slotOf 49 = .ok (.ireturn, 1) := by decide +kernel
theorem dX5_slotOf_50 : decode cX5_slotOf 50 = .ok (.aload_n 0, 1) := by decide +kernel
theorem dX5_slotOf_51 : decode cX5_slotOf 51 = .ok (.getfield 28, 3) := by decide +kernel
theorem dX5_slotOf_54 : decode cX5_slotOf 54 = .ok (.iload_n 1, 1) := by decide +kernel
theorem dX5_slotOf_55 : decode cX5_slotOf 55 = .ok (.iaload, 1) := by decide +kernel
theorem dX5_slotOf_56 : decode cX5_slotOf 56 = .ok (.ireturn, 1) := by decide +kernel
theorem dX5_slotOf_57 : decode cX5_slotOf 57 = .ok (.aload_n 0, 1) := by decide +kernel
theorem dX5_slotOf_58 : decode cX5_slotOf 58 = .ok (.getfield 31, 3) := by decide +kernel
theorem dX5_slotOf_61 : decode cX5_slotOf 61 = .ok (.iload_n 1, 1) := by decide +kernel
theorem dX5_slotOf_62 : decode cX5_slotOf 62 = .ok (.iaload, 1) := by decide +kernel
theorem dX5_slotOf_63 : decode cX5_slotOf 63 = .ok (.ireturn, 1) := by decide +kernel
theorem dX5_slotOf_64 : decode cX5_slotOf 64 = .ok (.aload_n 0, 1) := by decide +kernel
theorem dX5_slotOf_65 : decode cX5_slotOf 65 = .ok (.getfield 34, 3) := by decide +kernel
theorem dX5_slotOf_68 : decode cX5_slotOf 68 = .ok (.iload_n 1, 1) := by decide +kernel
theorem dX5_slotOf_69 : decode cX5_slotOf 69 = .ok (.iaload, 1) := by decide +kernel
theorem dX5_slotOf_70 : decode cX5_slotOf 70 = .ok (.ireturn, 1) := by decide +kernel
theorem dX5_slotOf_71 : decode cX5_slotOf 71 = .ok (.aload_n 0, 1) := by decide +kernel
theorem dX5_slotOf_72 : decode cX5_slotOf 72 = .ok (.getfield 37, 3) := by decide +kernel
theorem dX5_slotOf_75 : decode cX5_slotOf 75 = .ok (.iload_n 1, 1) := by decide +kernel
theorem dX5_slotOf_76 : decode cX5_slotOf 76 = .ok (.iaload, 1) := by decide +kernel
theorem dX5_slotOf_77 : decode cX5_slotOf 77 = .ok (.ireturn, 1) := by decide +kernel
theorem dX5_slot_0 : decode cX5_slot 0 = .ok (.aload_n 0, 1) := by decide +kernel
theorem dX5_slot_1 : decode cX5_slot 1 = .ok (.iconst 0, 1) := by decide +kernel
theorem dX5_slot_2 : decode cX5_slot 2 = .ok (.putfield 50, 3) := by decide +kernel
theorem dX5_slot_5 : decode cX5_slot 5 = .ok (.aload_n 0, 1) := by decide +kernel
theorem dX5_slot_6 : decode cX5_slot 6 = .ok (.iload_n 1, 1) := by decide +kernel
theorem dX5_slot_7 : decode cX5_slot 7 = .ok (.iload_n 2, 1) := by decide +kernel
theorem dX5_slot_8 : decode cX5_slot 8 = .ok (.invokevirtual 74, 3) := by decide +kernel
theorem dX5_slot_11 : decode cX5_slot 11 = .ok (.ifCond .eq 26, 3) := by decide +kernel
theorem dX5_slot_14 : decode cX5_slot 14 = .ok (.iload_n 3, 1) := by decide +kernel
theorem dX5_slot_15 : decode cX5_slot 15 = .ok (.iconst 0, 1) := by decide +kernel
theorem dX5_slot_16 : decode cX5_slot 16 = .ok (.iconst 5, 1) := by decide +kernel
theorem dX5_slot_17 : decode cX5_slot 17 = .ok (.invokestatic 57, 3) := by decide +kernel
theorem dX5_slot_20 : decode cX5_slot 20 = .ok (.ifCond .eq 17, 3) := by decide +kernel
theorem dX5_slot_23 : decode cX5_slot 23 = .ok (.aload_n 0, 1) := by decide +kernel
theorem dX5_slot_24 : decode cX5_slot 24 = .ok (.bipush 6, 2) := by decide +kernel
theorem dX5_slot_26 : decode cX5_slot 26 = .ok (.iload_n 1, 1) := by decide +kernel
theorem dX5_slot_27 : decode cX5_slot 27 = .ok (.imul, 1) := by decide +kernel
theorem dX5_slot_28 : decode cX5_slot 28 = .ok (.iload_n 2, 1) := by decide +kernel
theorem dX5_slot_29 : decode cX5_slot 29 = .ok (.iadd, 1) := by decide +kernel
theorem dX5_slot_30 : decode cX5_slot 30 = .ok (.iload_n 3, 1) := by decide +kernel
theorem dX5_slot_31 : decode cX5_slot 31 = .ok (.invokevirtual 89, 3) := by decide +kernel
theorem dX5_slot_34 : decode cX5_slot 34 = .ok (.goto 8, 3) := by decide +kernel
theorem dX5_slot_37 : decode cX5_slot 37 = .ok (.aload_n 0, 1) := by decide +kernel
theorem dX5_slot_38 : decode cX5_slot 38 = .ok (.iconst 1, 1) := by decide +kernel
theorem dX5_slot_39 : decode cX5_slot 39 = .ok (.invokevirtual 66, 3) := by decide +kernel
theorem dX5_slot_42 : decode cX5_slot 42 = .ok (.ireturn, 1) := by decide +kernel
theorem dX5_lacks_0 : decode cX5_lacks 0 = .ok (.iconst 0, 1) := by decide +kernel
theorem dX5_lacks_1 : decode cX5_lacks 1 = .ok (.istore_n 2, 1) := by decide +kernel
theorem dX5_lacks_2 : decode cX5_lacks 2 = .ok (.bipush 6, 2) := by decide +kernel
theorem dX5_lacks_4 : decode cX5_lacks 4 = .ok (.iload_n 1, 1) := by decide +kernel
theorem dX5_lacks_5 : decode cX5_lacks 5 = .ok (.imul, 1) := by decide +kernel
theorem dX5_lacks_6 : decode cX5_lacks 6 = .ok (.istore_n 3, 1) := by decide +kernel
theorem dX5_lacks_7 : decode cX5_lacks 7 = .ok (.iload_n 3, 1) := by decide +kernel
theorem dX5_lacks_8 : decode cX5_lacks 8 = .ok (.bipush 6, 2) := by decide +kernel
theorem dX5_lacks_10 : decode cX5_lacks 10 = .ok (.iload_n 1, 1) := by decide +kernel
theorem dX5_lacks_11 : decode cX5_lacks 11 = .ok (.iconst 1, 1) := by decide +kernel
theorem dX5_lacks_12 : decode cX5_lacks 12 = .ok (.iadd, 1) := by decide +kernel
theorem dX5_lacks_13 : decode cX5_lacks 13 = .ok (.imul, 1) := by decide +kernel
theorem dX5_lacks_14 : decode cX5_lacks 14 = .ok (.if_icmp .ge 25, 3) := by decide +kernel
theorem dX5_lacks_17 : decode cX5_lacks 17 = .ok (.iload_n 2, 1) := by decide +kernel
theorem dX5_lacks_18 : decode cX5_lacks 18 = .ok (.aload_n 0, 1) := by decide +kernel
theorem dX5_lacks_19 : decode cX5_lacks 19 = .ok (.getfield 22, 3) := by decide +kernel
theorem dX5_lacks_22 : decode cX5_lacks 22 = .ok (.iload_n 3, 1) := by decide +kernel
theorem dX5_lacks_23 : decode cX5_lacks 23 = .ok (.iaload, 1) := by decide +kernel
theorem dX5_lacks_24 : decode cX5_lacks 24 = .ok (.aload_n 0, 1) := by decide +kernel
theorem dX5_lacks_25 : decode cX5_lacks 25 = .ok (.getfield 25, 3) := by decide +kernel
theorem dX5_lacks_28 : decode cX5_lacks 28 = .ok (.iload_n 3, 1) := by decide +kernel
theorem dX5_lacks_29 : decode cX5_lacks 29 = .ok (.iaload, 1) := by decide +kernel
theorem dX5_lacks_30 : decode cX5_lacks 30 = .ok (.isub, 1) := by decide +kernel
theorem dX5_lacks_31 : decode cX5_lacks 31 = .ok (.iadd, 1) := by decide +kernel
theorem dX5_lacks_32 : decode cX5_lacks 32 = .ok (.istore_n 2, 1) := by decide +kernel
theorem dX5_lacks_33 : decode cX5_lacks 33 = .ok (.iinc 3 1, 3) := by decide +kernel
theorem dX5_lacks_36 : decode cX5_lacks 36 = .ok (.goto (-29), 3) := by decide +kernel
theorem dX5_lacks_39 : decode cX5_lacks 39 = .ok (.iload_n 2, 1) := by decide +kernel
theorem dX5_lacks_40 : decode cX5_lacks 40 = .ok (.ireturn, 1) := by decide +kernel
theorem dX5_gain_0 : decode cX5_gain 0 = .ok (.aload_n 0, 1) := by decide +kernel
theorem dX5_gain_1 : decode cX5_gain 1 = .ok (.getfield 13, 3) := by decide +kernel
theorem dX5_gain_4 : decode cX5_gain 4 = .ok (.iload_n 1, 1) := by decide +kernel
theorem dX5_gain_5 : decode cX5_gain 5 = .ok (.iaload, 1) := by decide +kernel
theorem dX5_gain_6 : decode cX5_gain 6 = .ok (.istore_n 2, 1) := by decide +kernel
theorem dX5_gain_7 : decode cX5_gain 7 = .ok (.bipush 6, 2) := by decide +kernel
theorem dX5_gain_9 : decode cX5_gain 9 = .ok (.iload_n 1, 1) := by decide +kernel
theorem dX5_gain_10 : decode cX5_gain 10 = .ok (.imul, 1) := by decide +kernel
theorem dX5_gain_11 : decode cX5_gain 11 = .ok (.istore_n 3, 1) := by decide +kernel
theorem dX5_gain_12 : decode cX5_gain 12 = .ok (.iload_n 3, 1) := by decide +kernel
theorem dX5_gain_13 : decode cX5_gain 13 = .ok (.bipush 6, 2) := by decide +kernel
theorem dX5_gain_15 : decode cX5_gain 15 = .ok (.iload_n 1, 1) := by decide +kernel
theorem dX5_gain_16 : decode cX5_gain 16 = .ok (.iconst 1, 1) := by decide +kernel
theorem dX5_gain_17 : decode cX5_gain 17 = .ok (.iadd, 1) := by decide +kernel
theorem dX5_gain_18 : decode cX5_gain 18 = .ok (.imul, 1) := by decide +kernel
theorem dX5_gain_19 : decode cX5_gain 19 = .ok (.if_icmp .ge 32, 3) := by decide +kernel
theorem dX5_gain_22 : decode cX5_gain 22 = .ok (.iload_n 2, 1) := by decide +kernel
theorem dX5_gain_23 : decode cX5_gain 23 = .ok (.aload_n 0, 1) := by decide +kernel
theorem dX5_gain_24 : decode cX5_gain 24 = .ok (.getfield 22, 3) := by decide +kernel
theorem dX5_gain_27 : decode cX5_gain 27 = .ok (.iload_n 3, 1) := by decide +kernel
theorem dX5_gain_28 : decode cX5_gain 28 = .ok (.iaload, 1) := by decide +kernel
theorem dX5_gain_29 : decode cX5_gain 29 = .ok (.aload_n 0, 1) := by decide +kernel
theorem dX5_gain_30 : decode cX5_gain 30 = .ok (.getfield 25, 3) := by decide +kernel
theorem dX5_gain_33 : decode cX5_gain 33 = .ok (.iload_n 3, 1) := by decide +kernel
theorem dX5_gain_34 : decode cX5_gain 34 = .ok (.iaload, 1) := by decide +kernel
theorem dX5_gain_35 : decode cX5_gain 35 = .ok (.isub, 1) := by decide +kernel
theorem dX5_gain_36 : decode cX5_gain 36 = .ok (.aload_n 0, 1) := by decide +kernel
theorem dX5_gain_37 : decode cX5_gain 37 = .ok (.getfield 28, 3) := by decide +kernel
theorem dX5_gain_40 : decode cX5_gain 40 = .ok (.iload_n 3, 1) := by decide +kernel
theorem dX5_gain_41 : decode cX5_gain 41 = .ok (.iaload, 1) := by decide +kernel
theorem dX5_gain_42 : decode cX5_gain 42 = .ok (.imul, 1) := by decide +kernel
theorem dX5_gain_43 : decode cX5_gain 43 = .ok (.iadd, 1) := by decide +kernel
theorem dX5_gain_44 : decode cX5_gain 44 = .ok (.istore_n 2, 1) := by decide +kernel
theorem dX5_gain_45 : decode cX5_gain 45 = .ok (.iinc 3 1, 3) := by decide +kernel
theorem dX5_gain_48 : decode cX5_gain 48 = .ok (.goto (-36), 3) := by decide +kernel
theorem dX5_gain_51 : decode cX5_gain 51 = .ok (.iload_n 2, 1) := by decide +kernel
theorem dX5_gain_52 : decode cX5_gain 52 = .ok (.ireturn, 1) := by decide +kernel
theorem dX5_told_0 : decode cX5_told 0 = .ok (.iload_n 2, 1) := by decide +kernel
theorem dX5_told_1 : decode cX5_told 1 = .ok (.ifCond .ne 12, 3) := by decide +kernel
theorem dX5_told_4 : decode cX5_told 4 = .ok (.aload_n 0, 1) := by decide +kernel
theorem dX5_told_5 : decode cX5_told 5 = .ok (.getfield 13, 3) := by decide +kernel
theorem dX5_told_8 : decode cX5_told 8 = .ok (.iload_n 1, 1) := by decide +kernel
theorem dX5_told_9 : decode cX5_told 9 = .ok (.iaload, 1) := by decide +kernel
theorem dX5_told_10 : decode cX5_told 10 = .ok (.goto 49, 3) := by decide +kernel
theorem dX5_told_13 : decode cX5_told 13 = .ok (.iload_n 2, 1) := by decide +kernel
theorem dX5_told_14 : decode cX5_told 14 = .ok (.iconst 1, 1) := by decide +kernel
theorem dX5_told_15 : decode cX5_told 15 = .ok (.if_icmp .ne 12, 3) := by decide +kernel
theorem dX5_told_18 : decode cX5_told 18 = .ok (.aload_n 0, 1) := by decide +kernel
theorem dX5_told_19 : decode cX5_told 19 = .ok (.getfield 9, 3) := by decide +kernel
theorem dX5_told_22 : decode cX5_told 22 = .ok (.iload_n 1, 1) := by decide +kernel
theorem dX5_told_23 : decode cX5_told 23 = .ok (.iaload, 1) := by decide +kernel
theorem dX5_told_24 : decode cX5_told 24 = .ok (.goto 35, 3) := by decide +kernel
theorem dX5_told_27 : decode cX5_told 27 = .ok (.iload_n 2, 1) := by decide +kernel
theorem dX5_told_28 : decode cX5_told 28 = .ok (.iconst 2, 1) := by decide +kernel
theorem dX5_told_29 : decode cX5_told 29 = .ok (.if_icmp .ne 11, 3) := by decide +kernel
theorem dX5_told_32 : decode cX5_told 32 = .ok (.aload_n 0, 1) := by decide +kernel
theorem dX5_told_33 : decode cX5_told 33 = .ok (.iload_n 1, 1) := by decide +kernel
theorem dX5_told_34 : decode cX5_told 34 = .ok (.invokevirtual 92, 3) := by decide +kernel
theorem dX5_told_37 : decode cX5_told 37 = .ok (.goto 22, 3) := by decide +kernel
theorem dX5_told_40 : decode cX5_told 40 = .ok (.iload_n 2, 1) := by decide +kernel
theorem dX5_told_41 : decode cX5_told 41 = .ok (.iconst 3, 1) := by decide +kernel
theorem dX5_told_42 : decode cX5_told 42 = .ok (.if_icmp .ne 11, 3) := by decide +kernel
theorem dX5_told_45 : decode cX5_told 45 = .ok (.aload_n 0, 1) := by decide +kernel
theorem dX5_told_46 : decode cX5_told 46 = .ok (.iload_n 1, 1) := by decide +kernel
theorem dX5_told_47 : decode cX5_told 47 = .ok (.invokevirtual 95, 3) := by decide +kernel
theorem dX5_told_50 : decode cX5_told 50 = .ok (.goto 9, 3) := by decide +kernel
theorem dX5_told_53 : decode cX5_told 53 = .ok (.aload_n 0, 1) := by decide +kernel
theorem dX5_told_54 : decode cX5_told 54 = .ok (.getfield 16, 3) := by decide +kernel
theorem dX5_told_57 : decode cX5_told 57 = .ok (.iload_n 1, 1) := by decide +kernel
theorem dX5_told_58 : decode cX5_told 58 = .ok (.iaload, 1) := by decide +kernel
theorem dX5_told_59 : decode cX5_told 59 = .ok (.ireturn, 1) := by decide +kernel
theorem dX5_machine_0 : decode cX5_machine 0 = .ok (.aload_n 0, 1) := by decide +kernel
theorem dX5_machine_1 : decode cX5_machine 1 = .ok (.iconst 0, 1) := by decide +kernel
theorem dX5_machine_2 : decode cX5_machine 2 = .ok (.putfield 50, 3) := by decide +kernel
theorem dX5_machine_5 : decode cX5_machine 5 = .ok (.aload_n 0, 1) := by decide +kernel
theorem dX5_machine_6 : decode cX5_machine 6 = .ok (.iload_n 1, 1) := by decide +kernel
theorem dX5_machine_7 : decode cX5_machine 7 = .ok (.invokevirtual 61, 3) := by decide +kernel
theorem dX5_machine_10 : decode cX5_machine 10 = .ok (.ifCond .eq 21, 3) := by decide +kernel
theorem dX5_machine_13 : decode cX5_machine 13 = .ok (.iload_n 2, 1) := by decide +kernel
theorem dX5_machine_14 : decode cX5_machine 14 = .ok (.iconst 0, 1) := by decide +kernel
theorem dX5_machine_15 : decode cX5_machine 15 = .ok (.iconst 4, 1) := by decide +kernel
theorem dX5_machine_16 : decode cX5_machine 16 = .ok (.invokestatic 57, 3) := by decide +kernel
theorem dX5_machine_19 : decode cX5_machine 19 = .ok (.ifCond .eq 12, 3) := by decide +kernel
theorem dX5_machine_22 : decode cX5_machine 22 = .ok (.aload_n 0, 1) := by decide +kernel
theorem dX5_machine_23 : decode cX5_machine 23 = .ok (.iload_n 1, 1) := by decide +kernel
theorem dX5_machine_24 : decode cX5_machine 24 = .ok (.iload_n 2, 1) := by decide +kernel
theorem dX5_machine_25 : decode cX5_machine 25 = .ok (.invokevirtual 98, 3) := by decide +kernel
theorem dX5_machine_28 : decode cX5_machine 28 = .ok (.goto 8, 3) := by decide +kernel
theorem dX5_machine_31 : decode cX5_machine 31 = .ok (.aload_n 0, 1) := by decide +kernel
theorem dX5_machine_32 : decode cX5_machine 32 = .ok (.iconst 1, 1) := by decide +kernel
theorem dX5_machine_33 : decode cX5_machine 33 = .ok (.invokevirtual 66, 3) := by decide +kernel
theorem dX5_machine_36 : decode cX5_machine 36 = .ok (.ireturn, 1) := by decide +kernel
theorem dX5_runsOut_0 : decode cX5_runsOut 0 = .ok (.aload_n 0, 1) := by decide +kernel
theorem dX5_runsOut_1 : decode cX5_runsOut 1 = .ok (.iconst 0, 1) := by decide +kernel
theorem dX5_runsOut_2 : decode cX5_runsOut 2 = .ok (.putfield 50, 3) := by decide +kernel
theorem dX5_runsOut_5 : decode cX5_runsOut 5 = .ok (.aload_n 0, 1) := by decide +kernel
theorem dX5_runsOut_6 : decode cX5_runsOut 6 = .ok (.iload_n 1, 1) := by decide +kernel
theorem dX5_runsOut_7 : decode cX5_runsOut 7 = .ok (.iload_n 2, 1) := by decide +kernel
theorem dX5_runsOut_8 : decode cX5_runsOut 8 = .ok (.invokevirtual 74, 3) := by decide +kernel
theorem dX5_runsOut_11 : decode cX5_runsOut 11 = .ok (.ifCond .ne 9, 3) := by decide +kernel
theorem dX5_runsOut_14 : decode cX5_runsOut 14 = .ok (.aload_n 0, 1) := by decide +kernel
theorem dX5_runsOut_15 : decode cX5_runsOut 15 = .ok (.iconst 1, 1) := by decide +kernel
theorem dX5_runsOut_16 : decode cX5_runsOut 16 = .ok (.invokevirtual 66, 3) := by decide +kernel
theorem dX5_runsOut_19 : decode cX5_runsOut 19 = .ok (.ireturn, 1) := by decide +kernel
theorem dX5_runsOut_20 : decode cX5_runsOut 20 = .ok (.bipush 6, 2) := by decide +kernel
theorem dX5_runsOut_22 : decode cX5_runsOut 22 = .ok (.iload_n 1, 1) := by decide +kernel
theorem dX5_runsOut_23 : decode cX5_runsOut 23 = .ok (.imul, 1) := by decide +kernel
theorem dX5_runsOut_24 : decode cX5_runsOut 24 = .ok (.iload_n 2, 1) := by decide +kernel
theorem dX5_runsOut_25 : decode cX5_runsOut 25 = .ok (.iadd, 1) := by decide +kernel
theorem dX5_runsOut_26 : decode cX5_runsOut 26 = .ok (.istore_n 3, 1) := by decide +kernel
theorem dX5_runsOut_27 : decode cX5_runsOut 27 = .ok (.aload_n 0, 1) := by decide +kernel
theorem dX5_runsOut_28 : decode cX5_runsOut 28 = .ok (.getfield 25, 3) := by decide +kernel
theorem dX5_runsOut_31 : decode cX5_runsOut 31 = .ok (.iload_n 3, 1) := by decide +kernel
theorem dX5_runsOut_32 : decode cX5_runsOut 32 = .ok (.iaload, 1) := by decide +kernel
theorem dX5_runsOut_33 : decode cX5_runsOut 33 = .ok (.ifCond .eq 12, 3) := by decide +kernel
theorem dX5_runsOut_36 : decode cX5_runsOut 36 = .ok (.aload_n 0, 1) := by decide +kernel
theorem dX5_runsOut_37 : decode cX5_runsOut 37 = .ok (.getfield 31, 3) := by decide +kernel
theorem dX5_runsOut_40 : decode cX5_runsOut 40 = .ok (.iload_n 3, 1) := by decide +kernel
theorem dX5_runsOut_41 : decode cX5_runsOut 41 = .ok (.iaload, 1) := by decide +kernel
theorem dX5_runsOut_42 : decode cX5_runsOut 42 = .ok (.ifCond .ne 5, 3) := by decide +kernel
theorem dX5_runsOut_45 : decode cX5_runsOut 45 = .ok (.iconst (-1), 1) := by decide +kernel
theorem dX5_runsOut_46 : decode cX5_runsOut 46 = .ok (.ireturn, 1) := by decide +kernel
theorem dX5_runsOut_47 : decode cX5_runsOut 47 = .ok (.aload_n 0, 1) := by decide +kernel
theorem dX5_runsOut_48 : decode cX5_runsOut 48 = .ok (.getfield 83, 3) := by decide +kernel
theorem dX5_runsOut_51 : decode cX5_runsOut 51 = .ok (.istore 4, 2) := by decide +kernel
theorem dX5_runsOut_53 : decode cX5_runsOut 53 = .ok (.aload_n 0, 1) := by decide +kernel
theorem dX5_runsOut_54 : decode cX5_runsOut 54 = .ok (.getfield 25, 3) := by decide +kernel
theorem dX5_runsOut_57 : decode cX5_runsOut 57 = .ok (.iload_n 3, 1) := by decide +kernel
theorem dX5_runsOut_58 : decode cX5_runsOut 58 = .ok (.iaload, 1) := by decide +kernel
theorem dX5_runsOut_59 : decode cX5_runsOut 59 = .ok (.aload_n 0, 1) := by decide +kernel
theorem dX5_runsOut_60 : decode cX5_runsOut 60 = .ok (.getfield 31, 3) := by decide +kernel
theorem dX5_runsOut_63 : decode cX5_runsOut 63 = .ok (.iload_n 3, 1) := by decide +kernel
theorem dX5_runsOut_64 : decode cX5_runsOut 64 = .ok (.iaload, 1) := by decide +kernel
theorem dX5_runsOut_65 : decode cX5_runsOut 65 = .ok (.isub, 1) := by decide +kernel
theorem dX5_runsOut_66 : decode cX5_runsOut 66 = .ok (.istore 5, 2) := by decide +kernel
theorem dX5_runsOut_68 : decode cX5_runsOut 68 = .ok (.iload 5, 2) := by decide +kernel
theorem dX5_runsOut_70 : decode cX5_runsOut 70 = .ok (.ifCond .le 20, 3) := by decide +kernel
theorem dX5_runsOut_73 : decode cX5_runsOut 73 = .ok (.iinc 4 1, 3) := by decide +kernel
theorem dX5_runsOut_76 : decode cX5_runsOut 76 = .ok (.iload 5, 2) := by decide +kernel
theorem dX5_runsOut_78 : decode cX5_runsOut 78 = .ok (.aload_n 0, 1) := by decide +kernel
theorem dX5_runsOut_79 : decode cX5_runsOut 79 = .ok (.getfield 31, 3) := by decide +kernel
theorem dX5_runsOut_82 : decode cX5_runsOut 82 = .ok (.iload_n 3, 1) := by decide +kernel
theorem dX5_runsOut_83 : decode cX5_runsOut 83 = .ok (.iaload, 1) := by decide +kernel
theorem dX5_runsOut_84 : decode cX5_runsOut 84 = .ok (.isub, 1) := by decide +kernel
theorem dX5_runsOut_85 : decode cX5_runsOut 85 = .ok (.istore 5, 2) := by decide +kernel
theorem dX5_runsOut_87 : decode cX5_runsOut 87 = .ok (.goto (-19), 3) := by decide +kernel
theorem dX5_runsOut_90 : decode cX5_runsOut 90 = .ok (.iload 4, 2) := by decide +kernel
theorem dX5_runsOut_92 : decode cX5_runsOut 92 = .ok (.ireturn, 1) := by decide +kernel
theorem dX5_sell_0 : decode cX5_sell 0 = .ok (.iload_n 1, 1) := by decide +kernel
theorem dX5_sell_1 : decode cX5_sell 1 = .ok (.bipush 6, 2) := by decide +kernel
theorem dX5_sell_3 : decode cX5_sell 3 = .ok (.idiv, 1) := by decide +kernel
theorem dX5_sell_4 : decode cX5_sell 4 = .ok (.istore_n 2, 1) := by decide +kernel
theorem dX5_sell_5 : decode cX5_sell 5 = .ok (.aload_n 0, 1) := by decide +kernel
theorem dX5_sell_6 : decode cX5_sell 6 = .ok (.getfield 25, 3) := by decide +kernel
theorem dX5_sell_9 : decode cX5_sell 9 = .ok (.iload_n 1, 1) := by decide +kernel
theorem dX5_sell_10 : decode cX5_sell 10 = .ok (.iaload, 1) := by decide +kernel
theorem dX5_sell_11 : decode cX5_sell 11 = .ok (.ifCond .le 29, 3) := by decide +kernel
theorem dX5_sell_14 : decode cX5_sell 14 = .ok (.aload_n 0, 1) := by decide +kernel
theorem dX5_sell_15 : decode cX5_sell 15 = .ok (.getfield 13, 3) := by decide +kernel
theorem dX5_sell_18 : decode cX5_sell 18 = .ok (.iload_n 2, 1) := by decide +kernel
theorem dX5_sell_19 : decode cX5_sell 19 = .ok (.iaload, 1) := by decide +kernel
theorem dX5_sell_20 : decode cX5_sell 20 = .ok (.aload_n 0, 1) := by decide +kernel
theorem dX5_sell_21 : decode cX5_sell 21 = .ok (.getfield 28, 3) := by decide +kernel
theorem dX5_sell_24 : decode cX5_sell 24 = .ok (.iload_n 1, 1) := by decide +kernel
theorem dX5_sell_25 : decode cX5_sell 25 = .ok (.iaload, 1) := by decide +kernel
theorem dX5_sell_26 : decode cX5_sell 26 = .ok (.iadd, 1) := by decide +kernel
theorem dX5_sell_27 : decode cX5_sell 27 = .ok (.aload_n 0, 1) := by decide +kernel
theorem dX5_sell_28 : decode cX5_sell 28 = .ok (.getfield 9, 3) := by decide +kernel
theorem dX5_sell_31 : decode cX5_sell 31 = .ok (.iload_n 2, 1) := by decide +kernel
theorem dX5_sell_32 : decode cX5_sell 32 = .ok (.iaload, 1) := by decide +kernel
theorem dX5_sell_33 : decode cX5_sell 33 = .ok (.if_icmp .gt 7, 3) := by decide +kernel
theorem dX5_sell_36 : decode cX5_sell 36 = .ok (.iconst 1, 1) := by decide +kernel
theorem dX5_sell_37 : decode cX5_sell 37 = .ok (.goto 4, 3) := by decide +kernel
theorem dX5_sell_40 : decode cX5_sell 40 = .ok (.iconst 0, 1) := by decide +kernel
theorem dX5_sell_41 : decode cX5_sell 41 = .ok (.istore_n 3, 1) := by decide +kernel
theorem dX5_sell_42 : decode cX5_sell 42 = .ok (.iload_n 3, 1) := by decide +kernel
theorem dX5_sell_43 : decode cX5_sell 43 = .ok (.ifCond .eq 41, 3) := by decide +kernel
theorem dX5_sell_46 : decode cX5_sell 46 = .ok (.aload_n 0, 1) := by decide +kernel
theorem dX5_sell_47 : decode cX5_sell 47 = .ok (.getfield 25, 3) := by decide +kernel
theorem dX5_sell_50 : decode cX5_sell 50 = .ok (.iload_n 1, 1) := by decide +kernel
theorem dX5_sell_51 : decode cX5_sell 51 = .ok (.dup2, 1) := by decide +kernel
theorem dX5_sell_52 : decode cX5_sell 52 = .ok (.iaload, 1) := by decide +kernel
theorem dX5_sell_53 : decode cX5_sell 53 = .ok (.iconst 1, 1) := by decide +kernel
theorem dX5_sell_54 : decode cX5_sell 54 = .ok (.isub, 1) := by decide +kernel
theorem dX5_sell_55 : decode cX5_sell 55 = .ok (.iastore, 1) := by decide +kernel
theorem dX5_sell_56 : decode cX5_sell 56 = .ok (.aload_n 0, 1) := by decide +kernel
theorem dX5_sell_57 : decode cX5_sell 57 = .ok (.getfield 13, 3) := by decide +kernel
theorem dX5_sell_60 : decode cX5_sell 60 = .ok (.iload_n 2, 1) := by decide +kernel
theorem dX5_sell_61 : decode cX5_sell 61 = .ok (.dup2, 1) := by decide +kernel
theorem dX5_sell_62 : decode cX5_sell 62 = .ok (.iaload, 1) := by decide +kernel
theorem dX5_sell_63 : decode cX5_sell 63 = .ok (.aload_n 0, 1) := by decide +kernel
theorem dX5_sell_64 : decode cX5_sell 64 = .ok (.getfield 28, 3) := by decide +kernel
theorem dX5_sell_67 : decode cX5_sell 67 = .ok (.iload_n 1, 1) := by decide +kernel
theorem dX5_sell_68 : decode cX5_sell 68 = .ok (.iaload, 1) := by decide +kernel
theorem dX5_sell_69 : decode cX5_sell 69 = .ok (.iadd, 1) := by decide +kernel
theorem dX5_sell_70 : decode cX5_sell 70 = .ok (.iastore, 1) := by decide +kernel
theorem dX5_sell_71 : decode cX5_sell 71 = .ok (.aload_n 0, 1) := by decide +kernel
theorem dX5_sell_72 : decode cX5_sell 72 = .ok (.getfield 34, 3) := by decide +kernel
theorem dX5_sell_75 : decode cX5_sell 75 = .ok (.iload_n 1, 1) := by decide +kernel
theorem dX5_sell_76 : decode cX5_sell 76 = .ok (.dup2, 1) := by decide +kernel
theorem dX5_sell_77 : decode cX5_sell 77 = .ok (.iaload, 1) := by decide +kernel
theorem dX5_sell_78 : decode cX5_sell 78 = .ok (.iconst 1, 1) := by decide +kernel
theorem dX5_sell_79 : decode cX5_sell 79 = .ok (.iadd, 1) := by decide +kernel
theorem dX5_sell_80 : decode cX5_sell 80 = .ok (.iastore, 1) := by decide +kernel
theorem dX5_sell_81 : decode cX5_sell 81 = .ok (.goto 13, 3) := by decide +kernel
theorem dX5_sell_84 : decode cX5_sell 84 = .ok (.aload_n 0, 1) := by decide +kernel
theorem dX5_sell_85 : decode cX5_sell 85 = .ok (.getfield 37, 3) := by decide +kernel
theorem dX5_sell_88 : decode cX5_sell 88 = .ok (.iload_n 1, 1) := by decide +kernel
theorem dX5_sell_89 : decode cX5_sell 89 = .ok (.dup2, 1) := by decide +kernel
theorem dX5_sell_90 : decode cX5_sell 90 = .ok (.iaload, 1) := by decide +kernel
theorem dX5_sell_91 : decode cX5_sell 91 = .ok (.iconst 1, 1) := by decide +kernel
theorem dX5_sell_92 : decode cX5_sell 92 = .ok (.iadd, 1) := by decide +kernel
theorem dX5_sell_93 : decode cX5_sell 93 = .ok (.iastore, 1) := by decide +kernel
theorem dX5_sell_94 : decode cX5_sell 94 = .ok (.iload_n 3, 1) := by decide +kernel
theorem dX5_sell_95 : decode cX5_sell 95 = .ok (.ireturn, 1) := by decide +kernel
theorem dX5_change_0 : decode cX5_change 0 = .ok (.iconst 0, 1) := by decide +kernel
theorem dX5_change_1 : decode cX5_change 1 = .ok (.istore_n 1, 1) := by decide +kernel
theorem dX5_change_2 : decode cX5_change 2 = .ok (.iconst 0, 1) := by decide +kernel
theorem dX5_change_3 : decode cX5_change 3 = .ok (.istore_n 2, 1) := by decide +kernel
theorem dX5_change_4 : decode cX5_change 4 = .ok (.iload_n 2, 1) := by decide +kernel
theorem dX5_change_5 : decode cX5_change 5 = .ok (.aload_n 0, 1) := by decide +kernel
theorem dX5_change_6 : decode cX5_change 6 = .ok (.getfield 86, 3) := by decide +kernel
theorem dX5_change_9 : decode cX5_change 9 = .ok (.if_icmp .ge 88, 3) := by decide +kernel
theorem dX5_change_12 : decode cX5_change 12 = .ok (.aload_n 0, 1) := by decide +kernel
theorem dX5_change_13 : decode cX5_change 13 = .ok (.getfield 40, 3) := by decide +kernel
theorem dX5_change_16 : decode cX5_change 16 = .ok (.iconst 3, 1) := by decide +kernel
theorem dX5_change_17 : decode cX5_change 17 = .ok (.iload_n 2, 1) := by decide +kernel
theorem dX5_change_18 : decode cX5_change 18 = .ok (.imul, 1) := by decide +kernel
theorem dX5_change_19 : decode cX5_change 19 = .ok (.iaload, 1) := by decide +kernel
theorem dX5_change_20 : decode cX5_change 20 = .ok (.aload_n 0, 1) := by decide +kernel
theorem dX5_change_21 : decode cX5_change 21 = .ok (.getfield 83, 3) := by decide +kernel
theorem dX5_change_24 : decode cX5_change 24 = .ok (.if_icmp .ne 31, 3) := by decide +kernel
theorem dX5_change_27 : decode cX5_change 27 = .ok (.aload_n 0, 1) := by decide +kernel
theorem dX5_change_28 : decode cX5_change 28 = .ok (.getfield 28, 3) := by decide +kernel
theorem dX5_change_31 : decode cX5_change 31 = .ok (.aload_n 0, 1) := by decide +kernel
theorem dX5_change_32 : decode cX5_change 32 = .ok (.getfield 40, 3) := by decide +kernel
theorem dX5_change_35 : decode cX5_change 35 = .ok (.iconst 3, 1) := by decide +kernel
theorem dX5_change_36 : decode cX5_change 36 = .ok (.iload_n 2, 1) := by decide +kernel
theorem dX5_change_37 : decode cX5_change 37 = .ok (.imul, 1) := by decide +kernel
theorem dX5_change_38 : decode cX5_change 38 = .ok (.iconst 1, 1) := by decide +kernel
theorem dX5_change_39 : decode cX5_change 39 = .ok (.iadd, 1) := by decide +kernel
theorem dX5_change_40 : decode cX5_change 40 = .ok (.iaload, 1) := by decide +kernel
theorem dX5_change_41 : decode cX5_change 41 = .ok (.aload_n 0, 1) := by decide +kernel
theorem dX5_change_42 : decode cX5_change 42 = .ok (.getfield 40, 3) := by decide +kernel
theorem dX5_change_45 : decode cX5_change 45 = .ok (.iconst 3, 1) := by decide +kernel
theorem dX5_change_46 : decode cX5_change 46 = .ok (.iload_n 2, 1) := by decide +kernel
theorem dX5_change_47 : decode cX5_change 47 = .ok (.imul, 1) := by decide +kernel
theorem dX5_change_48 : decode cX5_change 48 = .ok (.iconst 2, 1) := by decide +kernel
theorem dX5_change_49 : decode cX5_change 49 = .ok (.iadd, 1) := by decide +kernel
theorem dX5_change_50 : decode cX5_change 50 = .ok (.iaload, 1) := by decide +kernel
theorem dX5_change_51 : decode cX5_change 51 = .ok (.iastore, 1) := by decide +kernel
theorem dX5_change_52 : decode cX5_change 52 = .ok (.goto 39, 3) := by decide +kernel
theorem dX5_change_55 : decode cX5_change 55 = .ok (.iconst 0, 1) := by decide +kernel
theorem dX5_change_56 : decode cX5_change 56 = .ok (.istore_n 3, 1) := by decide +kernel
theorem dX5_change_57 : decode cX5_change 57 = .ok (.iload_n 3, 1) := by decide +kernel
theorem dX5_change_58 : decode cX5_change 58 = .ok (.iconst 3, 1) := by decide +kernel
theorem dX5_change_59 : decode cX5_change 59 = .ok (.if_icmp .ge 29, 3) := by decide +kernel
theorem dX5_change_62 : decode cX5_change 62 = .ok (.aload_n 0, 1) := by decide +kernel
theorem dX5_change_63 : decode cX5_change 63 = .ok (.getfield 40, 3) := by decide +kernel
theorem dX5_change_66 : decode cX5_change 66 = .ok (.iconst 3, 1) := by decide +kernel
theorem dX5_change_67 : decode cX5_change 67 = .ok (.iload_n 1, 1) := by decide +kernel
theorem dX5_change_68 : decode cX5_change 68 = .ok (.imul, 1) := by decide +kernel
theorem dX5_change_69 : decode cX5_change 69 = .ok (.iload_n 3, 1) := by decide +kernel
theorem dX5_change_70 : decode cX5_change 70 = .ok (.iadd, 1) := by decide +kernel
theorem dX5_change_71 : decode cX5_change 71 = .ok (.aload_n 0, 1) := by decide +kernel
theorem dX5_change_72 : decode cX5_change 72 = .ok (.getfield 40, 3) := by decide +kernel
theorem dX5_change_75 : decode cX5_change 75 = .ok (.iconst 3, 1) := by decide +kernel
theorem dX5_change_76 : decode cX5_change 76 = .ok (.iload_n 2, 1) := by decide +kernel
theorem dX5_change_77 : decode cX5_change 77 = .ok (.imul, 1) := by decide +kernel
theorem dX5_change_78 : decode cX5_change 78 = .ok (.iload_n 3, 1) := by decide +kernel
theorem dX5_change_79 : decode cX5_change 79 = .ok (.iadd, 1) := by decide +kernel
theorem dX5_change_80 : decode cX5_change 80 = .ok (.iaload, 1) := by decide +kernel
theorem dX5_change_81 : decode cX5_change 81 = .ok (.iastore, 1) := by decide +kernel
theorem dX5_change_82 : decode cX5_change 82 = .ok (.iinc 3 1, 3) := by decide +kernel
theorem dX5_change_85 : decode cX5_change 85 = .ok (.goto (-28), 3) := by decide +kernel
theorem dX5_change_88 : decode cX5_change 88 = .ok (.iinc 1 1, 3) := by decide +kernel
theorem dX5_change_91 : decode cX5_change 91 = .ok (.iinc 2 1, 3) := by decide +kernel
theorem dX5_change_94 : decode cX5_change 94 = .ok (.goto (-90), 3) := by decide +kernel
theorem dX5_change_97 : decode cX5_change 97 = .ok (.aload_n 0, 1) := by decide +kernel
theorem dX5_change_98 : decode cX5_change 98 = .ok (.iload_n 1, 1) := by decide +kernel
theorem dX5_change_99 : decode cX5_change 99 = .ok (.putfield 86, 3) := by decide +kernel
theorem dX5_change_102 : decode cX5_change 102 = .ok (.return_, 1) := by decide +kernel
theorem dX5_pass_0 : decode cX5_pass 0 = .ok (.aload_n 0, 1) := by decide +kernel
theorem dX5_pass_1 : decode cX5_pass 1 = .ok (.iconst 0, 1) := by decide +kernel
theorem dX5_pass_2 : decode cX5_pass 2 = .ok (.putfield 50, 3) := by decide +kernel
theorem dX5_pass_5 : decode cX5_pass 5 = .ok (.iload_n 1, 1) := by decide +kernel
theorem dX5_pass_6 : decode cX5_pass 6 = .ok (.iconst 1, 1) := by decide +kernel
theorem dX5_pass_7 : decode cX5_pass 7 = .ok (.bipush 30, 2) := by decide +kernel
theorem dX5_pass_9 : decode cX5_pass 9 = .ok (.invokestatic 57, 3) := by decide +kernel
theorem dX5_pass_12 : decode cX5_pass 12 = .ok (.ifCond .ne 9, 3) := by decide +kernel
theorem dX5_pass_15 : decode cX5_pass 15 = .ok (.aload_n 0, 1) := by decide +kernel
theorem dX5_pass_16 : decode cX5_pass 16 = .ok (.iconst 1, 1) := by decide +kernel
theorem dX5_pass_17 : decode cX5_pass 17 = .ok (.invokevirtual 66, 3) := by decide +kernel
theorem dX5_pass_20 : decode cX5_pass 20 = .ok (.ireturn, 1) := by decide +kernel
theorem dX5_pass_21 : decode cX5_pass 21 = .ok (.aload_n 0, 1) := by decide +kernel
theorem dX5_pass_22 : decode cX5_pass 22 = .ok (.getfield 83, 3) := by decide +kernel
theorem dX5_pass_25 : decode cX5_pass 25 = .ok (.iload_n 1, 1) := by decide +kernel
theorem dX5_pass_26 : decode cX5_pass 26 = .ok (.iadd, 1) := by decide +kernel
theorem dX5_pass_27 : decode cX5_pass 27 = .ok (.sipush 999, 3) := by decide +kernel
theorem dX5_pass_30 : decode cX5_pass 30 = .ok (.if_icmp .le 9, 3) := by decide +kernel
theorem dX5_pass_33 : decode cX5_pass 33 = .ok (.aload_n 0, 1) := by decide +kernel
theorem dX5_pass_34 : decode cX5_pass 34 = .ok (.iconst 2, 1) := by decide +kernel
theorem dX5_pass_35 : decode cX5_pass 35 = .ok (.invokevirtual 66, 3) := by decide +kernel
theorem dX5_pass_38 : decode cX5_pass 38 = .ok (.ireturn, 1) := by decide +kernel
theorem dX5_pass_39 : decode cX5_pass 39 = .ok (.iconst 0, 1) := by decide +kernel
theorem dX5_pass_40 : decode cX5_pass 40 = .ok (.istore_n 2, 1) := by decide +kernel
theorem dX5_pass_41 : decode cX5_pass 41 = .ok (.iconst 0, 1) := by decide +kernel
theorem dX5_pass_42 : decode cX5_pass 42 = .ok (.istore_n 3, 1) := by decide +kernel
theorem dX5_pass_43 : decode cX5_pass 43 = .ok (.iload_n 3, 1) := by decide +kernel
theorem dX5_pass_44 : decode cX5_pass 44 = .ok (.iload_n 1, 1) := by decide +kernel
theorem dX5_pass_45 : decode cX5_pass 45 = .ok (.if_icmp .ge 82, 3) := by decide +kernel
theorem dX5_pass_48 : decode cX5_pass 48 = .ok (.iconst 0, 1) := by decide +kernel
theorem dX5_pass_49 : decode cX5_pass 49 = .ok (.istore 4, 2) := by decide +kernel
theorem dX5_pass_51 : decode cX5_pass 51 = .ok (.iload 4, 2) := by decide +kernel
theorem dX5_pass_53 : decode cX5_pass 53 = .ok (.bipush 6, 2) := by decide +kernel
theorem dX5_pass_55 : decode cX5_pass 55 = .ok (.aload_n 0, 1) := by decide +kernel
theorem dX5_pass_56 : decode cX5_pass 56 = .ok (.getfield 54, 3) := by decide +kernel
theorem dX5_pass_59 : decode cX5_pass 59 = .ok (.imul, 1) := by decide +kernel
theorem dX5_pass_60 : decode cX5_pass 60 = .ok (.if_icmp .ge 47, 3) := by decide +kernel
theorem dX5_pass_63 : decode cX5_pass 63 = .ok (.iconst 0, 1) := by decide +kernel
theorem dX5_pass_64 : decode cX5_pass 64 = .ok (.istore 5, 2) := by decide +kernel
theorem dX5_pass_66 : decode cX5_pass 66 = .ok (.iload 5, 2) := by decide +kernel
theorem dX5_pass_68 : decode cX5_pass 68 = .ok (.aload_n 0, 1) := by decide +kernel
theorem dX5_pass_69 : decode cX5_pass 69 = .ok (.getfield 31, 3) := by decide +kernel
theorem dX5_pass_72 : decode cX5_pass 72 = .ok (.iload 4, 2) := by decide +kernel
theorem dX5_pass_74 : decode cX5_pass 74 = .ok (.iaload, 1) := by decide +kernel
theorem dX5_pass_75 : decode cX5_pass 75 = .ok (.if_icmp .ge 26, 3) := by decide +kernel
theorem dX5_pass_78 : decode cX5_pass 78 = .ok (.iload_n 2, 1) := by decide +kernel
theorem dX5_pass_79 : decode cX5_pass 79 = .ok (.aload_n 0, 1) := by decide +kernel
theorem dX5_pass_80 : decode cX5_pass 80 = .ok (.iload 4, 2) := by decide +kernel
theorem dX5_pass_82 : decode cX5_pass 82 = .ok (.invokevirtual 101, 3) := by decide +kernel
theorem dX5_pass_85 : decode cX5_pass 85 = .ok (.ifCond .eq 7, 3) := by decide +kernel
theorem dX5_pass_88 : decode cX5_pass 88 = .ok (.iconst 1, 1) := by decide +kernel
theorem dX5_pass_89 : decode cX5_pass 89 = .ok (.goto 4, 3) := by decide +kernel
theorem dX5_pass_92 : decode cX5_pass 92 = .ok (.iconst 0, 1) := by decide +kernel
theorem dX5_pass_93 : decode cX5_pass 93 = .ok (.iadd, 1) := by decide +kernel
theorem dX5_pass_94 : decode cX5_pass 94 = .ok (.istore_n 2, 1) := by decide +kernel
theorem dX5_pass_95 : decode cX5_pass 95 = .ok (.iinc 5 1, 3) := by decide +kernel
theorem dX5_pass_98 : decode cX5_pass 98 = .ok (.goto (-32), 3) := by decide +kernel
theorem dX5_pass_101 : decode cX5_pass 101 = .ok (.iinc 4 1, 3) := by decide +kernel
theorem dX5_pass_104 : decode cX5_pass 104 = .ok (.goto (-53), 3) := by decide +kernel
theorem dX5_pass_107 : decode cX5_pass 107 = .ok (.aload_n 0, 1) := by decide +kernel
theorem dX5_pass_108 : decode cX5_pass 108 = .ok (.dup, 1) := by decide +kernel
theorem dX5_pass_109 : decode cX5_pass 109 = .ok (.getfield 83, 3) := by decide +kernel
theorem dX5_pass_112 : decode cX5_pass 112 = .ok (.iconst 1, 1) := by decide +kernel
theorem dX5_pass_113 : decode cX5_pass 113 = .ok (.iadd, 1) := by decide +kernel
theorem dX5_pass_114 : decode cX5_pass 114 = .ok (.putfield 83, 3) := by decide +kernel
theorem dX5_pass_117 : decode cX5_pass 117 = .ok (.aload_n 0, 1) := by decide +kernel
theorem dX5_pass_118 : decode cX5_pass 118 = .ok (.invokevirtual 104, 3) := by decide +kernel
theorem dX5_pass_121 : decode cX5_pass 121 = .ok (.iinc 3 1, 3) := by decide +kernel
theorem dX5_pass_124 : decode cX5_pass 124 = .ok (.goto (-81), 3) := by decide +kernel
theorem dX5_pass_127 : decode cX5_pass 127 = .ok (.iload_n 2, 1) := by decide +kernel
theorem dX5_pass_128 : decode cX5_pass 128 = .ok (.ireturn, 1) := by decide +kernel
theorem dX5_today_0 : decode cX5_today 0 = .ok (.aload_n 0, 1) := by decide +kernel
theorem dX5_today_1 : decode cX5_today 1 = .ok (.iconst 0, 1) := by decide +kernel
theorem dX5_today_2 : decode cX5_today 2 = .ok (.putfield 50, 3) := by decide +kernel
theorem dX5_today_5 : decode cX5_today 5 = .ok (.aload_n 0, 1) := by decide +kernel
theorem dX5_today_6 : decode cX5_today 6 = .ok (.getfield 83, 3) := by decide +kernel
theorem dX5_today_9 : decode cX5_today 9 = .ok (.ireturn, 1) := by decide +kernel
theorem dX5_planned_0 : decode cX5_planned 0 = .ok (.aload_n 0, 1) := by decide +kernel
theorem dX5_planned_1 : decode cX5_planned 1 = .ok (.iconst 0, 1) := by decide +kernel
theorem dX5_planned_2 : decode cX5_planned 2 = .ok (.putfield 50, 3) := by decide +kernel
theorem dX5_planned_5 : decode cX5_planned 5 = .ok (.aload_n 0, 1) := by decide +kernel
theorem dX5_planned_6 : decode cX5_planned 6 = .ok (.getfield 86, 3) := by decide +kernel
theorem dX5_planned_9 : decode cX5_planned 9 = .ok (.ireturn, 1) := by decide +kernel
theorem dX5_restOf_0 : decode cX5_restOf 0 = .ok (.aload_n 0, 1) := by decide +kernel
theorem dX5_restOf_1 : decode cX5_restOf 1 = .ok (.getfield 47, 3) := by decide +kernel
theorem dX5_restOf_4 : decode cX5_restOf 4 = .ok (.bipush 9, 2) := by decide +kernel
theorem dX5_restOf_6 : decode cX5_restOf 6 = .ok (.iload_n 1, 1) := by decide +kernel
theorem dX5_restOf_7 : decode cX5_restOf 7 = .ok (.imul, 1) := by decide +kernel
theorem dX5_restOf_8 : decode cX5_restOf 8 = .ok (.iload_n 2, 1) := by decide +kernel
theorem dX5_restOf_9 : decode cX5_restOf 9 = .ok (.iadd, 1) := by decide +kernel
theorem dX5_restOf_10 : decode cX5_restOf 10 = .ok (.iaload, 1) := by decide +kernel
theorem dX5_restOf_11 : decode cX5_restOf 11 = .ok (.ireturn, 1) := by decide +kernel
theorem dX5_tabulate_0 : decode cX5_tabulate 0 = .ok (.iconst 0, 1) := by decide +kernel
theorem dX5_tabulate_1 : decode cX5_tabulate 1 = .ok (.istore_n 2, 1) := by decide +kernel
theorem dX5_tabulate_2 : decode cX5_tabulate 2 = .ok (.iload_n 2, 1) := by decide +kernel
theorem dX5_tabulate_3 : decode cX5_tabulate 3 = .ok (.iload_n 1, 1) := by decide +kernel
theorem dX5_tabulate_4 : decode cX5_tabulate 4 = .ok (.if_icmp .gt 108, 3) := by decide +kernel
theorem dX5_tabulate_7 : decode cX5_tabulate 7 = .ok (.iconst 0, 1) := by decide +kernel
theorem dX5_tabulate_8 : decode cX5_tabulate 8 = .ok (.istore_n 3, 1) := by decide +kernel
theorem dX5_tabulate_9 : decode cX5_tabulate 9 = .ok (.iload_n 3, 1) := by decide +kernel
theorem dX5_tabulate_10 : decode cX5_tabulate 10 = .ok (.bipush 8, 2) := by decide +kernel
theorem dX5_tabulate_12 : decode cX5_tabulate 12 = .ok (.if_icmp .gt 94, 3) := by decide +kernel
theorem dX5_tabulate_15 : decode cX5_tabulate 15 = .ok (.iload_n 2, 1) := by decide +kernel
theorem dX5_tabulate_16 : decode cX5_tabulate 16 = .ok (.ifCond .ne 13, 3) := by decide +kernel
theorem dX5_tabulate_19 : decode cX5_tabulate 19 = .ok (.aload_n 0, 1) := by decide +kernel
theorem dX5_tabulate_20 : decode cX5_tabulate 20 = .ok (.iload_n 3, 1) := by decide +kernel
theorem dX5_tabulate_21 : decode cX5_tabulate 21 = .ok (.bipush 8, 2) := by decide +kernel
theorem dX5_tabulate_23 : decode cX5_tabulate 23 = .ok (.invokevirtual 70, 3) := by decide +kernel
theorem dX5_tabulate_26 : decode cX5_tabulate 26 = .ok (.goto 5, 3) := by decide +kernel
theorem dX5_tabulate_29 : decode cX5_tabulate 29 = .ok (.ldc 109, 2) := by decide +kernel
theorem dX5_tabulate_31 : decode cX5_tabulate 31 = .ok (.istore 4, 2) := by decide +kernel
theorem dX5_tabulate_33 : decode cX5_tabulate 33 = .ok (.iconst 0, 1) := by decide +kernel
theorem dX5_tabulate_34 : decode cX5_tabulate 34 = .ok (.istore 5, 2) := by decide +kernel
theorem dX5_tabulate_36 : decode cX5_tabulate 36 = .ok (.iload 5, 2) := by decide +kernel
theorem dX5_tabulate_38 : decode cX5_tabulate 38 = .ok (.bipush 8, 2) := by decide +kernel
theorem dX5_tabulate_40 : decode cX5_tabulate 40 = .ok (.if_icmp .ge 47, 3) := by decide +kernel
theorem dX5_tabulate_43 : decode cX5_tabulate 43 = .ok (.iload_n 2, 1) := by decide +kernel
theorem dX5_tabulate_44 : decode cX5_tabulate 44 = .ok (.iload 5, 2) := by decide +kernel
theorem dX5_tabulate_46 : decode cX5_tabulate 46 = .ok (.invokestatic 110, 3) := by decide +kernel
theorem dX5_tabulate_49 : decode cX5_tabulate 49 = .ok (.ifCond .eq 32, 3) := by decide +kernel
theorem dX5_tabulate_52 : decode cX5_tabulate 52 = .ok (.iload 4, 2) := by decide +kernel
theorem dX5_tabulate_54 : decode cX5_tabulate 54 = .ok (.aload_n 0, 1) := by decide +kernel
theorem dX5_tabulate_55 : decode cX5_tabulate 55 = .ok (.iload_n 3, 1) := by decide +kernel
theorem dX5_tabulate_56 : decode cX5_tabulate 56 = .ok (.iload 5, 2) := by decide +kernel
theorem dX5_tabulate_58 : decode cX5_tabulate 58 = .ok (.invokevirtual 70, 3) := by decide +kernel
theorem dX5_tabulate_61 : decode cX5_tabulate 61 = .ok (.aload_n 0, 1) := by decide +kernel
theorem dX5_tabulate_62 : decode cX5_tabulate 62 = .ok (.iload_n 2, 1) := by decide +kernel
theorem dX5_tabulate_63 : decode cX5_tabulate 63 = .ok (.iconst 1, 1) := by decide +kernel
theorem dX5_tabulate_64 : decode cX5_tabulate 64 = .ok (.iload 5, 2) := by decide +kernel
theorem dX5_tabulate_66 : decode cX5_tabulate 66 = .ok (.ishl, 1) := by decide +kernel
theorem dX5_tabulate_67 : decode cX5_tabulate 67 = .ok (.iconst (-1), 1) := by decide +kernel
theorem dX5_tabulate_68 : decode cX5_tabulate 68 = .ok (.ixor, 1) := by decide +kernel
theorem dX5_tabulate_69 : decode cX5_tabulate 69 = .ok (.iand, 1) := by decide +kernel
theorem dX5_tabulate_70 : decode cX5_tabulate 70 = .ok (.iload 5, 2) := by decide +kernel
theorem dX5_tabulate_72 : decode cX5_tabulate 72 = .ok (.invokevirtual 113, 3) := by decide +kernel
theorem dX5_tabulate_75 : decode cX5_tabulate 75 = .ok (.iadd, 1) := by decide +kernel
theorem dX5_tabulate_76 : decode cX5_tabulate 76 = .ok (.invokestatic 78, 3) := by decide +kernel
theorem dX5_tabulate_79 : decode cX5_tabulate 79 = .ok (.istore 4, 2) := by decide +kernel
theorem dX5_tabulate_81 : decode cX5_tabulate 81 = .ok (.iinc 5 1, 3) := by decide +kernel
theorem dX5_tabulate_84 : decode cX5_tabulate 84 = .ok (.goto (-48), 3) := by decide +kernel
theorem dX5_tabulate_87 : decode cX5_tabulate 87 = .ok (.aload_n 0, 1) := by decide +kernel
theorem dX5_tabulate_88 : decode cX5_tabulate 88 = .ok (.getfield 47, 3) := by decide +kernel
theorem dX5_tabulate_91 : decode cX5_tabulate 91 = .ok (.bipush 9, 2) := by decide +kernel
theorem dX5_tabulate_93 : decode cX5_tabulate 93 = .ok (.iload_n 2, 1) := by decide +kernel
theorem dX5_tabulate_94 : decode cX5_tabulate 94 = .ok (.imul, 1) := by decide +kernel
theorem dX5_tabulate_95 : decode cX5_tabulate 95 = .ok (.iload_n 3, 1) := by decide +kernel
theorem dX5_tabulate_96 : decode cX5_tabulate 96 = .ok (.iadd, 1) := by decide +kernel
theorem dX5_tabulate_97 : decode cX5_tabulate 97 = .ok (.iload 4, 2) := by decide +kernel
theorem dX5_tabulate_99 : decode cX5_tabulate 99 = .ok (.iastore, 1) := by decide +kernel
theorem dX5_tabulate_100 : decode cX5_tabulate 100 = .ok (.iinc 3 1, 3) := by decide +kernel
theorem dX5_tabulate_103 : decode cX5_tabulate 103 = .ok (.goto (-94), 3) := by decide +kernel
theorem dX5_tabulate_106 : decode cX5_tabulate 106 = .ok (.iinc 2 1, 3) := by decide +kernel
theorem dX5_tabulate_109 : decode cX5_tabulate 109 = .ok (.goto (-107), 3) := by decide +kernel
theorem dX5_tabulate_112 : decode cX5_tabulate 112 = .ok (.return_, 1) := by decide +kernel
theorem dX5_nextOf_0 : decode cX5_nextOf 0 = .ok (.iconst 0, 1) := by decide +kernel
theorem dX5_nextOf_1 : decode cX5_nextOf 1 = .ok (.istore_n 3, 1) := by decide +kernel
theorem dX5_nextOf_2 : decode cX5_nextOf 2 = .ok (.iload_n 1, 1) := by decide +kernel
theorem dX5_nextOf_3 : decode cX5_nextOf 3 = .ok (.iload_n 3, 1) := by decide +kernel
theorem dX5_nextOf_4 : decode cX5_nextOf 4 = .ok (.invokestatic 110, 3) := by decide +kernel
theorem dX5_nextOf_7 : decode cX5_nextOf 7 = .ok (.ifCond .eq 31, 3) := by decide +kernel
theorem dX5_nextOf_10 : decode cX5_nextOf 10 = .ok (.aload_n 0, 1) := by decide +kernel
theorem dX5_nextOf_11 : decode cX5_nextOf 11 = .ok (.iload_n 2, 1) := by decide +kernel
theorem dX5_nextOf_12 : decode cX5_nextOf 12 = .ok (.iload_n 3, 1) := by decide +kernel
theorem dX5_nextOf_13 : decode cX5_nextOf 13 = .ok (.invokevirtual 70, 3) := by decide +kernel
theorem dX5_nextOf_16 : decode cX5_nextOf 16 = .ok (.aload_n 0, 1) := by decide +kernel
theorem dX5_nextOf_17 : decode cX5_nextOf 17 = .ok (.iload_n 1, 1) := by decide +kernel
theorem dX5_nextOf_18 : decode cX5_nextOf 18 = .ok (.iconst 1, 1) := by decide +kernel
theorem dX5_nextOf_19 : decode cX5_nextOf 19 = .ok (.iload_n 3, 1) := by decide +kernel
theorem dX5_nextOf_20 : decode cX5_nextOf 20 = .ok (.ishl, 1) := by decide +kernel
theorem dX5_nextOf_21 : decode cX5_nextOf 21 = .ok (.iconst (-1), 1) := by decide +kernel
theorem dX5_nextOf_22 : decode cX5_nextOf 22 = .ok (.ixor, 1) := by decide +kernel
theorem dX5_nextOf_23 : decode cX5_nextOf 23 = .ok (.iand, 1) := by decide +kernel
theorem dX5_nextOf_24 : decode cX5_nextOf 24 = .ok (.iload_n 3, 1) := by decide +kernel
theorem dX5_nextOf_25 : decode cX5_nextOf 25 = .ok (.invokevirtual 113, 3) := by decide +kernel
theorem dX5_nextOf_28 : decode cX5_nextOf 28 = .ok (.iadd, 1) := by decide +kernel
theorem dX5_nextOf_29 : decode cX5_nextOf 29 = .ok (.aload_n 0, 1) := by decide +kernel
theorem dX5_nextOf_30 : decode cX5_nextOf 30 = .ok (.iload_n 1, 1) := by decide +kernel
theorem dX5_nextOf_31 : decode cX5_nextOf 31 = .ok (.iload_n 2, 1) := by decide +kernel
theorem dX5_nextOf_32 : decode cX5_nextOf 32 = .ok (.invokevirtual 113, 3) := by decide +kernel
theorem dX5_nextOf_35 : decode cX5_nextOf 35 = .ok (.if_icmp .eq 9, 3) := by decide +kernel
theorem dX5_nextOf_38 : decode cX5_nextOf 38 = .ok (.iinc 3 1, 3) := by decide +kernel
theorem dX5_nextOf_41 : decode cX5_nextOf 41 = .ok (.goto (-39), 3) := by decide +kernel
theorem dX5_nextOf_44 : decode cX5_nextOf 44 = .ok (.iload_n 3, 1) := by decide +kernel
theorem dX5_nextOf_45 : decode cX5_nextOf 45 = .ok (.ireturn, 1) := by decide +kernel
theorem dX5_drive_0 : decode cX5_drive 0 = .ok (.aload_n 0, 1) := by decide +kernel
theorem dX5_drive_1 : decode cX5_drive 1 = .ok (.iconst 0, 1) := by decide +kernel
theorem dX5_drive_2 : decode cX5_drive 2 = .ok (.putfield 50, 3) := by decide +kernel
theorem dX5_drive_5 : decode cX5_drive 5 = .ok (.aload_n 0, 1) := by decide +kernel
theorem dX5_drive_6 : decode cX5_drive 6 = .ok (.iload_n 1, 1) := by decide +kernel
theorem dX5_drive_7 : decode cX5_drive 7 = .ok (.invokevirtual 116, 3) := by decide +kernel
theorem dX5_drive_10 : decode cX5_drive 10 = .ok (.ifCond .ne 9, 3) := by decide +kernel
theorem dX5_drive_13 : decode cX5_drive 13 = .ok (.aload_n 0, 1) := by decide +kernel
theorem dX5_drive_14 : decode cX5_drive 14 = .ok (.iconst 1, 1) := by decide +kernel
theorem dX5_drive_15 : decode cX5_drive 15 = .ok (.invokevirtual 66, 3) := by decide +kernel
theorem dX5_drive_18 : decode cX5_drive 18 = .ok (.ireturn, 1) := by decide +kernel
theorem dX5_drive_19 : decode cX5_drive 19 = .ok (.aload_n 0, 1) := by decide +kernel
theorem dX5_drive_20 : decode cX5_drive 20 = .ok (.iload_n 1, 1) := by decide +kernel
theorem dX5_drive_21 : decode cX5_drive 21 = .ok (.invokevirtual 119, 3) := by decide +kernel
theorem dX5_drive_24 : decode cX5_drive 24 = .ok (.aload_n 0, 1) := by decide +kernel
theorem dX5_drive_25 : decode cX5_drive 25 = .ok (.iload_n 1, 1) := by decide +kernel
theorem dX5_drive_26 : decode cX5_drive 26 = .ok (.bipush 8, 2) := by decide +kernel
theorem dX5_drive_28 : decode cX5_drive 28 = .ok (.invokevirtual 113, 3) := by decide +kernel
theorem dX5_drive_31 : decode cX5_drive 31 = .ok (.ireturn, 1) := by decide +kernel
theorem dX5_visit_0 : decode cX5_visit 0 = .ok (.aload_n 0, 1) := by decide +kernel
theorem dX5_visit_1 : decode cX5_visit 1 = .ok (.iconst 0, 1) := by decide +kernel
theorem dX5_visit_2 : decode cX5_visit 2 = .ok (.putfield 50, 3) := by decide +kernel
theorem dX5_visit_5 : decode cX5_visit 5 = .ok (.aload_n 0, 1) := by decide +kernel
theorem dX5_visit_6 : decode cX5_visit 6 = .ok (.iload_n 1, 1) := by decide +kernel
theorem dX5_visit_7 : decode cX5_visit 7 = .ok (.invokevirtual 116, 3) := by decide +kernel
theorem dX5_visit_10 : decode cX5_visit 10 = .ok (.ifCond .ne 9, 3) := by decide +kernel
theorem dX5_visit_13 : decode cX5_visit 13 = .ok (.aload_n 0, 1) := by decide +kernel
theorem dX5_visit_14 : decode cX5_visit 14 = .ok (.iconst 1, 1) := by decide +kernel
theorem dX5_visit_15 : decode cX5_visit 15 = .ok (.invokevirtual 66, 3) := by decide +kernel
theorem dX5_visit_18 : decode cX5_visit 18 = .ok (.ireturn, 1) := by decide +kernel
theorem dX5_visit_19 : decode cX5_visit 19 = .ok (.iload_n 2, 1) := by decide +kernel
theorem dX5_visit_20 : decode cX5_visit 20 = .ok (.iconst 0, 1) := by decide +kernel
theorem dX5_visit_21 : decode cX5_visit 21 = .ok (.iload_n 1, 1) := by decide +kernel
theorem dX5_visit_22 : decode cX5_visit 22 = .ok (.invokestatic 123, 3) := by decide +kernel
theorem dX5_visit_25 : decode cX5_visit 25 = .ok (.iconst 1, 1) := by decide +kernel
theorem dX5_visit_26 : decode cX5_visit 26 = .ok (.isub, 1) := by decide +kernel
theorem dX5_visit_27 : decode cX5_visit 27 = .ok (.invokestatic 57, 3) := by decide +kernel
theorem dX5_visit_30 : decode cX5_visit 30 = .ok (.ifCond .ne 9, 3) := by decide +kernel
theorem dX5_visit_33 : decode cX5_visit 33 = .ok (.aload_n 0, 1) := by decide +kernel
theorem dX5_visit_34 : decode cX5_visit 34 = .ok (.iconst 2, 1) := by decide +kernel
theorem dX5_visit_35 : decode cX5_visit 35 = .ok (.invokevirtual 66, 3) := by decide +kernel
theorem dX5_visit_38 : decode cX5_visit 38 = .ok (.ireturn, 1) := by decide +kernel
theorem dX5_visit_39 : decode cX5_visit 39 = .ok (.aload_n 0, 1) := by decide +kernel
theorem dX5_visit_40 : decode cX5_visit 40 = .ok (.iload_n 1, 1) := by decide +kernel
theorem dX5_visit_41 : decode cX5_visit 41 = .ok (.invokevirtual 119, 3) := by decide +kernel
theorem dX5_visit_44 : decode cX5_visit 44 = .ok (.iload_n 1, 1) := by decide +kernel
theorem dX5_visit_45 : decode cX5_visit 45 = .ok (.istore_n 3, 1) := by decide +kernel
theorem dX5_visit_46 : decode cX5_visit 46 = .ok (.bipush 8, 2) := by decide +kernel
theorem dX5_visit_48 : decode cX5_visit 48 = .ok (.istore 4, 2) := by decide +kernel
theorem dX5_visit_50 : decode cX5_visit 50 = .ok (.iconst 0, 1) := by decide +kernel
theorem dX5_visit_51 : decode cX5_visit 51 = .ok (.istore 5, 2) := by decide +kernel
theorem dX5_visit_53 : decode cX5_visit 53 = .ok (.iload 5, 2) := by decide +kernel
theorem dX5_visit_55 : decode cX5_visit 55 = .ok (.iload_n 2, 1) := by decide +kernel
theorem dX5_visit_56 : decode cX5_visit 56 = .ok (.if_icmp .gt 27, 3) := by decide +kernel
theorem dX5_visit_59 : decode cX5_visit 59 = .ok (.aload_n 0, 1) := by decide +kernel
theorem dX5_visit_60 : decode cX5_visit 60 = .ok (.iload_n 3, 1) := by decide +kernel
theorem dX5_visit_61 : decode cX5_visit 61 = .ok (.iload 4, 2) := by decide +kernel
theorem dX5_visit_63 : decode cX5_visit 63 = .ok (.invokevirtual 126, 3) := by decide +kernel
theorem dX5_visit_66 : decode cX5_visit 66 = .ok (.istore 4, 2) := by decide +kernel
theorem dX5_visit_68 : decode cX5_visit 68 = .ok (.iload_n 3, 1) := by decide +kernel
theorem dX5_visit_69 : decode cX5_visit 69 = .ok (.iconst 1, 1) := by decide +kernel
theorem dX5_visit_70 : decode cX5_visit 70 = .ok (.iload 4, 2) := by decide +kernel
theorem dX5_visit_72 : decode cX5_visit 72 = .ok (.ishl, 1) := by decide +kernel
theorem dX5_visit_73 : decode cX5_visit 73 = .ok (.iconst (-1), 1) := by decide +kernel
theorem dX5_visit_74 : decode cX5_visit 74 = .ok (.ixor, 1) := by decide +kernel
theorem dX5_visit_75 : decode cX5_visit 75 = .ok (.iand, 1) := by decide +kernel
theorem dX5_visit_76 : decode cX5_visit 76 = .ok (.istore_n 3, 1) := by decide +kernel
theorem dX5_visit_77 : decode cX5_visit 77 = .ok (.iinc 5 1, 3) := by decide +kernel
theorem dX5_visit_80 : decode cX5_visit 80 = .ok (.goto (-27), 3) := by decide +kernel
theorem dX5_visit_83 : decode cX5_visit 83 = .ok (.iload 4, 2) := by decide +kernel
theorem dX5_visit_85 : decode cX5_visit 85 = .ok (.ireturn, 1) := by decide +kernel
theorem dX5_minutesOf_0 : decode cX5_minutesOf 0 = .ok (.aload_n 0, 1) := by decide +kernel
theorem dX5_minutesOf_1 : decode cX5_minutesOf 1 = .ok (.iload_n 1, 1) := by decide +kernel
theorem dX5_minutesOf_2 : decode cX5_minutesOf 2 = .ok (.bipush 8, 2) := by decide +kernel
theorem dX5_minutesOf_4 : decode cX5_minutesOf 4 = .ok (.invokevirtual 113, 3) := by decide +kernel
theorem dX5_minutesOf_7 : decode cX5_minutesOf 7 = .ok (.istore_n 2, 1) := by decide +kernel
theorem dX5_minutesOf_8 : decode cX5_minutesOf 8 = .ok (.iconst 0, 1) := by decide +kernel
theorem dX5_minutesOf_9 : decode cX5_minutesOf 9 = .ok (.istore_n 3, 1) := by decide +kernel
theorem dX5_minutesOf_10 : decode cX5_minutesOf 10 = .ok (.iload_n 3, 1) := by decide +kernel
theorem dX5_minutesOf_11 : decode cX5_minutesOf 11 = .ok (.aload_n 0, 1) := by decide +kernel
theorem dX5_minutesOf_12 : decode cX5_minutesOf 12 = .ok (.getfield 54, 3) := by decide +kernel
theorem dX5_minutesOf_15 : decode cX5_minutesOf 15 = .ok (.if_icmp .ge 35, 3) := by decide +kernel
theorem dX5_minutesOf_18 : decode cX5_minutesOf 18 = .ok (.iload_n 2, 1) := by decide +kernel
theorem dX5_minutesOf_19 : decode cX5_minutesOf 19 = .ok (.iload_n 1, 1) := by decide +kernel
theorem dX5_minutesOf_20 : decode cX5_minutesOf 20 = .ok (.iload_n 3, 1) := by decide +kernel
theorem dX5_minutesOf_21 : decode cX5_minutesOf 21 = .ok (.invokestatic 110, 3) := by decide +kernel
theorem dX5_minutesOf_24 : decode cX5_minutesOf 24 = .ok (.ifCond .eq 17, 3) := by decide +kernel
theorem dX5_minutesOf_27 : decode cX5_minutesOf 27 = .ok (.iconst 3, 1) := by decide +kernel
theorem dX5_minutesOf_28 : decode cX5_minutesOf 28 = .ok (.aload_n 0, 1) := by decide +kernel
theorem dX5_minutesOf_29 : decode cX5_minutesOf 29 = .ok (.iload_n 3, 1) := by decide +kernel
theorem dX5_minutesOf_30 : decode cX5_minutesOf 30 = .ok (.invokevirtual 92, 3) := by decide +kernel
theorem dX5_minutesOf_33 : decode cX5_minutesOf 33 = .ok (.iconst 4, 1) := by decide +kernel
theorem dX5_minutesOf_34 : decode cX5_minutesOf 34 = .ok (.iadd, 1) := by decide +kernel
theorem dX5_minutesOf_35 : decode cX5_minutesOf 35 = .ok (.iconst 5, 1) := by decide +kernel
theorem dX5_minutesOf_36 : decode cX5_minutesOf 36 = .ok (.idiv, 1) := by decide +kernel
theorem dX5_minutesOf_37 : decode cX5_minutesOf 37 = .ok (.iadd, 1) := by decide +kernel
theorem dX5_minutesOf_38 : decode cX5_minutesOf 38 = .ok (.goto 4, 3) := by decide +kernel
theorem dX5_minutesOf_41 : decode cX5_minutesOf 41 = .ok (.iconst 0, 1) := by decide +kernel
theorem dX5_minutesOf_42 : decode cX5_minutesOf 42 = .ok (.iadd, 1) := by decide +kernel
theorem dX5_minutesOf_43 : decode cX5_minutesOf 43 = .ok (.istore_n 2, 1) := by decide +kernel
theorem dX5_minutesOf_44 : decode cX5_minutesOf 44 = .ok (.iinc 3 1, 3) := by decide +kernel
theorem dX5_minutesOf_47 : decode cX5_minutesOf 47 = .ok (.goto (-37), 3) := by decide +kernel
theorem dX5_minutesOf_50 : decode cX5_minutesOf 50 = .ok (.iload_n 2, 1) := by decide +kernel
theorem dX5_minutesOf_51 : decode cX5_minutesOf 51 = .ok (.ireturn, 1) := by decide +kernel
theorem dX5_minutes_0 : decode cX5_minutes 0 = .ok (.aload_n 0, 1) := by decide +kernel
theorem dX5_minutes_1 : decode cX5_minutes 1 = .ok (.iconst 0, 1) := by decide +kernel
theorem dX5_minutes_2 : decode cX5_minutes 2 = .ok (.putfield 50, 3) := by decide +kernel
theorem dX5_minutes_5 : decode cX5_minutes 5 = .ok (.aload_n 0, 1) := by decide +kernel
theorem dX5_minutes_6 : decode cX5_minutes 6 = .ok (.iload_n 1, 1) := by decide +kernel
theorem dX5_minutes_7 : decode cX5_minutes 7 = .ok (.invokevirtual 116, 3) := by decide +kernel
theorem dX5_minutes_10 : decode cX5_minutes 10 = .ok (.ifCond .ne 9, 3) := by decide +kernel
theorem dX5_minutes_13 : decode cX5_minutes 13 = .ok (.aload_n 0, 1) := by decide +kernel
theorem dX5_minutes_14 : decode cX5_minutes 14 = .ok (.iconst 1, 1) := by decide +kernel
theorem dX5_minutes_15 : decode cX5_minutes 15 = .ok (.invokevirtual 66, 3) := by decide +kernel
theorem dX5_minutes_18 : decode cX5_minutes 18 = .ok (.ireturn, 1) := by decide +kernel
theorem dX5_minutes_19 : decode cX5_minutes 19 = .ok (.aload_n 0, 1) := by decide +kernel
theorem dX5_minutes_20 : decode cX5_minutes 20 = .ok (.iload_n 1, 1) := by decide +kernel
theorem dX5_minutes_21 : decode cX5_minutes 21 = .ok (.invokevirtual 119, 3) := by decide +kernel
theorem dX5_minutes_24 : decode cX5_minutes 24 = .ok (.aload_n 0, 1) := by decide +kernel
theorem dX5_minutes_25 : decode cX5_minutes 25 = .ok (.iload_n 1, 1) := by decide +kernel
theorem dX5_minutes_26 : decode cX5_minutes 26 = .ok (.invokevirtual 129, 3) := by decide +kernel
theorem dX5_minutes_29 : decode cX5_minutes 29 = .ok (.ireturn, 1) := by decide +kernel
theorem dX5_best_0 : decode cX5_best 0 = .ok (.aload_n 0, 1) := by decide +kernel
theorem dX5_best_1 : decode cX5_best 1 = .ok (.iconst 0, 1) := by decide +kernel
theorem dX5_best_2 : decode cX5_best 2 = .ok (.putfield 50, 3) := by decide +kernel
theorem dX5_best_5 : decode cX5_best 5 = .ok (.iload_n 1, 1) := by decide +kernel
theorem dX5_best_6 : decode cX5_best 6 = .ok (.iconst 0, 1) := by decide +kernel
theorem dX5_best_7 : decode cX5_best 7 = .ok (.sipush 5000, 3) := by decide +kernel
theorem dX5_best_10 : decode cX5_best 10 = .ok (.invokestatic 57, 3) := by decide +kernel
theorem dX5_best_13 : decode cX5_best 13 = .ok (.ifCond .eq 14, 3) := by decide +kernel
theorem dX5_best_16 : decode cX5_best 16 = .ok (.iload_n 2, 1) := by decide +kernel
theorem dX5_best_17 : decode cX5_best 17 = .ok (.iconst 0, 1) := by decide +kernel
theorem dX5_best_18 : decode cX5_best 18 = .ok (.sipush 2000, 3) := by decide +kernel
theorem dX5_best_21 : decode cX5_best 21 = .ok (.invokestatic 57, 3) := by decide +kernel
theorem dX5_best_24 : decode cX5_best 24 = .ok (.ifCond .ne 9, 3) := by decide +kernel
theorem dX5_best_27 : decode cX5_best 27 = .ok (.aload_n 0, 1) := by decide +kernel
theorem dX5_best_28 : decode cX5_best 28 = .ok (.iconst 1, 1) := by decide +kernel
theorem dX5_best_29 : decode cX5_best 29 = .ok (.invokevirtual 66, 3) := by decide +kernel
theorem dX5_best_32 : decode cX5_best 32 = .ok (.ireturn, 1) := by decide +kernel
theorem dX5_best_33 : decode cX5_best 33 = .ok (.iconst 1, 1) := by decide +kernel
theorem dX5_best_34 : decode cX5_best 34 = .ok (.aload_n 0, 1) := by decide +kernel
theorem dX5_best_35 : decode cX5_best 35 = .ok (.getfield 54, 3) := by decide +kernel
theorem dX5_best_38 : decode cX5_best 38 = .ok (.ishl, 1) := by decide +kernel
theorem dX5_best_39 : decode cX5_best 39 = .ok (.iconst 1, 1) := by decide +kernel
theorem dX5_best_40 : decode cX5_best 40 = .ok (.isub, 1) := by decide +kernel
theorem dX5_best_41 : decode cX5_best 41 = .ok (.istore_n 3, 1) := by decide +kernel
theorem dX5_best_42 : decode cX5_best 42 = .ok (.aload_n 0, 1) := by decide +kernel
theorem dX5_best_43 : decode cX5_best 43 = .ok (.iload_n 3, 1) := by decide +kernel
theorem dX5_best_44 : decode cX5_best 44 = .ok (.invokevirtual 119, 3) := by decide +kernel
theorem dX5_best_47 : decode cX5_best 47 = .ok (.iconst 0, 1) := by decide +kernel
theorem dX5_best_48 : decode cX5_best 48 = .ok (.istore 4, 2) := by decide +kernel
theorem dX5_best_50 : decode cX5_best 50 = .ok (.iconst 0, 1) := by decide +kernel
theorem dX5_best_51 : decode cX5_best 51 = .ok (.istore 5, 2) := by decide +kernel
theorem dX5_best_53 : decode cX5_best 53 = .ok (.iconst 0, 1) := by decide +kernel
theorem dX5_best_54 : decode cX5_best 54 = .ok (.istore 6, 2) := by decide +kernel
theorem dX5_best_56 : decode cX5_best 56 = .ok (.iconst 1, 1) := by decide +kernel
theorem dX5_best_57 : decode cX5_best 57 = .ok (.istore 7, 2) := by decide +kernel
theorem dX5_best_59 : decode cX5_best 59 = .ok (.iload 7, 2) := by decide +kernel
theorem dX5_best_61 : decode cX5_best 61 = .ok (.iload_n 3, 1) := by decide +kernel
theorem dX5_best_62 : decode cX5_best 62 = .ok (.if_icmp .gt 124, 3) := by decide +kernel
theorem dX5_best_65 : decode cX5_best 65 = .ok (.iconst 0, 1) := by decide +kernel
theorem dX5_best_66 : decode cX5_best 66 = .ok (.istore 8, 2) := by decide +kernel
theorem dX5_best_68 : decode cX5_best 68 = .ok (.iconst 0, 1) := by decide +kernel
theorem dX5_best_69 : decode cX5_best 69 = .ok (.istore 9, 2) := by decide +kernel
theorem dX5_best_71 : decode cX5_best 71 = .ok (.iconst 0, 1) := by decide +kernel
theorem dX5_best_72 : decode cX5_best 72 = .ok (.istore 10, 2) := by decide +kernel
theorem dX5_best_74 : decode cX5_best 74 = .ok (.iload 10, 2) := by decide +kernel
theorem dX5_best_76 : decode cX5_best 76 = .ok (.aload_n 0, 1) := by decide +kernel
theorem dX5_best_77 : decode cX5_best 77 = .ok (.getfield 54, 3) := by decide +kernel
theorem dX5_best_80 : decode cX5_best 80 = .ok (.if_icmp .ge 44, 3) := by decide +kernel
theorem dX5_best_83 : decode cX5_best 83 = .ok (.iload 7, 2) := by decide +kernel
theorem dX5_best_85 : decode cX5_best 85 = .ok (.iload 10, 2) := by decide +kernel
theorem dX5_best_87 : decode cX5_best 87 = .ok (.invokestatic 110, 3) := by decide +kernel
theorem dX5_best_90 : decode cX5_best 90 = .ok (.ifCond .ne 6, 3) := by decide +kernel
theorem dX5_best_93 : decode cX5_best 93 = .ok (.goto 25, 3) := by decide +kernel
theorem dX5_best_96 : decode cX5_best 96 = .ok (.iload 8, 2) := by decide +kernel
theorem dX5_best_98 : decode cX5_best 98 = .ok (.aload_n 0, 1) := by decide +kernel
theorem dX5_best_99 : decode cX5_best 99 = .ok (.iload 10, 2) := by decide +kernel
theorem dX5_best_101 : decode cX5_best 101 = .ok (.invokevirtual 95, 3) := by decide +kernel
theorem dX5_best_104 : decode cX5_best 104 = .ok (.iadd, 1) := by decide +kernel
theorem dX5_best_105 : decode cX5_best 105 = .ok (.istore 8, 2) := by decide +kernel
theorem dX5_best_107 : decode cX5_best 107 = .ok (.iload 9, 2) := by decide +kernel
theorem dX5_best_109 : decode cX5_best 109 = .ok (.aload_n 0, 1) := by decide +kernel
theorem dX5_best_110 : decode cX5_best 110 = .ok (.iload 10, 2) := by decide +kernel
theorem dX5_best_112 : decode cX5_best 112 = .ok (.invokevirtual 92, 3) := by decide +kernel
theorem dX5_best_115 : decode cX5_best 115 = .ok (.iadd, 1) := by decide +kernel
theorem dX5_best_116 : decode cX5_best 116 = .ok (.istore 9, 2) := by decide +kernel
theorem dX5_best_118 : decode cX5_best 118 = .ok (.iinc 10 1, 3) := by decide +kernel
theorem dX5_best_121 : decode cX5_best 121 = .ok (.goto (-47), 3) := by decide +kernel
theorem dX5_best_124 : decode cX5_best 124 = .ok (.aload_n 0, 1) := by decide +kernel
theorem dX5_best_125 : decode cX5_best 125 = .ok (.iload 7, 2) := by decide +kernel
theorem dX5_best_127 : decode cX5_best 127 = .ok (.invokevirtual 129, 3) := by decide +kernel
theorem dX5_best_130 : decode cX5_best 130 = .ok (.istore 10, 2) := by decide +kernel
theorem dX5_best_132 : decode cX5_best 132 = .ok (.iload 10, 2) := by decide +kernel
theorem dX5_best_134 : decode cX5_best 134 = .ok (.iload_n 1, 1) := by decide +kernel
theorem dX5_best_135 : decode cX5_best 135 = .ok (.if_icmp .gt 45, 3) := by decide +kernel
theorem dX5_best_138 : decode cX5_best 138 = .ok (.iload 9, 2) := by decide +kernel
theorem dX5_best_140 : decode cX5_best 140 = .ok (.iload_n 2, 1) := by decide +kernel
theorem dX5_best_141 : decode cX5_best 141 = .ok (.if_icmp .gt 39, 3) := by decide +kernel
theorem dX5_best_144 : decode cX5_best 144 = .ok (.iload 8, 2) := by decide +kernel
theorem dX5_best_146 : decode cX5_best 146 = .ok (.iload 5, 2) := by decide +kernel
theorem dX5_best_148 : decode cX5_best 148 = .ok (.if_icmp .lt 32, 3) := by decide +kernel
theorem dX5_best_151 : decode cX5_best 151 = .ok (.iload 8, 2) := by decide +kernel
theorem dX5_best_153 : decode cX5_best 153 = .ok (.iload 5, 2) := by decide +kernel
theorem dX5_best_155 : decode cX5_best 155 = .ok (.if_icmp .ne 13, 3) := by decide +kernel
theorem dX5_best_158 : decode cX5_best 158 = .ok (.iload 10, 2) := by decide +kernel
theorem dX5_best_160 : decode cX5_best 160 = .ok (.iload 6, 2) := by decide +kernel
theorem dX5_best_162 : decode cX5_best 162 = .ok (.if_icmp .lt 6, 3) := by decide +kernel
theorem dX5_best_165 : decode cX5_best 165 = .ok (.goto 15, 3) := by decide +kernel
theorem dX5_best_168 : decode cX5_best 168 = .ok (.iload 7, 2) := by decide +kernel
theorem dX5_best_170 : decode cX5_best 170 = .ok (.istore 4, 2) := by decide +kernel
theorem dX5_best_172 : decode cX5_best 172 = .ok (.iload 8, 2) := by decide +kernel
theorem dX5_best_174 : decode cX5_best 174 = .ok (.istore 5, 2) := by decide +kernel
theorem dX5_best_176 : decode cX5_best 176 = .ok (.iload 10, 2) := by decide +kernel
theorem dX5_best_178 : decode cX5_best 178 = .ok (.istore 6, 2) := by decide +kernel
theorem dX5_best_180 : decode cX5_best 180 = .ok (.iinc 7 1, 3) := by decide +kernel
theorem dX5_best_183 : decode cX5_best 183 = .ok (.goto (-124), 3) := by decide +kernel
theorem dX5_best_186 : decode cX5_best 186 = .ok (.iload 4, 2) := by decide +kernel
theorem dX5_best_188 : decode cX5_best 188 = .ok (.ireturn, 1) := by decide +kernel
theorem dX5_go_0 : decode cX5_go 0 = .ok (.aload_n 0, 1) := by decide +kernel
theorem dX5_go_1 : decode cX5_go 1 = .ok (.iconst 0, 1) := by decide +kernel
theorem dX5_go_2 : decode cX5_go 2 = .ok (.putfield 50, 3) := by decide +kernel
theorem dX5_go_5 : decode cX5_go 5 = .ok (.aload_n 0, 1) := by decide +kernel
theorem dX5_go_6 : decode cX5_go 6 = .ok (.iload_n 1, 1) := by decide +kernel
theorem dX5_go_7 : decode cX5_go 7 = .ok (.invokevirtual 116, 3) := by decide +kernel
theorem dX5_go_10 : decode cX5_go 10 = .ok (.ifCond .eq 14, 3) := by decide +kernel
theorem dX5_go_13 : decode cX5_go 13 = .ok (.iload_n 2, 1) := by decide +kernel
theorem dX5_go_14 : decode cX5_go 14 = .ok (.iconst 0, 1) := by decide +kernel
theorem dX5_go_15 : decode cX5_go 15 = .ok (.sipush 2000, 3) := by decide +kernel
theorem dX5_go_18 : decode cX5_go 18 = .ok (.invokestatic 57, 3) := by decide +kernel
theorem dX5_go_21 : decode cX5_go 21 = .ok (.ifCond .ne 9, 3) := by decide +kernel
theorem dX5_go_24 : decode cX5_go 24 = .ok (.aload_n 0, 1) := by decide +kernel
theorem dX5_go_25 : decode cX5_go 25 = .ok (.iconst 1, 1) := by decide +kernel
theorem dX5_go_26 : decode cX5_go 26 = .ok (.invokevirtual 66, 3) := by decide +kernel
theorem dX5_go_29 : decode cX5_go 29 = .ok (.ireturn, 1) := by decide +kernel
theorem dX5_go_30 : decode cX5_go 30 = .ok (.aload_n 0, 1) := by decide +kernel
theorem dX5_go_31 : decode cX5_go 31 = .ok (.iload_n 1, 1) := by decide +kernel
theorem dX5_go_32 : decode cX5_go 32 = .ok (.invokevirtual 119, 3) := by decide +kernel
theorem dX5_go_35 : decode cX5_go 35 = .ok (.aload_n 0, 1) := by decide +kernel
theorem dX5_go_36 : decode cX5_go 36 = .ok (.getfield 43, 3) := by decide +kernel
theorem dX5_go_39 : decode cX5_go 39 = .ok (.iconst 1, 1) := by decide +kernel
theorem dX5_go_40 : decode cX5_go 40 = .ok (.dup2, 1) := by decide +kernel
theorem dX5_go_41 : decode cX5_go 41 = .ok (.laload, 1) := by decide +kernel
theorem dX5_go_42 : decode cX5_go 42 = .ok (.aload_n 0, 1) := by decide +kernel
theorem dX5_go_43 : decode cX5_go 43 = .ok (.iload_n 1, 1) := by decide +kernel
theorem dX5_go_44 : decode cX5_go 44 = .ok (.invokevirtual 129, 3) := by decide +kernel
theorem dX5_go_47 : decode cX5_go 47 = .ok (.i2l, 1) := by decide +kernel
theorem dX5_go_48 : decode cX5_go 48 = .ok (.ladd, 1) := by decide +kernel
theorem dX5_go_49 : decode cX5_go 49 = .ok (.lastore, 1) := by decide +kernel
theorem dX5_go_50 : decode cX5_go 50 = .ok (.aload_n 0, 1) := by decide +kernel
theorem dX5_go_51 : decode cX5_go 51 = .ok (.getfield 43, 3) := by decide +kernel
theorem dX5_go_54 : decode cX5_go 54 = .ok (.iconst 3, 1) := by decide +kernel
theorem dX5_go_55 : decode cX5_go 55 = .ok (.dup2, 1) := by decide +kernel
theorem dX5_go_56 : decode cX5_go 56 = .ok (.laload, 1) := by decide +kernel
theorem dX5_go_57 : decode cX5_go 57 = .ok (.lconst 1, 1) := by decide +kernel
theorem dX5_go_58 : decode cX5_go 58 = .ok (.ladd, 1) := by decide +kernel
theorem dX5_go_59 : decode cX5_go 59 = .ok (.lastore, 1) := by decide +kernel
theorem dX5_go_60 : decode cX5_go 60 = .ok (.iload_n 2, 1) := by decide +kernel
theorem dX5_go_61 : decode cX5_go 61 = .ok (.istore_n 3, 1) := by decide +kernel
theorem dX5_go_62 : decode cX5_go 62 = .ok (.bipush 8, 2) := by decide +kernel
theorem dX5_go_64 : decode cX5_go 64 = .ok (.istore 4, 2) := by decide +kernel
theorem dX5_go_66 : decode cX5_go 66 = .ok (.iload_n 1, 1) := by decide +kernel
theorem dX5_go_67 : decode cX5_go 67 = .ok (.istore 5, 2) := by decide +kernel
theorem dX5_go_69 : decode cX5_go 69 = .ok (.iload 5, 2) := by decide +kernel
theorem dX5_go_71 : decode cX5_go 71 = .ok (.ifCond .eq 126, 3) := by decide +kernel
theorem dX5_go_74 : decode cX5_go 74 = .ok (.aload_n 0, 1) := by decide +kernel
theorem dX5_go_75 : decode cX5_go 75 = .ok (.iload 5, 2) := by decide +kernel
theorem dX5_go_77 : decode cX5_go 77 = .ok (.iload 4, 2) := by decide +kernel
theorem dX5_go_79 : decode cX5_go 79 = .ok (.invokevirtual 126, 3) := by decide +kernel
theorem dX5_go_82 : decode cX5_go 82 = .ok (.istore 4, 2) := by decide +kernel
theorem dX5_go_84 : decode cX5_go 84 = .ok (.iload 5, 2) := by decide +kernel
theorem dX5_go_86 : decode cX5_go 86 = .ok (.iconst 1, 1) := by decide +kernel
theorem dX5_go_87 : decode cX5_go 87 = .ok (.iload 4, 2) := by decide +kernel
theorem dX5_go_89 : decode cX5_go 89 = .ok (.ishl, 1) := by decide +kernel
theorem dX5_go_90 : decode cX5_go 90 = .ok (.iconst (-1), 1) := by decide +kernel
theorem dX5_go_91 : decode cX5_go 91 = .ok (.ixor, 1) := by decide +kernel
theorem dX5_go_92 : decode cX5_go 92 = .ok (.iand, 1) := by decide +kernel
theorem dX5_go_93 : decode cX5_go 93 = .ok (.istore 5, 2) := by decide +kernel
theorem dX5_go_95 : decode cX5_go 95 = .ok (.aload_n 0, 1) := by decide +kernel
theorem dX5_go_96 : decode cX5_go 96 = .ok (.getfield 43, 3) := by decide +kernel
theorem dX5_go_99 : decode cX5_go 99 = .ok (.iconst 0, 1) := by decide +kernel
theorem dX5_go_100 : decode cX5_go 100 = .ok (.dup2, 1) := by decide +kernel
theorem dX5_go_101 : decode cX5_go 101 = .ok (.laload, 1) := by decide +kernel
theorem dX5_go_102 : decode cX5_go 102 = .ok (.aload_n 0, 1) := by decide +kernel
theorem dX5_go_103 : decode cX5_go 103 = .ok (.getfield 13, 3) := by decide +kernel
theorem dX5_go_106 : decode cX5_go 106 = .ok (.iload 4, 2) := by decide +kernel
theorem dX5_go_108 : decode cX5_go 108 = .ok (.iaload, 1) := by decide +kernel
theorem dX5_go_109 : decode cX5_go 109 = .ok (.i2l, 1) := by decide +kernel
theorem dX5_go_110 : decode cX5_go 110 = .ok (.ladd, 1) := by decide +kernel
theorem dX5_go_111 : decode cX5_go 111 = .ok (.lastore, 1) := by decide +kernel
theorem dX5_go_112 : decode cX5_go 112 = .ok (.aload_n 0, 1) := by decide +kernel
theorem dX5_go_113 : decode cX5_go 113 = .ok (.getfield 13, 3) := by decide +kernel
theorem dX5_go_116 : decode cX5_go 116 = .ok (.iload 4, 2) := by decide +kernel
theorem dX5_go_118 : decode cX5_go 118 = .ok (.iconst 0, 1) := by decide +kernel
theorem dX5_go_119 : decode cX5_go 119 = .ok (.iastore, 1) := by decide +kernel
theorem dX5_go_120 : decode cX5_go 120 = .ok (.aload_n 0, 1) := by decide +kernel
theorem dX5_go_121 : decode cX5_go 121 = .ok (.getfield 16, 3) := by decide +kernel
theorem dX5_go_124 : decode cX5_go 124 = .ok (.iload 4, 2) := by decide +kernel
theorem dX5_go_126 : decode cX5_go 126 = .ok (.dup2, 1) := by decide +kernel
theorem dX5_go_127 : decode cX5_go 127 = .ok (.iaload, 1) := by decide +kernel
theorem dX5_go_128 : decode cX5_go 128 = .ok (.iconst 1, 1) := by decide +kernel
theorem dX5_go_129 : decode cX5_go 129 = .ok (.iadd, 1) := by decide +kernel
theorem dX5_go_130 : decode cX5_go 130 = .ok (.iastore, 1) := by decide +kernel
theorem dX5_go_131 : decode cX5_go 131 = .ok (.bipush 6, 2) := by decide +kernel
theorem dX5_go_133 : decode cX5_go 133 = .ok (.iload 4, 2) := by decide +kernel
theorem dX5_go_135 : decode cX5_go 135 = .ok (.imul, 1) := by decide +kernel
theorem dX5_go_136 : decode cX5_go 136 = .ok (.istore 6, 2) := by decide +kernel
theorem dX5_go_138 : decode cX5_go 138 = .ok (.iload 6, 2) := by decide +kernel
theorem dX5_go_140 : decode cX5_go 140 = .ok (.bipush 6, 2) := by decide +kernel
theorem dX5_go_142 : decode cX5_go 142 = .ok (.iload 4, 2) := by decide +kernel
theorem dX5_go_144 : decode cX5_go 144 = .ok (.iconst 1, 1) := by decide +kernel
theorem dX5_go_145 : decode cX5_go 145 = .ok (.iadd, 1) := by decide +kernel
theorem dX5_go_146 : decode cX5_go 146 = .ok (.imul, 1) := by decide +kernel
theorem dX5_go_147 : decode cX5_go 147 = .ok (.if_icmp .ge 47, 3) := by decide +kernel
theorem dX5_go_150 : decode cX5_go 150 = .ok (.iload_n 3, 1) := by decide +kernel
theorem dX5_go_151 : decode cX5_go 151 = .ok (.aload_n 0, 1) := by decide +kernel
theorem dX5_go_152 : decode cX5_go 152 = .ok (.getfield 22, 3) := by decide +kernel
theorem dX5_go_155 : decode cX5_go 155 = .ok (.iload 6, 2) := by decide +kernel
theorem dX5_go_157 : decode cX5_go 157 = .ok (.iaload, 1) := by decide +kernel
theorem dX5_go_158 : decode cX5_go 158 = .ok (.aload_n 0, 1) := by decide +kernel
theorem dX5_go_159 : decode cX5_go 159 = .ok (.getfield 25, 3) := by decide +kernel
theorem dX5_go_162 : decode cX5_go 162 = .ok (.iload 6, 2) := by decide +kernel
theorem dX5_go_164 : decode cX5_go 164 = .ok (.iaload, 1) := by decide +kernel
theorem dX5_go_165 : decode cX5_go 165 = .ok (.isub, 1) := by decide +kernel
theorem dX5_go_166 : decode cX5_go 166 = .ok (.invokestatic 78, 3) := by decide +kernel
theorem dX5_go_169 : decode cX5_go 169 = .ok (.istore 7, 2) := by decide +kernel
theorem dX5_go_171 : decode cX5_go 171 = .ok (.aload_n 0, 1) := by decide +kernel
theorem dX5_go_172 : decode cX5_go 172 = .ok (.getfield 25, 3) := by decide +kernel
theorem dX5_go_175 : decode cX5_go 175 = .ok (.iload 6, 2) := by decide +kernel
theorem dX5_go_177 : decode cX5_go 177 = .ok (.dup2, 1) := by decide +kernel
theorem dX5_go_178 : decode cX5_go 178 = .ok (.iaload, 1) := by decide +kernel
theorem dX5_go_179 : decode cX5_go 179 = .ok (.iload 7, 2) := by decide +kernel
theorem dX5_go_181 : decode cX5_go 181 = .ok (.iadd, 1) := by decide +kernel
theorem dX5_go_182 : decode cX5_go 182 = .ok (.iastore, 1) := by decide +kernel
theorem dX5_go_183 : decode cX5_go 183 = .ok (.iload_n 3, 1) := by decide +kernel
theorem dX5_go_184 : decode cX5_go 184 = .ok (.iload 7, 2) := by decide +kernel
theorem dX5_go_186 : decode cX5_go 186 = .ok (.isub, 1) := by decide +kernel
theorem dX5_go_187 : decode cX5_go 187 = .ok (.istore_n 3, 1) := by decide +kernel
theorem dX5_go_188 : decode cX5_go 188 = .ok (.iinc 6 1, 3) := by decide +kernel
theorem dX5_go_191 : decode cX5_go 191 = .ok (.goto (-53), 3) := by decide +kernel
theorem dX5_go_194 : decode cX5_go 194 = .ok (.goto (-125), 3) := by decide +kernel
theorem dX5_go_197 : decode cX5_go 197 = .ok (.aload_n 0, 1) := by decide +kernel
theorem dX5_go_198 : decode cX5_go 198 = .ok (.getfield 43, 3) := by decide +kernel
theorem dX5_go_201 : decode cX5_go 201 = .ok (.iconst 2, 1) := by decide +kernel
theorem dX5_go_202 : decode cX5_go 202 = .ok (.dup2, 1) := by decide +kernel
theorem dX5_go_203 : decode cX5_go 203 = .ok (.laload, 1) := by decide +kernel
theorem dX5_go_204 : decode cX5_go 204 = .ok (.iload_n 2, 1) := by decide +kernel
theorem dX5_go_205 : decode cX5_go 205 = .ok (.iload_n 3, 1) := by decide +kernel
theorem dX5_go_206 : decode cX5_go 206 = .ok (.isub, 1) := by decide +kernel
theorem dX5_go_207 : decode cX5_go 207 = .ok (.i2l, 1) := by decide +kernel
theorem dX5_go_208 : decode cX5_go 208 = .ok (.ladd, 1) := by decide +kernel
theorem dX5_go_209 : decode cX5_go 209 = .ok (.lastore, 1) := by decide +kernel
theorem dX5_go_210 : decode cX5_go 210 = .ok (.iload_n 3, 1) := by decide +kernel
theorem dX5_go_211 : decode cX5_go 211 = .ok (.ireturn, 1) := by decide +kernel
theorem dX5_total_0 : decode cX5_total 0 = .ok (.aload_n 0, 1) := by decide +kernel
theorem dX5_total_1 : decode cX5_total 1 = .ok (.iload_n 1, 1) := by decide +kernel
theorem dX5_total_2 : decode cX5_total 2 = .ok (.iconst 0, 1) := by decide +kernel
theorem dX5_total_3 : decode cX5_total 3 = .ok (.iconst 3, 1) := by decide +kernel
theorem dX5_total_4 : decode cX5_total 4 = .ok (.invokestatic 57, 3) := by decide +kernel
theorem dX5_total_7 : decode cX5_total 7 = .ok (.ifCond .eq 7, 3) := by decide +kernel
theorem dX5_total_10 : decode cX5_total 10 = .ok (.iconst 0, 1) := by decide +kernel
theorem dX5_total_11 : decode cX5_total 11 = .ok (.goto 4, 3) := by decide +kernel
theorem dX5_total_14 : decode cX5_total 14 = .ok (.iconst 1, 1) := by decide +kernel
theorem dX5_total_15 : decode cX5_total 15 = .ok (.putfield 50, 3) := by decide +kernel
theorem dX5_total_18 : decode cX5_total 18 = .ok (.aload_n 0, 1) := by decide +kernel
theorem dX5_total_19 : decode cX5_total 19 = .ok (.getfield 50, 3) := by decide +kernel
theorem dX5_total_22 : decode cX5_total 22 = .ok (.ifCond .ne 12, 3) := by decide +kernel
theorem dX5_total_25 : decode cX5_total 25 = .ok (.aload_n 0, 1) := by decide +kernel
theorem dX5_total_26 : decode cX5_total 26 = .ok (.getfield 43, 3) := by decide +kernel
theorem dX5_total_29 : decode cX5_total 29 = .ok (.iload_n 1, 1) := by decide +kernel
theorem dX5_total_30 : decode cX5_total 30 = .ok (.laload, 1) := by decide +kernel
theorem dX5_total_31 : decode cX5_total 31 = .ok (.goto 4, 3) := by decide +kernel
theorem dX5_total_34 : decode cX5_total 34 = .ok (.lconst 0, 1) := by decide +kernel
theorem dX5_total_35 : decode cX5_total 35 = .ok (.lreturn, 1) := by decide +kernel
theorem dX5_filled_0 : decode cX5_filled 0 = .ok (.aload_n 0, 1) := by decide +kernel
theorem dX5_filled_1 : decode cX5_filled 1 = .ok (.iconst 0, 1) := by decide +kernel
theorem dX5_filled_2 : decode cX5_filled 2 = .ok (.putfield 50, 3) := by decide +kernel
theorem dX5_filled_5 : decode cX5_filled 5 = .ok (.iconst 0, 1) := by decide +kernel
theorem dX5_filled_6 : decode cX5_filled 6 = .ok (.istore_n 1, 1) := by decide +kernel
theorem dX5_filled_7 : decode cX5_filled 7 = .ok (.iconst 0, 1) := by decide +kernel
theorem dX5_filled_8 : decode cX5_filled 8 = .ok (.istore_n 2, 1) := by decide +kernel
theorem dX5_filled_9 : decode cX5_filled 9 = .ok (.iconst 0, 1) := by decide +kernel
theorem dX5_filled_10 : decode cX5_filled 10 = .ok (.istore_n 3, 1) := by decide +kernel
theorem dX5_filled_11 : decode cX5_filled 11 = .ok (.iload_n 3, 1) := by decide +kernel
theorem dX5_filled_12 : decode cX5_filled 12 = .ok (.bipush 6, 2) := by decide +kernel
theorem dX5_filled_14 : decode cX5_filled 14 = .ok (.aload_n 0, 1) := by decide +kernel
theorem dX5_filled_15 : decode cX5_filled 15 = .ok (.getfield 54, 3) := by decide +kernel
theorem dX5_filled_18 : decode cX5_filled 18 = .ok (.imul, 1) := by decide +kernel
theorem dX5_filled_19 : decode cX5_filled 19 = .ok (.if_icmp .ge 27, 3) := by decide +kernel
theorem dX5_filled_22 : decode cX5_filled 22 = .ok (.iload_n 1, 1) := by decide +kernel
theorem dX5_filled_23 : decode cX5_filled 23 = .ok (.aload_n 0, 1) := by decide +kernel
theorem dX5_filled_24 : decode cX5_filled 24 = .ok (.getfield 25, 3) := by decide +kernel
theorem dX5_filled_27 : decode cX5_filled 27 = .ok (.iload_n 3, 1) := by decide +kernel
theorem dX5_filled_28 : decode cX5_filled 28 = .ok (.iaload, 1) := by decide +kernel
theorem dX5_filled_29 : decode cX5_filled 29 = .ok (.iadd, 1) := by decide +kernel
theorem dX5_filled_30 : decode cX5_filled 30 = .ok (.istore_n 1, 1) := by decide +kernel
theorem dX5_filled_31 : decode cX5_filled 31 = .ok (.iload_n 2, 1) := by decide +kernel
theorem dX5_filled_32 : decode cX5_filled 32 = .ok (.aload_n 0, 1) := by decide +kernel
theorem dX5_filled_33 : decode cX5_filled 33 = .ok (.getfield 22, 3) := by decide +kernel
theorem dX5_filled_36 : decode cX5_filled 36 = .ok (.iload_n 3, 1) := by decide +kernel
theorem dX5_filled_37 : decode cX5_filled 37 = .ok (.iaload, 1) := by decide +kernel
theorem dX5_filled_38 : decode cX5_filled 38 = .ok (.iadd, 1) := by decide +kernel
theorem dX5_filled_39 : decode cX5_filled 39 = .ok (.istore_n 2, 1) := by decide +kernel
theorem dX5_filled_40 : decode cX5_filled 40 = .ok (.iinc 3 1, 3) := by decide +kernel
theorem dX5_filled_43 : decode cX5_filled 43 = .ok (.goto (-32), 3) := by decide +kernel
theorem dX5_filled_46 : decode cX5_filled 46 = .ok (.iload_n 2, 1) := by decide +kernel
theorem dX5_filled_47 : decode cX5_filled 47 = .ok (.ifCond .ne 7, 3) := by decide +kernel
theorem dX5_filled_50 : decode cX5_filled 50 = .ok (.dconst 1, 1) := by decide +kernel
theorem dX5_filled_51 : decode cX5_filled 51 = .ok (.goto 8, 3) := by decide +kernel
theorem dX5_filled_54 : decode cX5_filled 54 = .ok (.iload_n 1, 1) := by decide +kernel
theorem dX5_filled_55 : decode cX5_filled 55 = .ok (.i2d, 1) := by decide +kernel
theorem dX5_filled_56 : decode cX5_filled 56 = .ok (.iload_n 2, 1) := by decide +kernel
theorem dX5_filled_57 : decode cX5_filled 57 = .ok (.i2d, 1) := by decide +kernel
theorem dX5_filled_58 : decode cX5_filled 58 = .ok (.ddiv, 1) := by decide +kernel
theorem dX5_filled_59 : decode cX5_filled 59 = .ok (.dreturn, 1) := by decide +kernel
theorem dX5_digest_0 : decode cX5_digest 0 = .ok (.aload_n 0, 1) := by decide +kernel
theorem dX5_digest_1 : decode cX5_digest 1 = .ok (.iconst 0, 1) := by decide +kernel
theorem dX5_digest_2 : decode cX5_digest 2 = .ok (.putfield 50, 3) := by decide +kernel
theorem dX5_digest_5 : decode cX5_digest 5 = .ok (.ldc2_w 132, 3) := by decide +kernel
theorem dX5_digest_8 : decode cX5_digest 8 = .ok (.aload_n 0, 1) := by decide +kernel
theorem dX5_digest_9 : decode cX5_digest 9 = .ok (.getfield 83, 3) := by decide +kernel
theorem dX5_digest_12 : decode cX5_digest 12 = .ok (.i2l, 1) := by decide +kernel
theorem dX5_digest_13 : decode cX5_digest 13 = .ok (.ladd, 1) := by decide +kernel
theorem dX5_digest_14 : decode cX5_digest 14 = .ok (.ldc2_w 134, 3) := by decide +kernel
theorem dX5_digest_17 : decode cX5_digest 17 = .ok (.lmul, 1) := by decide +kernel
theorem dX5_digest_18 : decode cX5_digest 18 = .ok (.aload_n 0, 1) := by decide +kernel
theorem dX5_digest_19 : decode cX5_digest 19 = .ok (.getfield 54, 3) := by decide +kernel
theorem dX5_digest_22 : decode cX5_digest 22 = .ok (.i2l, 1) := by decide +kernel
theorem dX5_digest_23 : decode cX5_digest 23 = .ok (.ladd, 1) := by decide +kernel
theorem dX5_digest_24 : decode cX5_digest 24 = .ok (.lstore_n 1, 1) := by decide +kernel
theorem dX5_digest_25 : decode cX5_digest 25 = .ok (.iconst 0, 1) := by decide +kernel
theorem dX5_digest_26 : decode cX5_digest 26 = .ok (.istore_n 3, 1) := by decide +kernel
theorem dX5_digest_27 : decode cX5_digest 27 = .ok (.iload_n 3, 1) := by decide +kernel
theorem dX5_digest_28 : decode cX5_digest 28 = .ok (.aload_n 0, 1) := by decide +kernel
theorem dX5_digest_29 : decode cX5_digest 29 = .ok (.getfield 54, 3) := by decide +kernel
theorem dX5_digest_32 : decode cX5_digest 32 = .ok (.if_icmp .ge 54, 3) := by decide +kernel
theorem dX5_digest_35 : decode cX5_digest 35 = .ok (.lload_n 1, 1) := by decide +kernel
theorem dX5_digest_36 : decode cX5_digest 36 = .ok (.ldc2_w 134, 3) := by decide +kernel
theorem dX5_digest_39 : decode cX5_digest 39 = .ok (.lmul, 1) := by decide +kernel
theorem dX5_digest_40 : decode cX5_digest 40 = .ok (.aload_n 0, 1) := by decide +kernel
theorem dX5_digest_41 : decode cX5_digest 41 = .ok (.bipush 8, 2) := by decide +kernel
theorem dX5_digest_43 : decode cX5_digest 43 = .ok (.iload_n 3, 1) := by decide +kernel
theorem dX5_digest_44 : decode cX5_digest 44 = .ok (.invokevirtual 70, 3) := by decide +kernel
theorem dX5_digest_47 : decode cX5_digest 47 = .ok (.i2l, 1) := by decide +kernel
theorem dX5_digest_48 : decode cX5_digest 48 = .ok (.ladd, 1) := by decide +kernel
theorem dX5_digest_49 : decode cX5_digest 49 = .ok (.lstore_n 1, 1) := by decide +kernel
theorem dX5_digest_50 : decode cX5_digest 50 = .ok (.iconst 0, 1) := by decide +kernel
theorem dX5_digest_51 : decode cX5_digest 51 = .ok (.istore 4, 2) := by decide +kernel
theorem dX5_digest_53 : decode cX5_digest 53 = .ok (.iload 4, 2) := by decide +kernel
theorem dX5_digest_55 : decode cX5_digest 55 = .ok (.iload_n 3, 1) := by decide +kernel
theorem dX5_digest_56 : decode cX5_digest 56 = .ok (.if_icmp .ge 24, 3) := by decide +kernel
theorem dX5_digest_59 : decode cX5_digest 59 = .ok (.lload_n 1, 1) := by decide +kernel
theorem dX5_digest_60 : decode cX5_digest 60 = .ok (.ldc2_w 134, 3) := by decide +kernel
theorem dX5_digest_63 : decode cX5_digest 63 = .ok (.lmul, 1) := by decide +kernel
theorem dX5_digest_64 : decode cX5_digest 64 = .ok (.aload_n 0, 1) := by decide +kernel
theorem dX5_digest_65 : decode cX5_digest 65 = .ok (.iload 4, 2) := by decide +kernel
theorem dX5_digest_67 : decode cX5_digest 67 = .ok (.iload_n 3, 1) := by decide +kernel
theorem dX5_digest_68 : decode cX5_digest 68 = .ok (.invokevirtual 70, 3) := by decide +kernel
theorem dX5_digest_71 : decode cX5_digest 71 = .ok (.i2l, 1) := by decide +kernel
theorem dX5_digest_72 : decode cX5_digest 72 = .ok (.ladd, 1) := by decide +kernel
theorem dX5_digest_73 : decode cX5_digest 73 = .ok (.lstore_n 1, 1) := by decide +kernel
theorem dX5_digest_74 : decode cX5_digest 74 = .ok (.iinc 4 1, 3) := by decide +kernel
theorem dX5_digest_77 : decode cX5_digest 77 = .ok (.goto (-24), 3) := by decide +kernel
theorem dX5_digest_80 : decode cX5_digest 80 = .ok (.iinc 3 1, 3) := by decide +kernel
theorem dX5_digest_83 : decode cX5_digest 83 = .ok (.goto (-56), 3) := by decide +kernel
theorem dX5_digest_86 : decode cX5_digest 86 = .ok (.iconst 0, 1) := by decide +kernel
theorem dX5_digest_87 : decode cX5_digest 87 = .ok (.istore_n 3, 1) := by decide +kernel
theorem dX5_digest_88 : decode cX5_digest 88 = .ok (.iload_n 3, 1) := by decide +kernel
theorem dX5_digest_89 : decode cX5_digest 89 = .ok (.aload_n 0, 1) := by decide +kernel
theorem dX5_digest_90 : decode cX5_digest 90 = .ok (.getfield 54, 3) := by decide +kernel
theorem dX5_digest_93 : decode cX5_digest 93 = .ok (.if_icmp .ge 94, 3) := by decide +kernel
theorem dX5_digest_96 : decode cX5_digest 96 = .ok (.iconst 0, 1) := by decide +kernel
theorem dX5_digest_97 : decode cX5_digest 97 = .ok (.istore 4, 2) := by decide +kernel
theorem dX5_digest_99 : decode cX5_digest 99 = .ok (.iload 4, 2) := by decide +kernel
theorem dX5_digest_101 : decode cX5_digest 101 = .ok (.iconst 5, 1) := by decide +kernel
theorem dX5_digest_102 : decode cX5_digest 102 = .ok (.if_icmp .ge 24, 3) := by decide +kernel
theorem dX5_digest_105 : decode cX5_digest 105 = .ok (.lload_n 1, 1) := by decide +kernel
theorem dX5_digest_106 : decode cX5_digest 106 = .ok (.ldc2_w 134, 3) := by decide +kernel
theorem dX5_digest_109 : decode cX5_digest 109 = .ok (.lmul, 1) := by decide +kernel
theorem dX5_digest_110 : decode cX5_digest 110 = .ok (.aload_n 0, 1) := by decide +kernel
theorem dX5_digest_111 : decode cX5_digest 111 = .ok (.iload_n 3, 1) := by decide +kernel
theorem dX5_digest_112 : decode cX5_digest 112 = .ok (.iload 4, 2) := by decide +kernel
theorem dX5_digest_114 : decode cX5_digest 114 = .ok (.invokevirtual 98, 3) := by decide +kernel
theorem dX5_digest_117 : decode cX5_digest 117 = .ok (.i2l, 1) := by decide +kernel
theorem dX5_digest_118 : decode cX5_digest 118 = .ok (.ladd, 1) := by decide +kernel
theorem dX5_digest_119 : decode cX5_digest 119 = .ok (.lstore_n 1, 1) := by decide +kernel
theorem dX5_digest_120 : decode cX5_digest 120 = .ok (.iinc 4 1, 3) := by decide +kernel
theorem dX5_digest_123 : decode cX5_digest 123 = .ok (.goto (-24), 3) := by decide +kernel
theorem dX5_digest_126 : decode cX5_digest 126 = .ok (.bipush 6, 2) := by decide +kernel
theorem dX5_digest_128 : decode cX5_digest 128 = .ok (.iload_n 3, 1) := by decide +kernel
theorem dX5_digest_129 : decode cX5_digest 129 = .ok (.imul, 1) := by decide +kernel
theorem dX5_digest_130 : decode cX5_digest 130 = .ok (.istore 4, 2) := by decide +kernel
theorem dX5_digest_132 : decode cX5_digest 132 = .ok (.iload 4, 2) := by decide +kernel
theorem dX5_digest_134 : decode cX5_digest 134 = .ok (.bipush 6, 2) := by decide +kernel
theorem dX5_digest_136 : decode cX5_digest 136 = .ok (.iload_n 3, 1) := by decide +kernel
theorem dX5_digest_137 : decode cX5_digest 137 = .ok (.iconst 1, 1) := by decide +kernel
theorem dX5_digest_138 : decode cX5_digest 138 = .ok (.iadd, 1) := by decide +kernel
theorem dX5_digest_139 : decode cX5_digest 139 = .ok (.imul, 1) := by decide +kernel
theorem dX5_digest_140 : decode cX5_digest 140 = .ok (.if_icmp .ge 41, 3) := by decide +kernel
theorem dX5_digest_143 : decode cX5_digest 143 = .ok (.iconst 0, 1) := by decide +kernel
theorem dX5_digest_144 : decode cX5_digest 144 = .ok (.istore 5, 2) := by decide +kernel
theorem dX5_digest_146 : decode cX5_digest 146 = .ok (.iload 5, 2) := by decide +kernel
theorem dX5_digest_148 : decode cX5_digest 148 = .ok (.bipush 6, 2) := by decide +kernel
theorem dX5_digest_150 : decode cX5_digest 150 = .ok (.if_icmp .ge 25, 3) := by decide +kernel
theorem dX5_digest_153 : decode cX5_digest 153 = .ok (.lload_n 1, 1) := by decide +kernel
theorem dX5_digest_154 : decode cX5_digest 154 = .ok (.ldc2_w 134, 3) := by decide +kernel
theorem dX5_digest_157 : decode cX5_digest 157 = .ok (.lmul, 1) := by decide +kernel
theorem dX5_digest_158 : decode cX5_digest 158 = .ok (.aload_n 0, 1) := by decide +kernel
theorem dX5_digest_159 : decode cX5_digest 159 = .ok (.iload 4, 2) := by decide +kernel
theorem dX5_digest_161 : decode cX5_digest 161 = .ok (.iload 5, 2) := by decide +kernel
theorem dX5_digest_163 : decode cX5_digest 163 = .ok (.invokevirtual 89, 3) := by decide +kernel
theorem dX5_digest_166 : decode cX5_digest 166 = .ok (.i2l, 1) := by decide +kernel
theorem dX5_digest_167 : decode cX5_digest 167 = .ok (.ladd, 1) := by decide +kernel
theorem dX5_digest_168 : decode cX5_digest 168 = .ok (.lstore_n 1, 1) := by decide +kernel
theorem dX5_digest_169 : decode cX5_digest 169 = .ok (.iinc 5 1, 3) := by decide +kernel
theorem dX5_digest_172 : decode cX5_digest 172 = .ok (.goto (-26), 3) := by decide +kernel
theorem dX5_digest_175 : decode cX5_digest 175 = .ok (.iinc 4 1, 3) := by decide +kernel
theorem dX5_digest_178 : decode cX5_digest 178 = .ok (.goto (-46), 3) := by decide +kernel
theorem dX5_digest_181 : decode cX5_digest 181 = .ok (.iinc 3 1, 3) := by decide +kernel
theorem dX5_digest_184 : decode cX5_digest 184 = .ok (.goto (-96), 3) := by decide +kernel
theorem dX5_digest_187 : decode cX5_digest 187 = .ok (.lload_n 1, 1) := by decide +kernel
theorem dX5_digest_188 : decode cX5_digest 188 = .ok (.ldc2_w 134, 3) := by decide +kernel
theorem dX5_digest_191 : decode cX5_digest 191 = .ok (.lmul, 1) := by decide +kernel
theorem dX5_digest_192 : decode cX5_digest 192 = .ok (.aload_n 0, 1) := by decide +kernel
theorem dX5_digest_193 : decode cX5_digest 193 = .ok (.getfield 86, 3) := by decide +kernel
theorem dX5_digest_196 : decode cX5_digest 196 = .ok (.i2l, 1) := by decide +kernel
theorem dX5_digest_197 : decode cX5_digest 197 = .ok (.ladd, 1) := by decide +kernel
theorem dX5_digest_198 : decode cX5_digest 198 = .ok (.lstore_n 1, 1) := by decide +kernel
theorem dX5_digest_199 : decode cX5_digest 199 = .ok (.aload_n 0, 1) := by decide +kernel
theorem dX5_digest_200 : decode cX5_digest 200 = .ok (.getfield 43, 3) := by decide +kernel
theorem dX5_digest_203 : decode cX5_digest 203 = .ok (.astore_n 3, 1) := by decide +kernel
theorem dX5_digest_204 : decode cX5_digest 204 = .ok (.aload_n 3, 1) := by decide +kernel
theorem dX5_digest_205 : decode cX5_digest 205 = .ok (.arraylength, 1) := by decide +kernel
theorem dX5_digest_206 : decode cX5_digest 206 = .ok (.istore 4, 2) := by decide +kernel
theorem dX5_digest_208 : decode cX5_digest 208 = .ok (.iconst 0, 1) := by decide +kernel
theorem dX5_digest_209 : decode cX5_digest 209 = .ok (.istore 5, 2) := by decide +kernel
theorem dX5_digest_211 : decode cX5_digest 211 = .ok (.iload 5, 2) := by decide +kernel
theorem dX5_digest_213 : decode cX5_digest 213 = .ok (.iload 4, 2) := by decide +kernel
theorem dX5_digest_215 : decode cX5_digest 215 = .ok (.if_icmp .ge 24, 3) := by decide +kernel
theorem dX5_digest_218 : decode cX5_digest 218 = .ok (.aload_n 3, 1) := by decide +kernel
theorem dX5_digest_219 : decode cX5_digest 219 = .ok (.iload 5, 2) := by decide +kernel
theorem dX5_digest_221 : decode cX5_digest 221 = .ok (.laload, 1) := by decide +kernel
theorem dX5_digest_222 : decode cX5_digest 222 = .ok (.lstore 6, 2) := by decide +kernel
theorem dX5_digest_224 : decode cX5_digest 224 = .ok (.lload_n 1, 1) := by decide +kernel
theorem dX5_digest_225 : decode cX5_digest 225 = .ok (.ldc2_w 134, 3) := by decide +kernel
theorem dX5_digest_228 : decode cX5_digest 228 = .ok (.lmul, 1) := by decide +kernel
theorem dX5_digest_229 : decode cX5_digest 229 = .ok (.lload 6, 2) := by decide +kernel
theorem dX5_digest_231 : decode cX5_digest 231 = .ok (.ladd, 1) := by decide +kernel
theorem dX5_digest_232 : decode cX5_digest 232 = .ok (.lstore_n 1, 1) := by decide +kernel
theorem dX5_digest_233 : decode cX5_digest 233 = .ok (.iinc 5 1, 3) := by decide +kernel
theorem dX5_digest_236 : decode cX5_digest 236 = .ok (.goto (-25), 3) := by decide +kernel
theorem dX5_digest_239 : decode cX5_digest 239 = .ok (.lload_n 1, 1) := by decide +kernel
theorem dX5_digest_240 : decode cX5_digest 240 = .ok (.lreturn, 1) := by decide +kernel
theorem dJ6_bitCount_0f7a4_0 : decode cJ6_bitCount_0f7a4 0 = .ok (.iload_n 0, 1) := by decide +kernel
theorem dJ6_bitCount_0f7a4_1 : decode cJ6_bitCount_0f7a4 1 = .ok (.iload_n 0, 1) := by decide +kernel
theorem dJ6_bitCount_0f7a4_2 : decode cJ6_bitCount_0f7a4 2 = .ok (.iconst 1, 1) := by decide +kernel
theorem dJ6_bitCount_0f7a4_3 : decode cJ6_bitCount_0f7a4 3 = .ok (.iushr, 1) := by decide +kernel
theorem dJ6_bitCount_0f7a4_4 : decode cJ6_bitCount_0f7a4 4 = .ok (.ldc_w 265, 3) := by decide +kernel
theorem dJ6_bitCount_0f7a4_7 : decode cJ6_bitCount_0f7a4 7 = .ok (.iand, 1) := by decide +kernel
theorem dJ6_bitCount_0f7a4_8 : decode cJ6_bitCount_0f7a4 8 = .ok (.isub, 1) := by decide +kernel
theorem dJ6_bitCount_0f7a4_9 : decode cJ6_bitCount_0f7a4 9 = .ok (.istore_n 0, 1) := by decide +kernel
theorem dJ6_bitCount_0f7a4_10 : decode cJ6_bitCount_0f7a4 10 = .ok (.iload_n 0, 1) := by decide +kernel
theorem dJ6_bitCount_0f7a4_11 : decode cJ6_bitCount_0f7a4 11 = .ok (.ldc_w 266, 3) := by decide +kernel
theorem dJ6_bitCount_0f7a4_14 : decode cJ6_bitCount_0f7a4 14 = .ok (.iand, 1) := by decide +kernel
theorem dJ6_bitCount_0f7a4_15 : decode cJ6_bitCount_0f7a4 15 = .ok (.iload_n 0, 1) := by decide +kernel
theorem dJ6_bitCount_0f7a4_16 : decode cJ6_bitCount_0f7a4 16 = .ok (.iconst 2, 1) := by decide +kernel
theorem dJ6_bitCount_0f7a4_17 : decode cJ6_bitCount_0f7a4 17 = .ok (.iushr, 1) := by decide +kernel
theorem dJ6_bitCount_0f7a4_18 : decode cJ6_bitCount_0f7a4 18 = .ok (.ldc_w 266, 3) := by decide +kernel
theorem dJ6_bitCount_0f7a4_21 : decode cJ6_bitCount_0f7a4 21 = .ok (.iand, 1) := by decide +kernel
theorem dJ6_bitCount_0f7a4_22 : decode cJ6_bitCount_0f7a4 22 = .ok (.iadd, 1) := by decide +kernel
theorem dJ6_bitCount_0f7a4_23 : decode cJ6_bitCount_0f7a4 23 = .ok (.istore_n 0, 1) := by decide +kernel
theorem dJ6_bitCount_0f7a4_24 : decode cJ6_bitCount_0f7a4 24 = .ok (.iload_n 0, 1) := by decide +kernel
theorem dJ6_bitCount_0f7a4_25 : decode cJ6_bitCount_0f7a4 25 = .ok (.iload_n 0, 1) := by decide +kernel
theorem dJ6_bitCount_0f7a4_26 : decode cJ6_bitCount_0f7a4 26 = .ok (.iconst 4, 1) := by decide +kernel
theorem dJ6_bitCount_0f7a4_27 : decode cJ6_bitCount_0f7a4 27 = .ok (.iushr, 1) := by decide +kernel
theorem dJ6_bitCount_0f7a4_28 : decode cJ6_bitCount_0f7a4 28 = .ok (.iadd, 1) := by decide +kernel
theorem dJ6_bitCount_0f7a4_29 : decode cJ6_bitCount_0f7a4 29 = .ok (.ldc_w 267, 3) := by decide +kernel
theorem dJ6_bitCount_0f7a4_32 : decode cJ6_bitCount_0f7a4 32 = .ok (.iand, 1) := by decide +kernel
theorem dJ6_bitCount_0f7a4_33 : decode cJ6_bitCount_0f7a4 33 = .ok (.istore_n 0, 1) := by decide +kernel
theorem dJ6_bitCount_0f7a4_34 : decode cJ6_bitCount_0f7a4 34 = .ok (.iload_n 0, 1) := by decide +kernel
theorem dJ6_bitCount_0f7a4_35 : decode cJ6_bitCount_0f7a4 35 = .ok (.iload_n 0, 1) := by decide +kernel
theorem dJ6_bitCount_0f7a4_36 : decode cJ6_bitCount_0f7a4 36 = .ok (.bipush 8, 2) := by decide +kernel
theorem dJ6_bitCount_0f7a4_38 : decode cJ6_bitCount_0f7a4 38 = .ok (.iushr, 1) := by decide +kernel
theorem dJ6_bitCount_0f7a4_39 : decode cJ6_bitCount_0f7a4 39 = .ok (.iadd, 1) := by decide +kernel
theorem dJ6_bitCount_0f7a4_40 : decode cJ6_bitCount_0f7a4 40 = .ok (.istore_n 0, 1) := by decide +kernel
theorem dJ6_bitCount_0f7a4_41 : decode cJ6_bitCount_0f7a4 41 = .ok (.iload_n 0, 1) := by decide +kernel
theorem dJ6_bitCount_0f7a4_42 : decode cJ6_bitCount_0f7a4 42 = .ok (.iload_n 0, 1) := by decide +kernel
theorem dJ6_bitCount_0f7a4_43 : decode cJ6_bitCount_0f7a4 43 = .ok (.bipush 16, 2) := by decide +kernel
theorem dJ6_bitCount_0f7a4_45 : decode cJ6_bitCount_0f7a4 45 = .ok (.iushr, 1) := by decide +kernel
theorem dJ6_bitCount_0f7a4_46 : decode cJ6_bitCount_0f7a4 46 = .ok (.iadd, 1) := by decide +kernel
theorem dJ6_bitCount_0f7a4_47 : decode cJ6_bitCount_0f7a4 47 = .ok (.istore_n 0, 1) := by decide +kernel
theorem dJ6_bitCount_0f7a4_48 : decode cJ6_bitCount_0f7a4 48 = .ok (.iload_n 0, 1) := by decide +kernel
theorem dJ6_bitCount_0f7a4_49 : decode cJ6_bitCount_0f7a4 49 = .ok (.bipush 63, 2) := by decide +kernel
theorem dJ6_bitCount_0f7a4_51 : decode cJ6_bitCount_0f7a4 51 = .ok (.iand, 1) := by decide +kernel
theorem dJ6_bitCount_0f7a4_52 : decode cJ6_bitCount_0f7a4 52 = .ok (.ireturn, 1) := by decide +kernel
theorem dJ9_max_7cf53_0 : decode cJ9_max_7cf53 0 = .ok (.iload_n 0, 1) := by decide +kernel
theorem dJ9_max_7cf53_1 : decode cJ9_max_7cf53 1 = .ok (.iload_n 1, 1) := by decide +kernel
theorem dJ9_max_7cf53_2 : decode cJ9_max_7cf53 2 = .ok (.if_icmp .lt 7, 3) := by decide +kernel
theorem dJ9_max_7cf53_5 : decode cJ9_max_7cf53 5 = .ok (.iload_n 0, 1) := by decide +kernel
theorem dJ9_max_7cf53_6 : decode cJ9_max_7cf53 6 = .ok (.goto 4, 3) := by decide +kernel
theorem dJ9_max_7cf53_9 : decode cJ9_max_7cf53 9 = .ok (.iload_n 1, 1) := by decide +kernel
theorem dJ9_max_7cf53_10 : decode cJ9_max_7cf53 10 = .ok (.ireturn, 1) := by decide +kernel
theorem dJ9_min_7cf53_0 : decode cJ9_min_7cf53 0 = .ok (.iload_n 0, 1) := by decide +kernel
theorem dJ9_min_7cf53_1 : decode cJ9_min_7cf53 1 = .ok (.iload_n 1, 1) := by decide +kernel
theorem dJ9_min_7cf53_2 : decode cJ9_min_7cf53 2 = .ok (.if_icmp .gt 7, 3) := by decide +kernel
theorem dJ9_min_7cf53_5 : decode cJ9_min_7cf53 5 = .ok (.iload_n 0, 1) := by decide +kernel
theorem dJ9_min_7cf53_6 : decode cJ9_min_7cf53 6 = .ok (.goto 4, 3) := by decide +kernel
theorem dJ9_min_7cf53_9 : decode cJ9_min_7cf53 9 = .ok (.iload_n 1, 1) := by decide +kernel
theorem dJ9_min_7cf53_10 : decode cJ9_min_7cf53 10 = .ok (.ireturn, 1) := by decide +kernel
theorem dJxa1e45_init_da8c8_0 : decode cJxa1e45_init_da8c8 0 = .ok (.aload_n 0, 1) := by decide +kernel
theorem dJxa1e45_init_da8c8_1 : decode cJxa1e45_init_da8c8 1 = .ok (.invokespecial 1, 3) := by decide +kernel
theorem dJxa1e45_init_da8c8_4 : decode cJxa1e45_init_da8c8 4 = .ok (.return_, 1) := by decide +kernel
theorem dJxc12de_init_da8c8_0 : decode cJxc12de_init_da8c8 0 = .ok (.aload_n 0, 1) := by decide +kernel
theorem dJxc12de_init_da8c8_1 : decode cJxc12de_init_da8c8 1 = .ok (.invokespecial 1, 3) := by decide +kernel
theorem dJxc12de_init_da8c8_4 : decode cJxc12de_init_da8c8 4 = .ok (.aload_n 0, 1) := by decide +kernel
theorem dJxc12de_init_da8c8_5 : decode cJxc12de_init_da8c8 5 = .ok (.iconst 0, 1) := by decide +kernel
theorem dJxc12de_init_da8c8_6 : decode cJxc12de_init_da8c8 6 = .ok (.putfield 7, 3) := by decide +kernel
theorem dJxc12de_init_da8c8_9 : decode cJxc12de_init_da8c8 9 = .ok (.return_, 1) := by decide +kernel
theorem dJx4a65c_init_da8c8_0 : decode cJx4a65c_init_da8c8 0 = .ok (.aload_n 0, 1) := by decide +kernel
theorem dJx4a65c_init_da8c8_1 : decode cJx4a65c_init_da8c8 1 = .ok (.invokespecial 1, 3) := by decide +kernel
theorem dJx4a65c_init_da8c8_4 : decode cJx4a65c_init_da8c8 4 = .ok (.aload_n 0, 1) := by decide +kernel
theorem dJx4a65c_init_da8c8_5 : decode cJx4a65c_init_da8c8 5 = .ok (.getstatic 39, 3) := by decide +kernel
theorem dJx4a65c_init_da8c8_8 : decode cJx4a65c_init_da8c8 8 = .ok (.putfield 9, 3) := by decide +kernel
theorem dJx4a65c_init_da8c8_11 : decode cJx4a65c_init_da8c8 11 = .ok (.return_, 1) := by decide +kernel
theorem dJx4a65c_grow_92f84_0 : decode cJx4a65c_grow_92f84 0 = .ok (.aload_n 0, 1) := by decide +kernel
theorem dJx4a65c_grow_92f84_1 : decode cJx4a65c_grow_92f84 1 = .ok (.getfield 9, 3) := by decide +kernel
theorem dJx4a65c_grow_92f84_4 : decode cJx4a65c_grow_92f84 4 = .ok (.arraylength, 1) := by decide +kernel
theorem dJx4a65c_grow_92f84_5 : decode cJx4a65c_grow_92f84 5 = .ok (.istore_n 2, 1) := by decide +kernel
theorem dJx4a65c_grow_92f84_6 : decode cJx4a65c_grow_92f84 6 = .ok (.iload_n 2, 1) := by decide +kernel
theorem dJx4a65c_grow_92f84_7 : decode cJx4a65c_grow_92f84 7 = .ok (.ifCond .gt 13, 3) := by decide +kernel
theorem dJx4a65c_grow_92f84_10 : decode cJx4a65c_grow_92f84 10 = .ok (.aload_n 0, 1) := by decide +kernel
theorem dJx4a65c_grow_92f84_11 : decode cJx4a65c_grow_92f84 11 = .ok (.getfield 9, 3) := by decide +kernel
theorem dJx4a65c_grow_92f84_14 : decode cJx4a65c_grow_92f84 14 = .ok (.getstatic 39, 3) := by decide +kernel
theorem dJx4a65c_grow_92f84_17 : decode cJx4a65c_grow_92f84 17 = .ok (.if_acmp .eq 28, 3) := by decide +kernel
theorem dJx4a65c_grow_92f84_20 : decode cJx4a65c_grow_92f84 20 = .ok (.iload_n 2, 1) := by decide +kernel
theorem dJx4a65c_grow_92f84_21 : decode cJx4a65c_grow_92f84 21 = .ok (.iload_n 1, 1) := by decide +kernel
theorem dJx4a65c_grow_92f84_22 : decode cJx4a65c_grow_92f84 22 = .ok (.iload_n 2, 1) := by decide +kernel
theorem dJx4a65c_grow_92f84_23 : decode cJx4a65c_grow_92f84 23 = .ok (.isub, 1) := by decide +kernel
theorem dJx4a65c_grow_92f84_24 : decode cJx4a65c_grow_92f84 24 = .ok (.iload_n 2, 1) := by decide +kernel
theorem dJx4a65c_grow_92f84_25 : decode cJx4a65c_grow_92f84 25 = .ok (.iconst 1, 1) := by decide +kernel
theorem dJx4a65c_grow_92f84_26 : decode cJx4a65c_grow_92f84 26 = .ok (.ishr, 1) := by decide +kernel
theorem dJx4a65c_grow_92f84_27 : decode cJx4a65c_grow_92f84 27 = .ok (.invokestatic 73, 3) := by decide +kernel
theorem dJx4a65c_grow_92f84_30 : decode cJx4a65c_grow_92f84 30 = .ok (.istore_n 3, 1) := by decide +kernel
theorem dJx4a65c_grow_92f84_31 : decode cJx4a65c_grow_92f84 31 = .ok (.aload_n 0, 1) := by decide +kernel
theorem dJx4a65c_grow_92f84_32 : decode cJx4a65c_grow_92f84 32 = .ok (.aload_n 0, 1) := by decide +kernel
theorem dJx4a65c_grow_92f84_33 : decode cJx4a65c_grow_92f84 33 = .ok (.getfield 9, 3) := by decide +kernel
theorem dJx4a65c_grow_92f84_36 : decode cJx4a65c_grow_92f84 36 = .ok (.iload_n 3, 1) := by decide +kernel
theorem dJx4a65c_grow_92f84_37 : decode cJx4a65c_grow_92f84 37 = .ok (.invokestatic 66, 3) := by decide +kernel
theorem dJx4a65c_grow_92f84_40 : decode cJx4a65c_grow_92f84 40 = .ok (.dup_x1, 1) := by decide +kernel
theorem dJx4a65c_grow_92f84_41 : decode cJx4a65c_grow_92f84 41 = .ok (.putfield 9, 3) := by decide +kernel
theorem dJx4a65c_grow_92f84_44 : decode cJx4a65c_grow_92f84 44 = .ok (.areturn, 1) := by decide +kernel
theorem dJx4a65c_grow_92f84_45 : decode cJx4a65c_grow_92f84 45 = .ok (.aload_n 0, 1) := by decide +kernel
theorem dJx4a65c_grow_92f84_46 : decode cJx4a65c_grow_92f84 46 = .ok (.bipush 10, 2) := by decide +kernel
theorem dJx4a65c_grow_92f84_48 : decode cJx4a65c_grow_92f84 48 = .ok (.iload_n 1, 1) := by decide +kernel
theorem dJx4a65c_grow_92f84_49 : decode cJx4a65c_grow_92f84 49 = .ok (.invokestatic 79, 3) := by decide +kernel
theorem dJx4a65c_grow_92f84_52 : decode cJx4a65c_grow_92f84 52 = .ok (.anewarray 7, 3) := by decide +kernel
theorem dJx4a65c_grow_92f84_55 : decode cJx4a65c_grow_92f84 55 = .ok (.dup_x1, 1) := by decide +kernel
theorem dJx4a65c_grow_92f84_56 : decode cJx4a65c_grow_92f84 56 = .ok (.putfield 9, 3) := by decide +kernel
theorem dJx4a65c_grow_92f84_59 : decode cJx4a65c_grow_92f84 59 = .ok (.areturn, 1) := by decide +kernel
theorem dJx4a65c_grow_d5877_0 : decode cJx4a65c_grow_d5877 0 = .ok (.aload_n 0, 1) := by decide +kernel
theorem dJx4a65c_grow_d5877_1 : decode cJx4a65c_grow_d5877 1 = .ok (.aload_n 0, 1) := by decide +kernel
theorem dJx4a65c_grow_d5877_2 : decode cJx4a65c_grow_d5877 2 = .ok (.getfield 48, 3) := by decide +kernel
theorem dJx4a65c_grow_d5877_5 : decode cJx4a65c_grow_d5877 5 = .ok (.iconst 1, 1) := by decide +kernel
theorem dJx4a65c_grow_d5877_6 : decode cJx4a65c_grow_d5877 6 = .ok (.iadd, 1) := by decide +kernel
theorem dJx4a65c_grow_d5877_7 : decode cJx4a65c_grow_d5877 7 = .ok (.invokevirtual 69, 3) := by decide +kernel
theorem dJx4a65c_grow_d5877_10 : decode cJx4a65c_grow_d5877 10 = .ok (.areturn, 1) := by decide +kernel
theorem dJx4a65c_size_8abf5_0 : decode cJx4a65c_size_8abf5 0 = .ok (.aload_n 0, 1) := by decide +kernel
theorem dJx4a65c_size_8abf5_1 : decode cJx4a65c_size_8abf5 1 = .ok (.getfield 48, 3) := by decide +kernel
theorem dJx4a65c_size_8abf5_4 : decode cJx4a65c_size_8abf5 4 = .ok (.ireturn, 1) := by decide +kernel
theorem dJx4a65c_elementData_915e3_0 : decode cJx4a65c_elementData_915e3 0 = .ok (.aload_n 0, 1) := by decide +kernel
theorem dJx4a65c_elementData_915e3_1 : decode cJx4a65c_elementData_915e3 1 = .ok (.getfield 9, 3) := by decide +kernel
theorem dJx4a65c_elementData_915e3_4 : decode cJx4a65c_elementData_915e3 4 = .ok (.iload_n 1, 1) := by decide +kernel
theorem dJx4a65c_elementData_915e3_5 : decode cJx4a65c_elementData_915e3 5 = .ok (.aaload, 1) := by decide +kernel
theorem dJx4a65c_elementData_915e3_6 : decode cJx4a65c_elementData_915e3 6 = .ok (.areturn, 1) := by decide +kernel
theorem dJx4a65c_get_915e3_0 : decode cJx4a65c_get_915e3 0 = .ok (.iload_n 1, 1) := by decide +kernel
theorem dJx4a65c_get_915e3_1 : decode cJx4a65c_get_915e3 1 = .ok (.aload_n 0, 1) := by decide +kernel
theorem dJx4a65c_get_915e3_2 : decode cJx4a65c_get_915e3 2 = .ok (.getfield 48, 3) := by decide +kernel
theorem dJx4a65c_get_915e3_5 : decode cJx4a65c_get_915e3 5 = .ok (.invokestatic 118, 3) := by decide +kernel
theorem dJx4a65c_get_915e3_8 : decode cJx4a65c_get_915e3 8 = .ok (.pop, 1) := by decide +kernel
theorem dJx4a65c_get_915e3_9 : decode cJx4a65c_get_915e3 9 = .ok (.aload_n 0, 1) := by decide +kernel
theorem dJx4a65c_get_915e3_10 : decode cJx4a65c_get_915e3 10 = .ok (.iload_n 1, 1) := by decide +kernel
theorem dJx4a65c_get_915e3_11 : decode cJx4a65c_get_915e3 11 = .ok (.invokevirtual 123, 3) := by decide +kernel
theorem dJx4a65c_get_915e3_14 : decode cJx4a65c_get_915e3 14 = .ok (.areturn, 1) := by decide +kernel
theorem dJx4a65c_add_72be8_0 : decode cJx4a65c_add_72be8 0 = .ok (.iload_n 3, 1) := by decide +kernel
theorem dJx4a65c_add_72be8_1 : decode cJx4a65c_add_72be8 1 = .ok (.aload_n 2, 1) := by decide +kernel
theorem dJx4a65c_add_72be8_2 : decode cJx4a65c_add_72be8 2 = .ok (.arraylength, 1) := by decide +kernel
theorem dJx4a65c_add_72be8_3 : decode cJx4a65c_add_72be8 3 = .ok (.if_icmp .ne 8, 3) := by decide +kernel
theorem dJx4a65c_add_72be8_6 : decode cJx4a65c_add_72be8 6 = .ok (.aload_n 0, 1) := by decide +kernel
theorem dJx4a65c_add_72be8_7 : decode cJx4a65c_add_72be8 7 = .ok (.invokevirtual 129, 3) := by decide +kernel
theorem dJx4a65c_add_72be8_10 : decode cJx4a65c_add_72be8 10 = .ok (.astore_n 2, 1) := by decide +kernel
theorem dJx4a65c_add_72be8_11 : decode cJx4a65c_add_72be8 11 = .ok (.aload_n 2, 1) := by decide +kernel
theorem dJx4a65c_add_72be8_12 : decode cJx4a65c_add_72be8 12 = .ok (.iload_n 3, 1) := by decide +kernel
theorem dJx4a65c_add_72be8_13 : decode cJx4a65c_add_72be8 13 = .ok (.aload_n 1, 1) := by decide +kernel
theorem dJx4a65c_add_72be8_14 : decode cJx4a65c_add_72be8 14 = .ok (.aastore, 1) := by decide +kernel
theorem dJx4a65c_add_72be8_15 : decode cJx4a65c_add_72be8 15 = .ok (.aload_n 0, 1) := by decide +kernel
theorem dJx4a65c_add_72be8_16 : decode cJx4a65c_add_72be8 16 = .ok (.iload_n 3, 1) := by decide +kernel
theorem dJx4a65c_add_72be8_17 : decode cJx4a65c_add_72be8 17 = .ok (.iconst 1, 1) := by decide +kernel
theorem dJx4a65c_add_72be8_18 : decode cJx4a65c_add_72be8 18 = .ok (.iadd, 1) := by decide +kernel
theorem dJx4a65c_add_72be8_19 : decode cJx4a65c_add_72be8 19 = .ok (.putfield 48, 3) := by decide +kernel
theorem dJx4a65c_add_72be8_22 : decode cJx4a65c_add_72be8 22 = .ok (.return_, 1) := by decide +kernel
theorem dJx4a65c_add_9ea2d_0 : decode cJx4a65c_add_9ea2d 0 = .ok (.aload_n 0, 1) := by decide +kernel
theorem dJx4a65c_add_9ea2d_1 : decode cJx4a65c_add_9ea2d 1 = .ok (.dup, 1) := by decide +kernel
theorem dJx4a65c_add_9ea2d_2 : decode cJx4a65c_add_9ea2d 2 = .ok (.getfield 63, 3) := by decide +kernel
theorem dJx4a65c_add_9ea2d_5 : decode cJx4a65c_add_9ea2d 5 = .ok (.iconst 1, 1) := by decide +kernel
theorem dJx4a65c_add_9ea2d_6 : decode cJx4a65c_add_9ea2d 6 = .ok (.iadd, 1) := by decide +kernel
theorem dJx4a65c_add_9ea2d_7 : decode cJx4a65c_add_9ea2d 7 = .ok (.putfield 63, 3) := by decide +kernel
theorem dJx4a65c_add_9ea2d_10 : decode cJx4a65c_add_9ea2d 10 = .ok (.aload_n 0, 1) := by decide +kernel
theorem dJx4a65c_add_9ea2d_11 : decode cJx4a65c_add_9ea2d 11 = .ok (.aload_n 1, 1) := by decide +kernel
theorem dJx4a65c_add_9ea2d_12 : decode cJx4a65c_add_9ea2d 12 = .ok (.aload_n 0, 1) := by decide +kernel
theorem dJx4a65c_add_9ea2d_13 : decode cJx4a65c_add_9ea2d 13 = .ok (.getfield 9, 3) := by decide +kernel
theorem dJx4a65c_add_9ea2d_16 : decode cJx4a65c_add_9ea2d 16 = .ok (.aload_n 0, 1) := by decide +kernel
theorem dJx4a65c_add_9ea2d_17 : decode cJx4a65c_add_9ea2d 17 = .ok (.getfield 48, 3) := by decide +kernel
theorem dJx4a65c_add_9ea2d_20 : decode cJx4a65c_add_9ea2d 20 = .ok (.invokevirtual 131, 3) := by decide +kernel
theorem dJx4a65c_add_9ea2d_23 : decode cJx4a65c_add_9ea2d 23 = .ok (.iconst 1, 1) := by decide +kernel
theorem dJx4a65c_add_9ea2d_24 : decode cJx4a65c_add_9ea2d 24 = .ok (.ireturn, 1) := by decide +kernel
theorem dJx4a65c_remove_915e3_0 : decode cJx4a65c_remove_915e3 0 = .ok (.iload_n 1, 1) := by decide +kernel
theorem dJx4a65c_remove_915e3_1 : decode cJx4a65c_remove_915e3 1 = .ok (.aload_n 0, 1) := by decide +kernel
theorem dJx4a65c_remove_915e3_2 : decode cJx4a65c_remove_915e3 2 = .ok (.getfield 48, 3) := by decide +kernel
theorem dJx4a65c_remove_915e3_5 : decode cJx4a65c_remove_915e3 5 = .ok (.invokestatic 118, 3) := by decide +kernel
theorem dJx4a65c_remove_915e3_8 : decode cJx4a65c_remove_915e3 8 = .ok (.pop, 1) := by decide +kernel
theorem dJx4a65c_remove_915e3_9 : decode cJx4a65c_remove_915e3 9 = .ok (.aload_n 0, 1) := by decide +kernel
theorem dJx4a65c_remove_915e3_10 : decode cJx4a65c_remove_915e3 10 = .ok (.getfield 9, 3) := by decide +kernel
theorem dJx4a65c_remove_915e3_13 : decode cJx4a65c_remove_915e3 13 = .ok (.astore_n 2, 1) := by decide +kernel
theorem dJx4a65c_remove_915e3_14 : decode cJx4a65c_remove_915e3 14 = .ok (.aload_n 2, 1) := by decide +kernel
theorem dJx4a65c_remove_915e3_15 : decode cJx4a65c_remove_915e3 15 = .ok (.iload_n 1, 1) := by decide +kernel
theorem dJx4a65c_remove_915e3_16 : decode cJx4a65c_remove_915e3 16 = .ok (.aaload, 1) := by decide +kernel
theorem dJx4a65c_remove_915e3_17 : decode cJx4a65c_remove_915e3 17 = .ok (.astore_n 3, 1) := by decide +kernel
theorem dJx4a65c_remove_915e3_18 : decode cJx4a65c_remove_915e3 18 = .ok (.aload_n 0, 1) := by decide +kernel
theorem dJx4a65c_remove_915e3_19 : decode cJx4a65c_remove_915e3 19 = .ok (.aload_n 2, 1) := by decide +kernel
theorem dJx4a65c_remove_915e3_20 : decode cJx4a65c_remove_915e3 20 = .ok (.iload_n 1, 1) := by decide +kernel
theorem dJx4a65c_remove_915e3_21 : decode cJx4a65c_remove_915e3 21 = .ok (.invokevirtual 144, 3) := by decide +kernel
theorem dJx4a65c_remove_915e3_24 : decode cJx4a65c_remove_915e3 24 = .ok (.aload_n 3, 1) := by decide +kernel
theorem dJx4a65c_remove_915e3_25 : decode cJx4a65c_remove_915e3 25 = .ok (.areturn, 1) := by decide +kernel
theorem dJx4a65c_fastRemove_b59b0_0 : decode cJx4a65c_fastRemove_b59b0 0 = .ok (.aload_n 0, 1) := by decide +kernel
theorem dJx4a65c_fastRemove_b59b0_1 : decode cJx4a65c_fastRemove_b59b0 1 = .ok (.dup, 1) := by decide +kernel
theorem dJx4a65c_fastRemove_b59b0_2 : decode cJx4a65c_fastRemove_b59b0 2 = .ok (.getfield 63, 3) := by decide +kernel
theorem dJx4a65c_fastRemove_b59b0_5 : decode cJx4a65c_fastRemove_b59b0 5 = .ok (.iconst 1, 1) := by decide +kernel
theorem dJx4a65c_fastRemove_b59b0_6 : decode cJx4a65c_fastRemove_b59b0 6 = .ok (.iadd, 1) := by decide +kernel
theorem dJx4a65c_fastRemove_b59b0_7 : decode cJx4a65c_fastRemove_b59b0 7 = .ok (.putfield 63, 3) := by decide +kernel
theorem dJx4a65c_fastRemove_b59b0_10 : decode cJx4a65c_fastRemove_b59b0 10 = .ok (.aload_n 0, 1) := by decide +kernel
theorem dJx4a65c_fastRemove_b59b0_11 : decode cJx4a65c_fastRemove_b59b0 11 = .ok (.getfield 48, 3) := by decide +kernel
theorem dJx4a65c_fastRemove_b59b0_14 : decode cJx4a65c_fastRemove_b59b0 14 = .ok (.iconst 1, 1) := by decide +kernel
theorem dJx4a65c_fastRemove_b59b0_15 : decode cJx4a65c_fastRemove_b59b0 15 = .ok (.isub, 1) := by decide +kernel
theorem dJx4a65c_fastRemove_b59b0_16 : decode cJx4a65c_fastRemove_b59b0 16 = .ok (.dup, 1) := by decide +kernel
theorem dJx4a65c_fastRemove_b59b0_17 : decode cJx4a65c_fastRemove_b59b0 17 = .ok (.istore_n 3, 1) := by decide +kernel
theorem dJx4a65c_fastRemove_b59b0_18 : decode cJx4a65c_fastRemove_b59b0 18 = .ok (.iload_n 2, 1) := by decide +kernel
theorem dJx4a65c_fastRemove_b59b0_19 : decode cJx4a65c_fastRemove_b59b0 19 = .ok (.if_icmp .le 15, 3) := by decide +kernel
theorem dJx4a65c_fastRemove_b59b0_22 : decode cJx4a65c_fastRemove_b59b0 22 = .ok (.aload_n 1, 1) := by decide +kernel
theorem dJx4a65c_fastRemove_b59b0_23 : decode cJx4a65c_fastRemove_b59b0 23 = .ok (.iload_n 2, 1) := by decide +kernel
theorem dJx4a65c_fastRemove_b59b0_24 : decode cJx4a65c_fastRemove_b59b0 24 = .ok (.iconst 1, 1) := by decide +kernel
theorem dJx4a65c_fastRemove_b59b0_25 : decode cJx4a65c_fastRemove_b59b0 25 = .ok (.iadd, 1) := by decide +kernel
theorem dJx4a65c_fastRemove_b59b0_26 : decode cJx4a65c_fastRemove_b59b0 26 = .ok (.aload_n 1, 1) := by decide +kernel
theorem dJx4a65c_fastRemove_b59b0_27 : decode cJx4a65c_fastRemove_b59b0 27 = .ok (.iload_n 2, 1) := by decide +kernel
theorem dJx4a65c_fastRemove_b59b0_28 : decode cJx4a65c_fastRemove_b59b0 28 = .ok (.iload_n 3, 1) := by decide +kernel
theorem dJx4a65c_fastRemove_b59b0_29 : decode cJx4a65c_fastRemove_b59b0 29 = .ok (.iload_n 2, 1) := by decide +kernel
theorem dJx4a65c_fastRemove_b59b0_30 : decode cJx4a65c_fastRemove_b59b0 30 = .ok (.isub, 1) := by decide +kernel
theorem dJx4a65c_fastRemove_b59b0_31 : decode cJx4a65c_fastRemove_b59b0 31 = .ok (.invokestatic 112, 3) := by decide +kernel
theorem dJx4a65c_fastRemove_b59b0_34 : decode cJx4a65c_fastRemove_b59b0 34 = .ok (.aload_n 1, 1) := by decide +kernel
theorem dJx4a65c_fastRemove_b59b0_35 : decode cJx4a65c_fastRemove_b59b0 35 = .ok (.aload_n 0, 1) := by decide +kernel
theorem dJx4a65c_fastRemove_b59b0_36 : decode cJx4a65c_fastRemove_b59b0 36 = .ok (.iload_n 3, 1) := by decide +kernel
theorem dJx4a65c_fastRemove_b59b0_37 : decode cJx4a65c_fastRemove_b59b0 37 = .ok (.dup_x1, 1) := by decide +kernel
theorem dJx4a65c_fastRemove_b59b0_38 : decode cJx4a65c_fastRemove_b59b0 38 = .ok (.putfield 48, 3) := by decide +kernel
theorem dJx4a65c_fastRemove_b59b0_41 : decode cJx4a65c_fastRemove_b59b0 41 = .ok (.aconst_null, 1) := by decide +kernel
theorem dJx4a65c_fastRemove_b59b0_42 : decode cJx4a65c_fastRemove_b59b0 42 = .ok (.aastore, 1) := by decide +kernel
theorem dJx4a65c_fastRemove_b59b0_43 : decode cJx4a65c_fastRemove_b59b0 43 = .ok (.return_, 1) := by decide +kernel
theorem dJ7_copyOf_1904c_0 : decode cJ7_copyOf_1904c 0 = .ok (.aload_n 0, 1) := by decide +kernel
theorem dJ7_copyOf_1904c_1 : decode cJ7_copyOf_1904c 1 = .ok (.iload_n 1, 1) := by decide +kernel
theorem dJ7_copyOf_1904c_2 : decode cJ7_copyOf_1904c 2 = .ok (.aload_n 0, 1) := by decide +kernel
theorem dJ7_copyOf_1904c_3 : decode cJ7_copyOf_1904c 3 = .ok (.invokevirtual 86, 3) := by decide +kernel
theorem dJ7_copyOf_1904c_6 : decode cJ7_copyOf_1904c 6 = .ok (.invokestatic 300, 3) := by decide +kernel
theorem dJ7_copyOf_1904c_9 : decode cJ7_copyOf_1904c 9 = .ok (.areturn, 1) := by decide +kernel
theorem dJ7_copyOf_6403c_0 : decode cJ7_copyOf_6403c 0 = .ok (.aload_n 2, 1) := by decide +kernel
theorem dJ7_copyOf_6403c_1 : decode cJ7_copyOf_6403c 1 = .ok (.ldc 110, 2) := by decide +kernel
theorem dJ7_copyOf_6403c_3 : decode cJ7_copyOf_6403c 3 = .ok (.if_acmp .ne 10, 3) := by decide +kernel
theorem dJ7_copyOf_6403c_6 : decode cJ7_copyOf_6403c 6 = .ok (.iload_n 1, 1) := by decide +kernel
theorem dJ7_copyOf_6403c_7 : decode cJ7_copyOf_6403c 7 = .ok (.anewarray 2, 3) := by decide +kernel
theorem dJ7_copyOf_6403c_10 : decode cJ7_copyOf_6403c 10 = .ok (.goto 14, 3) := by decide +kernel
theorem dJ7_copyOf_6403c_13 : decode cJ7_copyOf_6403c 13 = .ok (.aload_n 2, 1) := by decide +kernel
theorem dJ7_copyOf_6403c_14 : decode cJ7_copyOf_6403c 14 = .ok (.invokevirtual 90, 3) := by decide +kernel
theorem dJ7_copyOf_6403c_17 : decode cJ7_copyOf_6403c 17 = .ok (.iload_n 1, 1) := by decide +kernel
theorem dJ7_copyOf_6403c_18 : decode cJ7_copyOf_6403c 18 = .ok (.invokestatic 95, 3) := by decide +kernel
theorem dJ7_copyOf_6403c_21 : decode cJ7_copyOf_6403c 21 = .ok (.checkcast 110, 3) := by decide +kernel
theorem dJ7_copyOf_6403c_24 : decode cJ7_copyOf_6403c 24 = .ok (.astore_n 3, 1) := by decide +kernel
theorem dJ7_copyOf_6403c_25 : decode cJ7_copyOf_6403c 25 = .ok (.aload_n 0, 1) := by decide +kernel
theorem dJ7_copyOf_6403c_26 : decode cJ7_copyOf_6403c 26 = .ok (.iconst 0, 1) := by decide +kernel
theorem dJ7_copyOf_6403c_27 : decode cJ7_copyOf_6403c 27 = .ok (.aload_n 3, 1) := by decide +kernel
theorem dJ7_copyOf_6403c_28 : decode cJ7_copyOf_6403c 28 = .ok (.iconst 0, 1) := by decide +kernel
theorem dJ7_copyOf_6403c_29 : decode cJ7_copyOf_6403c 29 = .ok (.aload_n 0, 1) := by decide +kernel
theorem dJ7_copyOf_6403c_30 : decode cJ7_copyOf_6403c 30 = .ok (.arraylength, 1) := by decide +kernel
theorem dJ7_copyOf_6403c_31 : decode cJ7_copyOf_6403c 31 = .ok (.iload_n 1, 1) := by decide +kernel
theorem dJ7_copyOf_6403c_32 : decode cJ7_copyOf_6403c 32 = .ok (.invokestatic 304, 3) := by decide +kernel
theorem dJ7_copyOf_6403c_35 : decode cJ7_copyOf_6403c 35 = .ok (.invokestatic 150, 3) := by decide +kernel
theorem dJ7_copyOf_6403c_38 : decode cJ7_copyOf_6403c 38 = .ok (.aload_n 3, 1) := by decide +kernel
theorem dJ7_copyOf_6403c_39 : decode cJ7_copyOf_6403c 39 = .ok (.areturn, 1) := by decide +kernel
theorem dJ15_checkIndex_7cf53_0 : decode cJ15_checkIndex_7cf53 0 = .ok (.iload_n 0, 1) := by decide +kernel
theorem dJ15_checkIndex_7cf53_1 : decode cJ15_checkIndex_7cf53 1 = .ok (.iload_n 1, 1) := by decide +kernel
theorem dJ15_checkIndex_7cf53_2 : decode cJ15_checkIndex_7cf53 2 = .ok (.aconst_null, 1) := by decide +kernel
theorem dJ15_checkIndex_7cf53_3 : decode cJ15_checkIndex_7cf53 3 = .ok (.invokestatic 105, 3) := by decide +kernel
theorem dJ15_checkIndex_7cf53_6 : decode cJ15_checkIndex_7cf53 6 = .ok (.ireturn, 1) := by decide +kernel
theorem dJ8_newLength_cabcc_0 : decode cJ8_newLength_cabcc 0 = .ok (.iload_n 0, 1) := by decide +kernel
theorem dJ8_newLength_cabcc_1 : decode cJ8_newLength_cabcc 1 = .ok (.iload_n 1, 1) := by decide +kernel
theorem dJ8_newLength_cabcc_2 : decode cJ8_newLength_cabcc 2 = .ok (.iload_n 2, 1) := by decide +kernel
theorem dJ8_newLength_cabcc_3 : decode cJ8_newLength_cabcc 3 = .ok (.invokestatic 194, 3) := by decide +kernel
theorem dJ8_newLength_cabcc_6 : decode cJ8_newLength_cabcc 6 = .ok (.iadd, 1) := by decide +kernel
theorem dJ8_newLength_cabcc_7 : decode cJ8_newLength_cabcc 7 = .ok (.istore_n 3, 1) := by decide +kernel
theorem dJ8_newLength_cabcc_8 : decode cJ8_newLength_cabcc 8 = .ok (.iconst 0, 1) := by decide +kernel
theorem dJ8_newLength_cabcc_9 : decode cJ8_newLength_cabcc 9 = .ok (.iload_n 3, 1) := by decide +kernel
theorem dJ8_newLength_cabcc_10 : decode cJ8_newLength_cabcc 10 = .ok (.if_icmp .ge 11, 3) := by decide +kernel
theorem dJ8_newLength_cabcc_13 : decode cJ8_newLength_cabcc 13 = .ok (.iload_n 3, 1) := by decide +kernel
theorem dJ8_newLength_cabcc_14 : decode cJ8_newLength_cabcc 14 = .ok (.ldc 200, 2) := by decide +kernel
theorem dJ8_newLength_cabcc_16 : decode cJ8_newLength_cabcc 16 = .ok (.if_icmp .gt 5, 3) := by decide +kernel
theorem dJ8_newLength_cabcc_19 : decode cJ8_newLength_cabcc 19 = .ok (.iload_n 3, 1) := by decide +kernel
theorem dJ8_newLength_cabcc_20 : decode cJ8_newLength_cabcc 20 = .ok (.ireturn, 1) := by decide +kernel
theorem dJ8_newLength_cabcc_21 : decode cJ8_newLength_cabcc 21 = .ok (.iload_n 0, 1) := by decide +kernel
theorem dJ8_newLength_cabcc_22 : decode cJ8_newLength_cabcc 22 = .ok (.iload_n 1, 1) := by decide +kernel
theorem dJ8_newLength_cabcc_23 : decode cJ8_newLength_cabcc 23 = .ok (.invokestatic 201, 3) := by decide +kernel
theorem dJ8_newLength_cabcc_26 : decode cJ8_newLength_cabcc 26 = .ok (.ireturn, 1) := by decide +kernel
theorem dJ8_hugeLength_7cf53_0 : decode cJ8_hugeLength_7cf53 0 = .ok (.iload_n 0, 1) := by decide +kernel
theorem dJ8_hugeLength_7cf53_1 : decode cJ8_hugeLength_7cf53 1 = .ok (.iload_n 1, 1) := by decide +kernel
theorem dJ8_hugeLength_7cf53_2 : decode cJ8_hugeLength_7cf53 2 = .ok (.iadd, 1) := by decide +kernel
theorem dJ8_hugeLength_7cf53_3 : decode cJ8_hugeLength_7cf53 3 = .ok (.istore_n 2, 1) := by decide +kernel
theorem dJ8_hugeLength_7cf53_4 : decode cJ8_hugeLength_7cf53 4 = .ok (.iload_n 2, 1) := by decide +kernel
theorem dJ8_hugeLength_7cf53_5 : decode cJ8_hugeLength_7cf53 5 = .ok (.ifCond .ge 44, 3) := by decide +kernel
theorem dJ8_hugeLength_7cf53_8 : decode cJ8_hugeLength_7cf53 8 = .ok (.new 204, 3) := by decide +kernel
theorem dJ8_hugeLength_7cf53_11 : decode cJ8_hugeLength_7cf53 11 = .ok (.dup, 1) := by decide +kernel
theorem dJ8_hugeLength_7cf53_12 : decode cJ8_hugeLength_7cf53 12 = .ok (.new 89, 3) := by decide +kernel
theorem dJ8_hugeLength_7cf53_15 : decode cJ8_hugeLength_7cf53 15 = .ok (.dup, 1) := by decide +kernel
theorem dJ8_hugeLength_7cf53_16 : decode cJ8_hugeLength_7cf53 16 = .ok (.invokespecial 91, 3) := by decide +kernel
theorem dJ8_hugeLength_7cf53_19 : decode cJ8_hugeLength_7cf53 19 = .ok (.ldc 206, 2) := by decide +kernel
theorem dJ8_hugeLength_7cf53_21 : decode cJ8_hugeLength_7cf53 21 = .ok (.invokevirtual 94, 3) := by decide +kernel
theorem dJ8_hugeLength_7cf53_24 : decode cJ8_hugeLength_7cf53 24 = .ok (.iload_n 0, 1) := by decide +kernel
theorem dJ8_hugeLength_7cf53_25 : decode cJ8_hugeLength_7cf53 25 = .ok (.invokevirtual 98, 3) := by decide +kernel
theorem dJ8_hugeLength_7cf53_28 : decode cJ8_hugeLength_7cf53 28 = .ok (.ldc 208, 2) := by decide +kernel
theorem dJ8_hugeLength_7cf53_30 : decode cJ8_hugeLength_7cf53 30 = .ok (.invokevirtual 94, 3) := by decide +kernel
theorem dJ8_hugeLength_7cf53_33 : decode cJ8_hugeLength_7cf53 33 = .ok (.iload_n 1, 1) := by decide +kernel
theorem dJ8_hugeLength_7cf53_34 : decode cJ8_hugeLength_7cf53 34 = .ok (.invokevirtual 98, 3) := by decide +kernel
theorem dJ8_hugeLength_7cf53_37 : decode cJ8_hugeLength_7cf53 37 = .ok (.ldc 210, 2) := by decide +kernel
theorem dJ8_hugeLength_7cf53_39 : decode cJ8_hugeLength_7cf53 39 = .ok (.invokevirtual 94, 3) := by decide +kernel
theorem dJ8_hugeLength_7cf53_42 : decode cJ8_hugeLength_7cf53 42 = .ok (.invokevirtual 101, 3) := by decide +kernel
theorem dJ8_hugeLength_7cf53_45 : decode cJ8_hugeLength_7cf53 45 = .ok (.invokespecial 212, 3) := by decide +kernel
theorem dJ8_hugeLength_7cf53_48 : decode cJ8_hugeLength_7cf53 48 = .ok (.athrow, 1) := by decide +kernel
theorem dJ8_hugeLength_7cf53_49 : decode cJ8_hugeLength_7cf53 49 = .ok (.iload_n 2, 1) := by decide +kernel
theorem dJ8_hugeLength_7cf53_50 : decode cJ8_hugeLength_7cf53 50 = .ok (.ldc 200, 2) := by decide +kernel
theorem dJ8_hugeLength_7cf53_52 : decode cJ8_hugeLength_7cf53 52 = .ok (.if_icmp .gt 6, 3) := by decide +kernel
theorem dJ8_hugeLength_7cf53_55 : decode cJ8_hugeLength_7cf53 55 = .ok (.ldc 200, 2) := by decide +kernel
theorem dJ8_hugeLength_7cf53_57 : decode cJ8_hugeLength_7cf53 57 = .ok (.ireturn, 1) := by decide +kernel
theorem dJ8_hugeLength_7cf53_58 : decode cJ8_hugeLength_7cf53 58 = .ok (.iload_n 2, 1) := by decide +kernel
theorem dJ8_hugeLength_7cf53_59 : decode cJ8_hugeLength_7cf53 59 = .ok (.ireturn, 1) := by decide +kernel
theorem dJ3_checkIndex_8e157_0 : decode cJ3_checkIndex_8e157 0 = .ok (.iload_n 0, 1) := by decide +kernel
theorem dJ3_checkIndex_8e157_1 : decode cJ3_checkIndex_8e157 1 = .ok (.ifCond .lt 8, 3) := by decide +kernel
theorem dJ3_checkIndex_8e157_4 : decode cJ3_checkIndex_8e157 4 = .ok (.iload_n 0, 1) := by decide +kernel
theorem dJ3_checkIndex_8e157_5 : decode cJ3_checkIndex_8e157 5 = .ok (.iload_n 1, 1) := by decide +kernel
theorem dJ3_checkIndex_8e157_6 : decode cJ3_checkIndex_8e157 6 = .ok (.if_icmp .lt 10, 3) := by decide +kernel
theorem dJ3_checkIndex_8e157_9 : decode cJ3_checkIndex_8e157 9 = .ok (.aload_n 2, 1) := by decide +kernel
theorem dJ3_checkIndex_8e157_10 : decode cJ3_checkIndex_8e157 10 = .ok (.iload_n 0, 1) := by decide +kernel
theorem dJ3_checkIndex_8e157_11 : decode cJ3_checkIndex_8e157 11 = .ok (.iload_n 1, 1) := by decide +kernel
theorem dJ3_checkIndex_8e157_12 : decode cJ3_checkIndex_8e157 12 = .ok (.invokestatic 95, 3) := by decide +kernel
theorem dJ3_checkIndex_8e157_15 : decode cJ3_checkIndex_8e157 15 = .ok (.athrow, 1) := by decide +kernel
theorem dJ3_checkIndex_8e157_16 : decode cJ3_checkIndex_8e157 16 = .ok (.iload_n 0, 1) := by decide +kernel
theorem dJ3_checkIndex_8e157_17 : decode cJ3_checkIndex_8e157 17 = .ok (.ireturn, 1) := by decide +kernel
theorem dL_addMachine_0 : decode cL_addMachine 0 = .ok (.aload_n 2, 1) := by decide +kernel
theorem dL_addMachine_1 : decode cL_addMachine 1 = .ok (.iconst 0, 1) := by decide +kernel
theorem dL_addMachine_2 : decode cL_addMachine 2 = .ok (.aload_n 0, 1) := by decide +kernel
theorem dL_addMachine_3 : decode cL_addMachine 3 = .ok (.iload_n 1, 1) := by decide +kernel
theorem dL_addMachine_4 : decode cL_addMachine 4 = .ok (.invokevirtual 7, 3) := by decide +kernel
theorem dL_addMachine_7 : decode cL_addMachine 7 = .ok (.i2l, 1) := by decide +kernel
theorem dL_addMachine_8 : decode cL_addMachine 8 = .ok (.lastore, 1) := by decide +kernel
theorem dL_addMachine_9 : decode cL_addMachine 9 = .ok (.goto 9, 3) := by decide +kernel
theorem dL_addMachine_12 : decode cL_addMachine 12 = .ok (.astore_n 3, 1) := by decide +kernel
theorem dL_addMachine_13 : decode cL_addMachine 13 = .ok (.iconst 1, 1) := by decide +kernel
theorem dL_addMachine_14 : decode cL_addMachine 14 = .ok (.ireturn, 1) := by decide +kernel
theorem dL_addMachine_15 : decode cL_addMachine 15 = .ok (.astore_n 3, 1) := by decide +kernel
theorem dL_addMachine_16 : decode cL_addMachine 16 = .ok (.iconst 2, 1) := by decide +kernel
theorem dL_addMachine_17 : decode cL_addMachine 17 = .ok (.ireturn, 1) := by decide +kernel
theorem dL_addMachine_18 : decode cL_addMachine 18 = .ok (.iconst 0, 1) := by decide +kernel
theorem dL_addMachine_19 : decode cL_addMachine 19 = .ok (.ireturn, 1) := by decide +kernel
theorem dL_setMinutes_0 : decode cL_setMinutes 0 = .ok (.aload 4, 2) := by decide +kernel
theorem dL_setMinutes_2 : decode cL_setMinutes 2 = .ok (.iconst 0, 1) := by decide +kernel
theorem dL_setMinutes_3 : decode cL_setMinutes 3 = .ok (.aload_n 0, 1) := by decide +kernel
theorem dL_setMinutes_4 : decode cL_setMinutes 4 = .ok (.iload_n 1, 1) := by decide +kernel
theorem dL_setMinutes_5 : decode cL_setMinutes 5 = .ok (.iload_n 2, 1) := by decide +kernel
theorem dL_setMinutes_6 : decode cL_setMinutes 6 = .ok (.iload_n 3, 1) := by decide +kernel
theorem dL_setMinutes_7 : decode cL_setMinutes 7 = .ok (.invokevirtual 17, 3) := by decide +kernel
theorem dL_setMinutes_10 : decode cL_setMinutes 10 = .ok (.i2l, 1) := by decide +kernel
theorem dL_setMinutes_11 : decode cL_setMinutes 11 = .ok (.lastore, 1) := by decide +kernel
theorem dL_setMinutes_12 : decode cL_setMinutes 12 = .ok (.goto 11, 3) := by decide +kernel
theorem dL_setMinutes_15 : decode cL_setMinutes 15 = .ok (.astore 5, 2) := by decide +kernel
theorem dL_setMinutes_17 : decode cL_setMinutes 17 = .ok (.iconst 1, 1) := by decide +kernel
theorem dL_setMinutes_18 : decode cL_setMinutes 18 = .ok (.ireturn, 1) := by decide +kernel
theorem dL_setMinutes_19 : decode cL_setMinutes 19 = .ok (.astore 5, 2) := by decide +kernel
theorem dL_setMinutes_21 : decode cL_setMinutes 21 = .ok (.iconst 2, 1) := by decide +kernel
theorem dL_setMinutes_22 : decode cL_setMinutes 22 = .ok (.ireturn, 1) := by decide +kernel
theorem dL_setMinutes_23 : decode cL_setMinutes 23 = .ok (.iconst 0, 1) := by decide +kernel
theorem dL_setMinutes_24 : decode cL_setMinutes 24 = .ok (.ireturn, 1) := by decide +kernel
theorem dL_setSlot_0 : decode cL_setSlot 0 = .ok (.aload 5, 2) := by decide +kernel
theorem dL_setSlot_2 : decode cL_setSlot 2 = .ok (.iconst 0, 1) := by decide +kernel
theorem dL_setSlot_3 : decode cL_setSlot 3 = .ok (.aload_n 0, 1) := by decide +kernel
theorem dL_setSlot_4 : decode cL_setSlot 4 = .ok (.iload_n 1, 1) := by decide +kernel
theorem dL_setSlot_5 : decode cL_setSlot 5 = .ok (.iload_n 2, 1) := by decide +kernel
theorem dL_setSlot_6 : decode cL_setSlot 6 = .ok (.iload_n 3, 1) := by decide +kernel
theorem dL_setSlot_7 : decode cL_setSlot 7 = .ok (.iload 4, 2) := by decide +kernel
theorem dL_setSlot_9 : decode cL_setSlot 9 = .ok (.invokevirtual 23, 3) := by decide +kernel
theorem dL_setSlot_12 : decode cL_setSlot 12 = .ok (.i2l, 1) := by decide +kernel
theorem dL_setSlot_13 : decode cL_setSlot 13 = .ok (.lastore, 1) := by decide +kernel
theorem dL_setSlot_14 : decode cL_setSlot 14 = .ok (.goto 11, 3) := by decide +kernel
theorem dL_setSlot_17 : decode cL_setSlot 17 = .ok (.astore 6, 2) := by decide +kernel
theorem dL_setSlot_19 : decode cL_setSlot 19 = .ok (.iconst 1, 1) := by decide +kernel
theorem dL_setSlot_20 : decode cL_setSlot 20 = .ok (.ireturn, 1) := by decide +kernel
theorem dL_setSlot_21 : decode cL_setSlot 21 = .ok (.astore 6, 2) := by decide +kernel
theorem dL_setSlot_23 : decode cL_setSlot 23 = .ok (.iconst 2, 1) := by decide +kernel
theorem dL_setSlot_24 : decode cL_setSlot 24 = .ok (.ireturn, 1) := by decide +kernel
theorem dL_setSlot_25 : decode cL_setSlot 25 = .ok (.iconst 0, 1) := by decide +kernel
theorem dL_setSlot_26 : decode cL_setSlot 26 = .ok (.ireturn, 1) := by decide +kernel
theorem dL_planPrice_0 : decode cL_planPrice 0 = .ok (.aload 5, 2) := by decide +kernel
theorem dL_planPrice_2 : decode cL_planPrice 2 = .ok (.iconst 0, 1) := by decide +kernel
theorem dL_planPrice_3 : decode cL_planPrice 3 = .ok (.aload_n 0, 1) := by decide +kernel
theorem dL_planPrice_4 : decode cL_planPrice 4 = .ok (.iload_n 1, 1) := by decide +kernel
theorem dL_planPrice_5 : decode cL_planPrice 5 = .ok (.iload_n 2, 1) := by decide +kernel
theorem dL_planPrice_6 : decode cL_planPrice 6 = .ok (.iload_n 3, 1) := by decide +kernel
theorem dL_planPrice_7 : decode cL_planPrice 7 = .ok (.iload 4, 2) := by decide +kernel
theorem dL_planPrice_9 : decode cL_planPrice 9 = .ok (.invokevirtual 27, 3) := by decide +kernel
theorem dL_planPrice_12 : decode cL_planPrice 12 = .ok (.i2l, 1) := by decide +kernel
theorem dL_planPrice_13 : decode cL_planPrice 13 = .ok (.lastore, 1) := by decide +kernel
theorem dL_planPrice_14 : decode cL_planPrice 14 = .ok (.goto 15, 3) := by decide +kernel
theorem dL_planPrice_17 : decode cL_planPrice 17 = .ok (.astore 6, 2) := by decide +kernel
theorem dL_planPrice_19 : decode cL_planPrice 19 = .ok (.iconst 1, 1) := by decide +kernel
theorem dL_planPrice_20 : decode cL_planPrice 20 = .ok (.ireturn, 1) := by decide +kernel
theorem dL_planPrice_21 : decode cL_planPrice 21 = .ok (.astore 6, 2) := by decide +kernel
theorem dL_planPrice_23 : decode cL_planPrice 23 = .ok (.iconst 2, 1) := by decide +kernel
theorem dL_planPrice_24 : decode cL_planPrice 24 = .ok (.ireturn, 1) := by decide +kernel
theorem dL_planPrice_25 : decode cL_planPrice 25 = .ok (.astore 6, 2) := by decide +kernel
theorem dL_planPrice_27 : decode cL_planPrice 27 = .ok (.iconst 3, 1) := by decide +kernel
theorem dL_planPrice_28 : decode cL_planPrice 28 = .ok (.ireturn, 1) := by decide +kernel
theorem dL_planPrice_29 : decode cL_planPrice 29 = .ok (.iconst 0, 1) := by decide +kernel
theorem dL_planPrice_30 : decode cL_planPrice 30 = .ok (.ireturn, 1) := by decide +kernel
theorem dL_slot_0 : decode cL_slot 0 = .ok (.aload 4, 2) := by decide +kernel
theorem dL_slot_2 : decode cL_slot 2 = .ok (.iconst 0, 1) := by decide +kernel
theorem dL_slot_3 : decode cL_slot 3 = .ok (.aload_n 0, 1) := by decide +kernel
theorem dL_slot_4 : decode cL_slot 4 = .ok (.iload_n 1, 1) := by decide +kernel
theorem dL_slot_5 : decode cL_slot 5 = .ok (.iload_n 2, 1) := by decide +kernel
theorem dL_slot_6 : decode cL_slot 6 = .ok (.iload_n 3, 1) := by decide +kernel
theorem dL_slot_7 : decode cL_slot 7 = .ok (.invokevirtual 30, 3) := by decide +kernel
theorem dL_slot_10 : decode cL_slot 10 = .ok (.i2l, 1) := by decide +kernel
theorem dL_slot_11 : decode cL_slot 11 = .ok (.lastore, 1) := by decide +kernel
theorem dL_slot_12 : decode cL_slot 12 = .ok (.goto 7, 3) := by decide +kernel
theorem dL_slot_15 : decode cL_slot 15 = .ok (.astore 5, 2) := by decide +kernel
theorem dL_slot_17 : decode cL_slot 17 = .ok (.iconst 1, 1) := by decide +kernel
theorem dL_slot_18 : decode cL_slot 18 = .ok (.ireturn, 1) := by decide +kernel
theorem dL_slot_19 : decode cL_slot 19 = .ok (.iconst 0, 1) := by decide +kernel
theorem dL_slot_20 : decode cL_slot 20 = .ok (.ireturn, 1) := by decide +kernel
theorem dL_machine_0 : decode cL_machine 0 = .ok (.aload_n 3, 1) := by decide +kernel
theorem dL_machine_1 : decode cL_machine 1 = .ok (.iconst 0, 1) := by decide +kernel
theorem dL_machine_2 : decode cL_machine 2 = .ok (.aload_n 0, 1) := by decide +kernel
theorem dL_machine_3 : decode cL_machine 3 = .ok (.iload_n 1, 1) := by decide +kernel
theorem dL_machine_4 : decode cL_machine 4 = .ok (.iload_n 2, 1) := by decide +kernel
theorem dL_machine_5 : decode cL_machine 5 = .ok (.invokevirtual 33, 3) := by decide +kernel
theorem dL_machine_8 : decode cL_machine 8 = .ok (.i2l, 1) := by decide +kernel
theorem dL_machine_9 : decode cL_machine 9 = .ok (.lastore, 1) := by decide +kernel
theorem dL_machine_10 : decode cL_machine 10 = .ok (.goto 7, 3) := by decide +kernel
theorem dL_machine_13 : decode cL_machine 13 = .ok (.astore 4, 2) := by decide +kernel
theorem dL_machine_15 : decode cL_machine 15 = .ok (.iconst 1, 1) := by decide +kernel
theorem dL_machine_16 : decode cL_machine 16 = .ok (.ireturn, 1) := by decide +kernel
theorem dL_machine_17 : decode cL_machine 17 = .ok (.iconst 0, 1) := by decide +kernel
theorem dL_machine_18 : decode cL_machine 18 = .ok (.ireturn, 1) := by decide +kernel
theorem dL_runsOut_0 : decode cL_runsOut 0 = .ok (.aload_n 3, 1) := by decide +kernel
theorem dL_runsOut_1 : decode cL_runsOut 1 = .ok (.iconst 0, 1) := by decide +kernel
theorem dL_runsOut_2 : decode cL_runsOut 2 = .ok (.aload_n 0, 1) := by decide +kernel
theorem dL_runsOut_3 : decode cL_runsOut 3 = .ok (.iload_n 1, 1) := by decide +kernel
theorem dL_runsOut_4 : decode cL_runsOut 4 = .ok (.iload_n 2, 1) := by decide +kernel
theorem dL_runsOut_5 : decode cL_runsOut 5 = .ok (.invokevirtual 37, 3) := by decide +kernel
theorem dL_runsOut_8 : decode cL_runsOut 8 = .ok (.i2l, 1) := by decide +kernel
theorem dL_runsOut_9 : decode cL_runsOut 9 = .ok (.lastore, 1) := by decide +kernel
theorem dL_runsOut_10 : decode cL_runsOut 10 = .ok (.goto 7, 3) := by decide +kernel
theorem dL_runsOut_13 : decode cL_runsOut 13 = .ok (.astore 4, 2) := by decide +kernel
theorem dL_runsOut_15 : decode cL_runsOut 15 = .ok (.iconst 1, 1) := by decide +kernel
theorem dL_runsOut_16 : decode cL_runsOut 16 = .ok (.ireturn, 1) := by decide +kernel
theorem dL_runsOut_17 : decode cL_runsOut 17 = .ok (.iconst 0, 1) := by decide +kernel
theorem dL_runsOut_18 : decode cL_runsOut 18 = .ok (.ireturn, 1) := by decide +kernel
theorem dL_pass_0 : decode cL_pass 0 = .ok (.aload_n 2, 1) := by decide +kernel
theorem dL_pass_1 : decode cL_pass 1 = .ok (.iconst 0, 1) := by decide +kernel
theorem dL_pass_2 : decode cL_pass 2 = .ok (.aload_n 0, 1) := by decide +kernel
theorem dL_pass_3 : decode cL_pass 3 = .ok (.iload_n 1, 1) := by decide +kernel
theorem dL_pass_4 : decode cL_pass 4 = .ok (.invokevirtual 40, 3) := by decide +kernel
theorem dL_pass_7 : decode cL_pass 7 = .ok (.i2l, 1) := by decide +kernel
theorem dL_pass_8 : decode cL_pass 8 = .ok (.lastore, 1) := by decide +kernel
theorem dL_pass_9 : decode cL_pass 9 = .ok (.goto 9, 3) := by decide +kernel
theorem dL_pass_12 : decode cL_pass 12 = .ok (.astore_n 3, 1) := by decide +kernel
theorem dL_pass_13 : decode cL_pass 13 = .ok (.iconst 1, 1) := by decide +kernel
theorem dL_pass_14 : decode cL_pass 14 = .ok (.ireturn, 1) := by decide +kernel
theorem dL_pass_15 : decode cL_pass 15 = .ok (.astore_n 3, 1) := by decide +kernel
theorem dL_pass_16 : decode cL_pass 16 = .ok (.iconst 2, 1) := by decide +kernel
theorem dL_pass_17 : decode cL_pass 17 = .ok (.ireturn, 1) := by decide +kernel
theorem dL_pass_18 : decode cL_pass 18 = .ok (.iconst 0, 1) := by decide +kernel
theorem dL_pass_19 : decode cL_pass 19 = .ok (.ireturn, 1) := by decide +kernel
theorem dL_drive_0 : decode cL_drive 0 = .ok (.aload_n 2, 1) := by decide +kernel
theorem dL_drive_1 : decode cL_drive 1 = .ok (.iconst 0, 1) := by decide +kernel
theorem dL_drive_2 : decode cL_drive 2 = .ok (.aload_n 0, 1) := by decide +kernel
theorem dL_drive_3 : decode cL_drive 3 = .ok (.iload_n 1, 1) := by decide +kernel
theorem dL_drive_4 : decode cL_drive 4 = .ok (.invokevirtual 43, 3) := by decide +kernel
theorem dL_drive_7 : decode cL_drive 7 = .ok (.i2l, 1) := by decide +kernel
theorem dL_drive_8 : decode cL_drive 8 = .ok (.lastore, 1) := by decide +kernel
theorem dL_drive_9 : decode cL_drive 9 = .ok (.goto 6, 3) := by decide +kernel
theorem dL_drive_12 : decode cL_drive 12 = .ok (.astore_n 3, 1) := by decide +kernel
theorem dL_drive_13 : decode cL_drive 13 = .ok (.iconst 1, 1) := by decide +kernel
theorem dL_drive_14 : decode cL_drive 14 = .ok (.ireturn, 1) := by decide +kernel
theorem dL_drive_15 : decode cL_drive 15 = .ok (.iconst 0, 1) := by decide +kernel
theorem dL_drive_16 : decode cL_drive 16 = .ok (.ireturn, 1) := by decide +kernel
theorem dL_visit_0 : decode cL_visit 0 = .ok (.aload_n 3, 1) := by decide +kernel
theorem dL_visit_1 : decode cL_visit 1 = .ok (.iconst 0, 1) := by decide +kernel
theorem dL_visit_2 : decode cL_visit 2 = .ok (.aload_n 0, 1) := by decide +kernel
theorem dL_visit_3 : decode cL_visit 3 = .ok (.iload_n 1, 1) := by decide +kernel
theorem dL_visit_4 : decode cL_visit 4 = .ok (.iload_n 2, 1) := by decide +kernel
theorem dL_visit_5 : decode cL_visit 5 = .ok (.invokevirtual 46, 3) := by decide +kernel
theorem dL_visit_8 : decode cL_visit 8 = .ok (.i2l, 1) := by decide +kernel
theorem dL_visit_9 : decode cL_visit 9 = .ok (.lastore, 1) := by decide +kernel
theorem dL_visit_10 : decode cL_visit 10 = .ok (.goto 11, 3) := by decide +kernel
theorem dL_visit_13 : decode cL_visit 13 = .ok (.astore 4, 2) := by decide +kernel
theorem dL_visit_15 : decode cL_visit 15 = .ok (.iconst 1, 1) := by decide +kernel
theorem dL_visit_16 : decode cL_visit 16 = .ok (.ireturn, 1) := by decide +kernel
theorem dL_visit_17 : decode cL_visit 17 = .ok (.astore 4, 2) := by decide +kernel
theorem dL_visit_19 : decode cL_visit 19 = .ok (.iconst 2, 1) := by decide +kernel
theorem dL_visit_20 : decode cL_visit 20 = .ok (.ireturn, 1) := by decide +kernel
theorem dL_visit_21 : decode cL_visit 21 = .ok (.iconst 0, 1) := by decide +kernel
theorem dL_visit_22 : decode cL_visit 22 = .ok (.ireturn, 1) := by decide +kernel
theorem dL_minutes_0 : decode cL_minutes 0 = .ok (.aload_n 2, 1) := by decide +kernel
theorem dL_minutes_1 : decode cL_minutes 1 = .ok (.iconst 0, 1) := by decide +kernel
theorem dL_minutes_2 : decode cL_minutes 2 = .ok (.aload_n 0, 1) := by decide +kernel
theorem dL_minutes_3 : decode cL_minutes 3 = .ok (.iload_n 1, 1) := by decide +kernel
theorem dL_minutes_4 : decode cL_minutes 4 = .ok (.invokevirtual 49, 3) := by decide +kernel
theorem dL_minutes_7 : decode cL_minutes 7 = .ok (.i2l, 1) := by decide +kernel
theorem dL_minutes_8 : decode cL_minutes 8 = .ok (.lastore, 1) := by decide +kernel
theorem dL_minutes_9 : decode cL_minutes 9 = .ok (.goto 6, 3) := by decide +kernel
theorem dL_minutes_12 : decode cL_minutes 12 = .ok (.astore_n 3, 1) := by decide +kernel
theorem dL_minutes_13 : decode cL_minutes 13 = .ok (.iconst 1, 1) := by decide +kernel
theorem dL_minutes_14 : decode cL_minutes 14 = .ok (.ireturn, 1) := by decide +kernel
theorem dL_minutes_15 : decode cL_minutes 15 = .ok (.iconst 0, 1) := by decide +kernel
theorem dL_minutes_16 : decode cL_minutes 16 = .ok (.ireturn, 1) := by decide +kernel
theorem dL_best_0 : decode cL_best 0 = .ok (.aload_n 3, 1) := by decide +kernel
theorem dL_best_1 : decode cL_best 1 = .ok (.iconst 0, 1) := by decide +kernel
theorem dL_best_2 : decode cL_best 2 = .ok (.aload_n 0, 1) := by decide +kernel
theorem dL_best_3 : decode cL_best 3 = .ok (.iload_n 1, 1) := by decide +kernel
theorem dL_best_4 : decode cL_best 4 = .ok (.iload_n 2, 1) := by decide +kernel
theorem dL_best_5 : decode cL_best 5 = .ok (.invokevirtual 52, 3) := by decide +kernel
theorem dL_best_8 : decode cL_best 8 = .ok (.i2l, 1) := by decide +kernel
theorem dL_best_9 : decode cL_best 9 = .ok (.lastore, 1) := by decide +kernel
theorem dL_best_10 : decode cL_best 10 = .ok (.goto 7, 3) := by decide +kernel
theorem dL_best_13 : decode cL_best 13 = .ok (.astore 4, 2) := by decide +kernel
theorem dL_best_15 : decode cL_best 15 = .ok (.iconst 1, 1) := by decide +kernel
theorem dL_best_16 : decode cL_best 16 = .ok (.ireturn, 1) := by decide +kernel
theorem dL_best_17 : decode cL_best 17 = .ok (.iconst 0, 1) := by decide +kernel
theorem dL_best_18 : decode cL_best 18 = .ok (.ireturn, 1) := by decide +kernel
theorem dL_go_0 : decode cL_go 0 = .ok (.aload_n 3, 1) := by decide +kernel
theorem dL_go_1 : decode cL_go 1 = .ok (.iconst 0, 1) := by decide +kernel
theorem dL_go_2 : decode cL_go 2 = .ok (.aload_n 0, 1) := by decide +kernel
theorem dL_go_3 : decode cL_go 3 = .ok (.iload_n 1, 1) := by decide +kernel
theorem dL_go_4 : decode cL_go 4 = .ok (.iload_n 2, 1) := by decide +kernel
theorem dL_go_5 : decode cL_go 5 = .ok (.invokevirtual 55, 3) := by decide +kernel
theorem dL_go_8 : decode cL_go 8 = .ok (.i2l, 1) := by decide +kernel
theorem dL_go_9 : decode cL_go 9 = .ok (.lastore, 1) := by decide +kernel
theorem dL_go_10 : decode cL_go 10 = .ok (.goto 7, 3) := by decide +kernel
theorem dL_go_13 : decode cL_go 13 = .ok (.astore 4, 2) := by decide +kernel
theorem dL_go_15 : decode cL_go 15 = .ok (.iconst 1, 1) := by decide +kernel
theorem dL_go_16 : decode cL_go 16 = .ok (.ireturn, 1) := by decide +kernel
theorem dL_go_17 : decode cL_go 17 = .ok (.iconst 0, 1) := by decide +kernel
theorem dL_go_18 : decode cL_go 18 = .ok (.ireturn, 1) := by decide +kernel
theorem dL_total_0 : decode cL_total 0 = .ok (.aload_n 2, 1) := by decide +kernel
theorem dL_total_1 : decode cL_total 1 = .ok (.iconst 0, 1) := by decide +kernel
theorem dL_total_2 : decode cL_total 2 = .ok (.aload_n 0, 1) := by decide +kernel
theorem dL_total_3 : decode cL_total 3 = .ok (.iload_n 1, 1) := by decide +kernel
theorem dL_total_4 : decode cL_total 4 = .ok (.invokevirtual 58, 3) := by decide +kernel
theorem dL_total_7 : decode cL_total 7 = .ok (.lastore, 1) := by decide +kernel
theorem dL_total_8 : decode cL_total 8 = .ok (.goto 6, 3) := by decide +kernel
theorem dL_total_11 : decode cL_total 11 = .ok (.astore_n 3, 1) := by decide +kernel
theorem dL_total_12 : decode cL_total 12 = .ok (.iconst 1, 1) := by decide +kernel
theorem dL_total_13 : decode cL_total 13 = .ok (.ireturn, 1) := by decide +kernel
theorem dL_total_14 : decode cL_total 14 = .ok (.iconst 0, 1) := by decide +kernel
theorem dL_total_15 : decode cL_total 15 = .ok (.ireturn, 1) := by decide +kernel
theorem dL_law_0 : decode cL_law 0 = .ok (.new 8, 3) := by decide +kernel
theorem dL_law_3 : decode cL_law 3 = .ok (.dup, 1) := by decide +kernel
theorem dL_law_4 : decode cL_law 4 = .ok (.invokespecial 62, 3) := by decide +kernel
theorem dL_law_7 : decode cL_law 7 = .ok (.astore_n 1, 1) := by decide +kernel
theorem dL_law_8 : decode cL_law 8 = .ok (.new 63, 3) := by decide +kernel
theorem dL_law_11 : decode cL_law 11 = .ok (.dup, 1) := by decide +kernel
theorem dL_law_12 : decode cL_law 12 = .ok (.invokespecial 65, 3) := by decide +kernel
theorem dL_law_15 : decode cL_law 15 = .ok (.astore_n 2, 1) := by decide +kernel
theorem dL_law_16 : decode cL_law 16 = .ok (.iconst 1, 1) := by decide +kernel
theorem dL_law_17 : decode cL_law 17 = .ok (.newarray .long, 2) := by decide +kernel
theorem dL_law_19 : decode cL_law 19 = .ok (.astore_n 3, 1) := by decide +kernel
theorem dL_law_20 : decode cL_law 20 = .ok (.iconst 0, 1) := by decide +kernel
theorem dL_law_21 : decode cL_law 21 = .ok (.istore 4, 2) := by decide +kernel
theorem dL_law_23 : decode cL_law 23 = .ok (.iload 4, 2) := by decide +kernel
theorem dL_law_25 : decode cL_law 25 = .ok (.aload_n 0, 1) := by decide +kernel
theorem dL_law_26 : decode cL_law 26 = .ok (.arraylength, 1) := by decide +kernel
theorem dL_law_27 : decode cL_law 27 = .ok (.iconst 5, 1) := by decide +kernel
theorem dL_law_28 : decode cL_law 28 = .ok (.isub, 1) := by decide +kernel
theorem dL_law_29 : decode cL_law 29 = .ok (.if_icmp .gt 1162, 3) := by decide +kernel
theorem dL_law_32 : decode cL_law 32 = .ok (.aload_n 0, 1) := by decide +kernel
theorem dL_law_33 : decode cL_law 33 = .ok (.iload 4, 2) := by decide +kernel
theorem dL_law_35 : decode cL_law 35 = .ok (.iaload, 1) := by decide +kernel
theorem dL_law_36 : decode cL_law 36 = .ok (.bipush 31, 2) := by decide +kernel
theorem dL_law_38 : decode cL_law 38 = .ok (.iand, 1) := by decide +kernel
theorem dL_law_39 : decode cL_law 39 = .ok (.tableswitch 1146 0 18 #[89, 145, 225, 317, 409, 422, 502, 570, 638, 694, 707, 720, 776, 844, 900, 968, 1036, 1091, 1132], 89) := by decide +kernel
theorem dL_law_128 : decode cL_law 128 = .ok (.aload_n 1, 1) := by decide +kernel
theorem dL_law_129 : decode cL_law 129 = .ok (.aload_n 0, 1) := by decide +kernel
theorem dL_law_130 : decode cL_law 130 = .ok (.iload 4, 2) := by decide +kernel
theorem dL_law_132 : decode cL_law 132 = .ok (.iconst 1, 1) := by decide +kernel
theorem dL_law_133 : decode cL_law 133 = .ok (.iadd, 1) := by decide +kernel
theorem dL_law_134 : decode cL_law 134 = .ok (.iaload, 1) := by decide +kernel
theorem dL_law_135 : decode cL_law 135 = .ok (.aload_n 3, 1) := by decide +kernel
theorem dL_law_136 : decode cL_law 136 = .ok (.invokestatic 66, 3) := by decide +kernel
theorem dL_law_139 : decode cL_law 139 = .ok (.istore 5, 2) := by decide +kernel
theorem dL_law_141 : decode cL_law 141 = .ok (.aload_n 2, 1) := by decide +kernel
theorem dL_law_142 : decode cL_law 142 = .ok (.aload_n 0, 1) := by decide +kernel
theorem dL_law_143 : decode cL_law 143 = .ok (.iload 4, 2) := by decide +kernel
theorem dL_law_145 : decode cL_law 145 = .ok (.iconst 1, 1) := by decide +kernel
theorem dL_law_146 : decode cL_law 146 = .ok (.iadd, 1) := by decide +kernel
theorem dL_law_147 : decode cL_law 147 = .ok (.iaload, 1) := by decide +kernel
theorem dL_law_148 : decode cL_law 148 = .ok (.invokevirtual 71, 3) := by decide +kernel
theorem dL_law_151 : decode cL_law 151 = .ok (.istore 6, 2) := by decide +kernel
theorem dL_law_153 : decode cL_law 153 = .ok (.aload_n 2, 1) := by decide +kernel
theorem dL_law_154 : decode cL_law 154 = .ok (.invokevirtual 72, 3) := by decide +kernel
theorem dL_law_157 : decode cL_law 157 = .ok (.iload 5, 2) := by decide +kernel
theorem dL_law_159 : decode cL_law 159 = .ok (.if_icmp .eq 5, 3) := by decide +kernel
theorem dL_law_162 : decode cL_law 162 = .ok (.iconst 0, 1) := by decide +kernel
theorem dL_law_163 : decode cL_law 163 = .ok (.ireturn, 1) := by decide +kernel
theorem dL_law_164 : decode cL_law 164 = .ok (.iload 5, 2) := by decide +kernel
theorem dL_law_166 : decode cL_law 166 = .ok (.ifCond .ne 15, 3) := by decide +kernel
theorem dL_law_169 : decode cL_law 169 = .ok (.aload_n 3, 1) := by decide +kernel
theorem dL_law_170 : decode cL_law 170 = .ok (.iconst 0, 1) := by decide +kernel
theorem dL_law_171 : decode cL_law 171 = .ok (.laload, 1) := by decide +kernel
theorem dL_law_172 : decode cL_law 172 = .ok (.iload 6, 2) := by decide +kernel
theorem dL_law_174 : decode cL_law 174 = .ok (.i2l, 1) := by decide +kernel
theorem dL_law_175 : decode cL_law 175 = .ok (.lcmp, 1) := by decide +kernel
theorem dL_law_176 : decode cL_law 176 = .ok (.ifCond .eq 5, 3) := by decide +kernel
theorem dL_law_179 : decode cL_law 179 = .ok (.iconst 0, 1) := by decide +kernel
theorem dL_law_180 : decode cL_law 180 = .ok (.ireturn, 1) := by decide +kernel
theorem dL_law_181 : decode cL_law 181 = .ok (.goto 1004, 3) := by decide +kernel
theorem dL_law_184 : decode cL_law 184 = .ok (.aload_n 1, 1) := by decide +kernel
theorem dL_law_185 : decode cL_law 185 = .ok (.aload_n 0, 1) := by decide +kernel
theorem dL_law_186 : decode cL_law 186 = .ok (.iload 4, 2) := by decide +kernel
theorem dL_law_188 : decode cL_law 188 = .ok (.iconst 1, 1) := by decide +kernel
theorem dL_law_189 : decode cL_law 189 = .ok (.iadd, 1) := by decide +kernel
theorem dL_law_190 : decode cL_law 190 = .ok (.iaload, 1) := by decide +kernel
theorem dL_law_191 : decode cL_law 191 = .ok (.aload_n 0, 1) := by decide +kernel
theorem dL_law_192 : decode cL_law 192 = .ok (.iload 4, 2) := by decide +kernel
theorem dL_law_194 : decode cL_law 194 = .ok (.iconst 2, 1) := by decide +kernel
theorem dL_law_195 : decode cL_law 195 = .ok (.iadd, 1) := by decide +kernel
theorem dL_law_196 : decode cL_law 196 = .ok (.iaload, 1) := by decide +kernel
theorem dL_law_197 : decode cL_law 197 = .ok (.aload_n 0, 1) := by decide +kernel
theorem dL_law_198 : decode cL_law 198 = .ok (.iload 4, 2) := by decide +kernel
theorem dL_law_200 : decode cL_law 200 = .ok (.iconst 3, 1) := by decide +kernel
theorem dL_law_201 : decode cL_law 201 = .ok (.iadd, 1) := by decide +kernel
theorem dL_law_202 : decode cL_law 202 = .ok (.iaload, 1) := by decide +kernel
theorem dL_law_203 : decode cL_law 203 = .ok (.aload_n 3, 1) := by decide +kernel
theorem dL_law_204 : decode cL_law 204 = .ok (.invokestatic 76, 3) := by decide +kernel
theorem dL_law_207 : decode cL_law 207 = .ok (.istore 5, 2) := by decide +kernel
theorem dL_law_209 : decode cL_law 209 = .ok (.aload_n 2, 1) := by decide +kernel
theorem dL_law_210 : decode cL_law 210 = .ok (.aload_n 0, 1) := by decide +kernel
theorem dL_law_211 : decode cL_law 211 = .ok (.iload 4, 2) := by decide +kernel
theorem dL_law_213 : decode cL_law 213 = .ok (.iconst 1, 1) := by decide +kernel
theorem dL_law_214 : decode cL_law 214 = .ok (.iadd, 1) := by decide +kernel
theorem dL_law_215 : decode cL_law 215 = .ok (.iaload, 1) := by decide +kernel
theorem dL_law_216 : decode cL_law 216 = .ok (.aload_n 0, 1) := by decide +kernel
theorem dL_law_217 : decode cL_law 217 = .ok (.iload 4, 2) := by decide +kernel
theorem dL_law_219 : decode cL_law 219 = .ok (.iconst 2, 1) := by decide +kernel
theorem dL_law_220 : decode cL_law 220 = .ok (.iadd, 1) := by decide +kernel
theorem dL_law_221 : decode cL_law 221 = .ok (.iaload, 1) := by decide +kernel
theorem dL_law_222 : decode cL_law 222 = .ok (.aload_n 0, 1) := by decide +kernel
theorem dL_law_223 : decode cL_law 223 = .ok (.iload 4, 2) := by decide +kernel
theorem dL_law_225 : decode cL_law 225 = .ok (.iconst 3, 1) := by decide +kernel
theorem dL_law_226 : decode cL_law 226 = .ok (.iadd, 1) := by decide +kernel
theorem dL_law_227 : decode cL_law 227 = .ok (.iaload, 1) := by decide +kernel
theorem dL_law_228 : decode cL_law 228 = .ok (.invokevirtual 79, 3) := by decide +kernel
theorem dL_law_231 : decode cL_law 231 = .ok (.istore 6, 2) := by decide +kernel
theorem dL_law_233 : decode cL_law 233 = .ok (.aload_n 2, 1) := by decide +kernel
theorem dL_law_234 : decode cL_law 234 = .ok (.invokevirtual 72, 3) := by decide +kernel
theorem dL_law_237 : decode cL_law 237 = .ok (.iload 5, 2) := by decide +kernel
theorem dL_law_239 : decode cL_law 239 = .ok (.if_icmp .eq 5, 3) := by decide +kernel
theorem dL_law_242 : decode cL_law 242 = .ok (.iconst 0, 1) := by decide +kernel
theorem dL_law_243 : decode cL_law 243 = .ok (.ireturn, 1) := by decide +kernel
theorem dL_law_244 : decode cL_law 244 = .ok (.iload 5, 2) := by decide +kernel
theorem dL_law_246 : decode cL_law 246 = .ok (.ifCond .ne 15, 3) := by decide +kernel
theorem dL_law_249 : decode cL_law 249 = .ok (.aload_n 3, 1) := by decide +kernel
theorem dL_law_250 : decode cL_law 250 = .ok (.iconst 0, 1) := by decide +kernel
theorem dL_law_251 : decode cL_law 251 = .ok (.laload, 1) := by decide +kernel
theorem dL_law_252 : decode cL_law 252 = .ok (.iload 6, 2) := by decide +kernel
theorem dL_law_254 : decode cL_law 254 = .ok (.i2l, 1) := by decide +kernel
theorem dL_law_255 : decode cL_law 255 = .ok (.lcmp, 1) := by decide +kernel
theorem dL_law_256 : decode cL_law 256 = .ok (.ifCond .eq 5, 3) := by decide +kernel
theorem dL_law_259 : decode cL_law 259 = .ok (.iconst 0, 1) := by decide +kernel
theorem dL_law_260 : decode cL_law 260 = .ok (.ireturn, 1) := by decide +kernel
theorem dL_law_261 : decode cL_law 261 = .ok (.goto 924, 3) := by decide +kernel
theorem dL_law_264 : decode cL_law 264 = .ok (.aload_n 1, 1) := by decide +kernel
theorem dL_law_265 : decode cL_law 265 = .ok (.aload_n 0, 1) := by decide +kernel
theorem dL_law_266 : decode cL_law 266 = .ok (.iload 4, 2) := by decide +kernel
theorem dL_law_268 : decode cL_law 268 = .ok (.iconst 1, 1) := by decide +kernel
theorem dL_law_269 : decode cL_law 269 = .ok (.iadd, 1) := by decide +kernel
theorem dL_law_270 : decode cL_law 270 = .ok (.iaload, 1) := by decide +kernel
theorem dL_law_271 : decode cL_law 271 = .ok (.aload_n 0, 1) := by decide +kernel
theorem dL_law_272 : decode cL_law 272 = .ok (.iload 4, 2) := by decide +kernel
theorem dL_law_274 : decode cL_law 274 = .ok (.iconst 2, 1) := by decide +kernel
theorem dL_law_275 : decode cL_law 275 = .ok (.iadd, 1) := by decide +kernel
theorem dL_law_276 : decode cL_law 276 = .ok (.iaload, 1) := by decide +kernel
theorem dL_law_277 : decode cL_law 277 = .ok (.aload_n 0, 1) := by decide +kernel
theorem dL_law_278 : decode cL_law 278 = .ok (.iload 4, 2) := by decide +kernel
theorem dL_law_280 : decode cL_law 280 = .ok (.iconst 3, 1) := by decide +kernel
theorem dL_law_281 : decode cL_law 281 = .ok (.iadd, 1) := by decide +kernel
theorem dL_law_282 : decode cL_law 282 = .ok (.iaload, 1) := by decide +kernel
theorem dL_law_283 : decode cL_law 283 = .ok (.aload_n 0, 1) := by decide +kernel
theorem dL_law_284 : decode cL_law 284 = .ok (.iload 4, 2) := by decide +kernel
theorem dL_law_286 : decode cL_law 286 = .ok (.iconst 4, 1) := by decide +kernel
theorem dL_law_287 : decode cL_law 287 = .ok (.iadd, 1) := by decide +kernel
theorem dL_law_288 : decode cL_law 288 = .ok (.iaload, 1) := by decide +kernel
theorem dL_law_289 : decode cL_law 289 = .ok (.aload_n 3, 1) := by decide +kernel
theorem dL_law_290 : decode cL_law 290 = .ok (.invokestatic 80, 3) := by decide +kernel
theorem dL_law_293 : decode cL_law 293 = .ok (.istore 5, 2) := by decide +kernel
theorem dL_law_295 : decode cL_law 295 = .ok (.aload_n 2, 1) := by decide +kernel
theorem dL_law_296 : decode cL_law 296 = .ok (.aload_n 0, 1) := by decide +kernel
theorem dL_law_297 : decode cL_law 297 = .ok (.iload 4, 2) := by decide +kernel
theorem dL_law_299 : decode cL_law 299 = .ok (.iconst 1, 1) := by decide +kernel
theorem dL_law_300 : decode cL_law 300 = .ok (.iadd, 1) := by decide +kernel
theorem dL_law_301 : decode cL_law 301 = .ok (.iaload, 1) := by decide +kernel
theorem dL_law_302 : decode cL_law 302 = .ok (.aload_n 0, 1) := by decide +kernel
theorem dL_law_303 : decode cL_law 303 = .ok (.iload 4, 2) := by decide +kernel
theorem dL_law_305 : decode cL_law 305 = .ok (.iconst 2, 1) := by decide +kernel
theorem dL_law_306 : decode cL_law 306 = .ok (.iadd, 1) := by decide +kernel
theorem dL_law_307 : decode cL_law 307 = .ok (.iaload, 1) := by decide +kernel
theorem dL_law_308 : decode cL_law 308 = .ok (.aload_n 0, 1) := by decide +kernel
theorem dL_law_309 : decode cL_law 309 = .ok (.iload 4, 2) := by decide +kernel
theorem dL_law_311 : decode cL_law 311 = .ok (.iconst 3, 1) := by decide +kernel
theorem dL_law_312 : decode cL_law 312 = .ok (.iadd, 1) := by decide +kernel
theorem dL_law_313 : decode cL_law 313 = .ok (.iaload, 1) := by decide +kernel
theorem dL_law_314 : decode cL_law 314 = .ok (.aload_n 0, 1) := by decide +kernel
theorem dL_law_315 : decode cL_law 315 = .ok (.iload 4, 2) := by decide +kernel
theorem dL_law_317 : decode cL_law 317 = .ok (.iconst 4, 1) := by decide +kernel
theorem dL_law_318 : decode cL_law 318 = .ok (.iadd, 1) := by decide +kernel
theorem dL_law_319 : decode cL_law 319 = .ok (.iaload, 1) := by decide +kernel
theorem dL_law_320 : decode cL_law 320 = .ok (.invokevirtual 83, 3) := by decide +kernel
theorem dL_law_323 : decode cL_law 323 = .ok (.istore 6, 2) := by decide +kernel
theorem dL_law_325 : decode cL_law 325 = .ok (.aload_n 2, 1) := by decide +kernel
theorem dL_law_326 : decode cL_law 326 = .ok (.invokevirtual 72, 3) := by decide +kernel
theorem dL_law_329 : decode cL_law 329 = .ok (.iload 5, 2) := by decide +kernel
theorem dL_law_331 : decode cL_law 331 = .ok (.if_icmp .eq 5, 3) := by decide +kernel
theorem dL_law_334 : decode cL_law 334 = .ok (.iconst 0, 1) := by decide +kernel
theorem dL_law_335 : decode cL_law 335 = .ok (.ireturn, 1) := by decide +kernel
theorem dL_law_336 : decode cL_law 336 = .ok (.iload 5, 2) := by decide +kernel
theorem dL_law_338 : decode cL_law 338 = .ok (.ifCond .ne 15, 3) := by decide +kernel
theorem dL_law_341 : decode cL_law 341 = .ok (.aload_n 3, 1) := by decide +kernel
theorem dL_law_342 : decode cL_law 342 = .ok (.iconst 0, 1) := by decide +kernel
theorem dL_law_343 : decode cL_law 343 = .ok (.laload, 1) := by decide +kernel
theorem dL_law_344 : decode cL_law 344 = .ok (.iload 6, 2) := by decide +kernel
theorem dL_law_346 : decode cL_law 346 = .ok (.i2l, 1) := by decide +kernel
theorem dL_law_347 : decode cL_law 347 = .ok (.lcmp, 1) := by decide +kernel
theorem dL_law_348 : decode cL_law 348 = .ok (.ifCond .eq 5, 3) := by decide +kernel
theorem dL_law_351 : decode cL_law 351 = .ok (.iconst 0, 1) := by decide +kernel
theorem dL_law_352 : decode cL_law 352 = .ok (.ireturn, 1) := by decide +kernel
theorem dL_law_353 : decode cL_law 353 = .ok (.goto 832, 3) := by decide +kernel
theorem dL_law_356 : decode cL_law 356 = .ok (.aload_n 1, 1) := by decide +kernel
theorem dL_law_357 : decode cL_law 357 = .ok (.aload_n 0, 1) := by decide +kernel
theorem dL_law_358 : decode cL_law 358 = .ok (.iload 4, 2) := by decide +kernel
theorem dL_law_360 : decode cL_law 360 = .ok (.iconst 1, 1) := by decide +kernel
theorem dL_law_361 : decode cL_law 361 = .ok (.iadd, 1) := by decide +kernel
theorem dL_law_362 : decode cL_law 362 = .ok (.iaload, 1) := by decide +kernel
theorem dL_law_363 : decode cL_law 363 = .ok (.aload_n 0, 1) := by decide +kernel
theorem dL_law_364 : decode cL_law 364 = .ok (.iload 4, 2) := by decide +kernel
theorem dL_law_366 : decode cL_law 366 = .ok (.iconst 2, 1) := by decide +kernel
theorem dL_law_367 : decode cL_law 367 = .ok (.iadd, 1) := by decide +kernel
theorem dL_law_368 : decode cL_law 368 = .ok (.iaload, 1) := by decide +kernel
theorem dL_law_369 : decode cL_law 369 = .ok (.aload_n 0, 1) := by decide +kernel
theorem dL_law_370 : decode cL_law 370 = .ok (.iload 4, 2) := by decide +kernel
theorem dL_law_372 : decode cL_law 372 = .ok (.iconst 3, 1) := by decide +kernel
theorem dL_law_373 : decode cL_law 373 = .ok (.iadd, 1) := by decide +kernel
theorem dL_law_374 : decode cL_law 374 = .ok (.iaload, 1) := by decide +kernel
theorem dL_law_375 : decode cL_law 375 = .ok (.aload_n 0, 1) := by decide +kernel
theorem dL_law_376 : decode cL_law 376 = .ok (.iload 4, 2) := by decide +kernel
theorem dL_law_378 : decode cL_law 378 = .ok (.iconst 4, 1) := by decide +kernel
theorem dL_law_379 : decode cL_law 379 = .ok (.iadd, 1) := by decide +kernel
theorem dL_law_380 : decode cL_law 380 = .ok (.iaload, 1) := by decide +kernel
theorem dL_law_381 : decode cL_law 381 = .ok (.aload_n 3, 1) := by decide +kernel
theorem dL_law_382 : decode cL_law 382 = .ok (.invokestatic 84, 3) := by decide +kernel
theorem dL_law_385 : decode cL_law 385 = .ok (.istore 5, 2) := by decide +kernel
theorem dL_law_387 : decode cL_law 387 = .ok (.aload_n 2, 1) := by decide +kernel
theorem dL_law_388 : decode cL_law 388 = .ok (.aload_n 0, 1) := by decide +kernel
theorem dL_law_389 : decode cL_law 389 = .ok (.iload 4, 2) := by decide +kernel
theorem dL_law_391 : decode cL_law 391 = .ok (.iconst 1, 1) := by decide +kernel
theorem dL_law_392 : decode cL_law 392 = .ok (.iadd, 1) := by decide +kernel
theorem dL_law_393 : decode cL_law 393 = .ok (.iaload, 1) := by decide +kernel
theorem dL_law_394 : decode cL_law 394 = .ok (.aload_n 0, 1) := by decide +kernel
theorem dL_law_395 : decode cL_law 395 = .ok (.iload 4, 2) := by decide +kernel
theorem dL_law_397 : decode cL_law 397 = .ok (.iconst 2, 1) := by decide +kernel
theorem dL_law_398 : decode cL_law 398 = .ok (.iadd, 1) := by decide +kernel
theorem dL_law_399 : decode cL_law 399 = .ok (.iaload, 1) := by decide +kernel
theorem dL_law_400 : decode cL_law 400 = .ok (.aload_n 0, 1) := by decide +kernel
theorem dL_law_401 : decode cL_law 401 = .ok (.iload 4, 2) := by decide +kernel
theorem dL_law_403 : decode cL_law 403 = .ok (.iconst 3, 1) := by decide +kernel
theorem dL_law_404 : decode cL_law 404 = .ok (.iadd, 1) := by decide +kernel
theorem dL_law_405 : decode cL_law 405 = .ok (.iaload, 1) := by decide +kernel
theorem dL_law_406 : decode cL_law 406 = .ok (.aload_n 0, 1) := by decide +kernel
theorem dL_law_407 : decode cL_law 407 = .ok (.iload 4, 2) := by decide +kernel
theorem dL_law_409 : decode cL_law 409 = .ok (.iconst 4, 1) := by decide +kernel
theorem dL_law_410 : decode cL_law 410 = .ok (.iadd, 1) := by decide +kernel
theorem dL_law_411 : decode cL_law 411 = .ok (.iaload, 1) := by decide +kernel
theorem dL_law_412 : decode cL_law 412 = .ok (.invokevirtual 86, 3) := by decide +kernel
theorem dL_law_415 : decode cL_law 415 = .ok (.istore 6, 2) := by decide +kernel
theorem dL_law_417 : decode cL_law 417 = .ok (.aload_n 2, 1) := by decide +kernel
theorem dL_law_418 : decode cL_law 418 = .ok (.invokevirtual 72, 3) := by decide +kernel
theorem dL_law_421 : decode cL_law 421 = .ok (.iload 5, 2) := by decide +kernel
theorem dL_law_423 : decode cL_law 423 = .ok (.if_icmp .eq 5, 3) := by decide +kernel
theorem dL_law_426 : decode cL_law 426 = .ok (.iconst 0, 1) := by decide +kernel
theorem dL_law_427 : decode cL_law 427 = .ok (.ireturn, 1) := by decide +kernel
theorem dL_law_428 : decode cL_law 428 = .ok (.iload 5, 2) := by decide +kernel
theorem dL_law_430 : decode cL_law 430 = .ok (.ifCond .ne 15, 3) := by decide +kernel
theorem dL_law_433 : decode cL_law 433 = .ok (.aload_n 3, 1) := by decide +kernel
theorem dL_law_434 : decode cL_law 434 = .ok (.iconst 0, 1) := by decide +kernel
theorem dL_law_435 : decode cL_law 435 = .ok (.laload, 1) := by decide +kernel
theorem dL_law_436 : decode cL_law 436 = .ok (.iload 6, 2) := by decide +kernel
theorem dL_law_438 : decode cL_law 438 = .ok (.i2l, 1) := by decide +kernel
theorem dL_law_439 : decode cL_law 439 = .ok (.lcmp, 1) := by decide +kernel
theorem dL_law_440 : decode cL_law 440 = .ok (.ifCond .eq 5, 3) := by decide +kernel
theorem dL_law_443 : decode cL_law 443 = .ok (.iconst 0, 1) := by decide +kernel
theorem dL_law_444 : decode cL_law 444 = .ok (.ireturn, 1) := by decide +kernel
theorem dL_law_445 : decode cL_law 445 = .ok (.goto 740, 3) := by decide +kernel
theorem dL_law_448 : decode cL_law 448 = .ok (.aload_n 1, 1) := by decide +kernel
theorem dL_law_449 : decode cL_law 449 = .ok (.invokevirtual 87, 3) := by decide +kernel
theorem dL_law_452 : decode cL_law 452 = .ok (.aload_n 2, 1) := by decide +kernel
theorem dL_law_453 : decode cL_law 453 = .ok (.invokevirtual 90, 3) := by decide +kernel
theorem dL_law_456 : decode cL_law 456 = .ok (.if_icmp .eq 729, 3) := by decide +kernel
theorem dL_law_459 : decode cL_law 459 = .ok (.iconst 0, 1) := by decide +kernel
theorem dL_law_460 : decode cL_law 460 = .ok (.ireturn, 1) := by decide +kernel
theorem dL_law_461 : decode cL_law 461 = .ok (.aload_n 1, 1) := by decide +kernel
theorem dL_law_462 : decode cL_law 462 = .ok (.aload_n 0, 1) := by decide +kernel
theorem dL_law_463 : decode cL_law 463 = .ok (.iload 4, 2) := by decide +kernel
theorem dL_law_465 : decode cL_law 465 = .ok (.iconst 1, 1) := by decide +kernel
theorem dL_law_466 : decode cL_law 466 = .ok (.iadd, 1) := by decide +kernel
theorem dL_law_467 : decode cL_law 467 = .ok (.iaload, 1) := by decide +kernel
theorem dL_law_468 : decode cL_law 468 = .ok (.aload_n 0, 1) := by decide +kernel
theorem dL_law_469 : decode cL_law 469 = .ok (.iload 4, 2) := by decide +kernel
theorem dL_law_471 : decode cL_law 471 = .ok (.iconst 2, 1) := by decide +kernel
theorem dL_law_472 : decode cL_law 472 = .ok (.iadd, 1) := by decide +kernel
theorem dL_law_473 : decode cL_law 473 = .ok (.iaload, 1) := by decide +kernel
theorem dL_law_474 : decode cL_law 474 = .ok (.aload_n 0, 1) := by decide +kernel
theorem dL_law_475 : decode cL_law 475 = .ok (.iload 4, 2) := by decide +kernel
theorem dL_law_477 : decode cL_law 477 = .ok (.iconst 3, 1) := by decide +kernel
theorem dL_law_478 : decode cL_law 478 = .ok (.iadd, 1) := by decide +kernel
theorem dL_law_479 : decode cL_law 479 = .ok (.iaload, 1) := by decide +kernel
theorem dL_law_480 : decode cL_law 480 = .ok (.aload_n 3, 1) := by decide +kernel
theorem dL_law_481 : decode cL_law 481 = .ok (.invokestatic 91, 3) := by decide +kernel
theorem dL_law_484 : decode cL_law 484 = .ok (.istore 5, 2) := by decide +kernel
theorem dL_law_486 : decode cL_law 486 = .ok (.aload_n 2, 1) := by decide +kernel
theorem dL_law_487 : decode cL_law 487 = .ok (.aload_n 0, 1) := by decide +kernel
theorem dL_law_488 : decode cL_law 488 = .ok (.iload 4, 2) := by decide +kernel
theorem dL_law_490 : decode cL_law 490 = .ok (.iconst 1, 1) := by decide +kernel
theorem dL_law_491 : decode cL_law 491 = .ok (.iadd, 1) := by decide +kernel
theorem dL_law_492 : decode cL_law 492 = .ok (.iaload, 1) := by decide +kernel
theorem dL_law_493 : decode cL_law 493 = .ok (.aload_n 0, 1) := by decide +kernel
theorem dL_law_494 : decode cL_law 494 = .ok (.iload 4, 2) := by decide +kernel
theorem dL_law_496 : decode cL_law 496 = .ok (.iconst 2, 1) := by decide +kernel
theorem dL_law_497 : decode cL_law 497 = .ok (.iadd, 1) := by decide +kernel
theorem dL_law_498 : decode cL_law 498 = .ok (.iaload, 1) := by decide +kernel
theorem dL_law_499 : decode cL_law 499 = .ok (.aload_n 0, 1) := by decide +kernel
theorem dL_law_500 : decode cL_law 500 = .ok (.iload 4, 2) := by decide +kernel
theorem dL_law_502 : decode cL_law 502 = .ok (.iconst 3, 1) := by decide +kernel
theorem dL_law_503 : decode cL_law 503 = .ok (.iadd, 1) := by decide +kernel
theorem dL_law_504 : decode cL_law 504 = .ok (.iaload, 1) := by decide +kernel
theorem dL_law_505 : decode cL_law 505 = .ok (.invokevirtual 93, 3) := by decide +kernel
theorem dL_law_508 : decode cL_law 508 = .ok (.istore 6, 2) := by decide +kernel
theorem dL_law_510 : decode cL_law 510 = .ok (.aload_n 2, 1) := by decide +kernel
theorem dL_law_511 : decode cL_law 511 = .ok (.invokevirtual 72, 3) := by decide +kernel
theorem dL_law_514 : decode cL_law 514 = .ok (.iload 5, 2) := by decide +kernel
theorem dL_law_516 : decode cL_law 516 = .ok (.if_icmp .eq 5, 3) := by decide +kernel
theorem dL_law_519 : decode cL_law 519 = .ok (.iconst 0, 1) := by decide +kernel
theorem dL_law_520 : decode cL_law 520 = .ok (.ireturn, 1) := by decide +kernel
theorem dL_law_521 : decode cL_law 521 = .ok (.iload 5, 2) := by decide +kernel
theorem dL_law_523 : decode cL_law 523 = .ok (.ifCond .ne 15, 3) := by decide +kernel
theorem dL_law_526 : decode cL_law 526 = .ok (.aload_n 3, 1) := by decide +kernel
theorem dL_law_527 : decode cL_law 527 = .ok (.iconst 0, 1) := by decide +kernel
theorem dL_law_528 : decode cL_law 528 = .ok (.laload, 1) := by decide +kernel
theorem dL_law_529 : decode cL_law 529 = .ok (.iload 6, 2) := by decide +kernel
theorem dL_law_531 : decode cL_law 531 = .ok (.i2l, 1) := by decide +kernel
theorem dL_law_532 : decode cL_law 532 = .ok (.lcmp, 1) := by decide +kernel
theorem dL_law_533 : decode cL_law 533 = .ok (.ifCond .eq 5, 3) := by decide +kernel
theorem dL_law_536 : decode cL_law 536 = .ok (.iconst 0, 1) := by decide +kernel
theorem dL_law_537 : decode cL_law 537 = .ok (.ireturn, 1) := by decide +kernel
theorem dL_law_538 : decode cL_law 538 = .ok (.goto 647, 3) := by decide +kernel
theorem dL_law_541 : decode cL_law 541 = .ok (.aload_n 1, 1) := by decide +kernel
theorem dL_law_542 : decode cL_law 542 = .ok (.aload_n 0, 1) := by decide +kernel
theorem dL_law_543 : decode cL_law 543 = .ok (.iload 4, 2) := by decide +kernel
theorem dL_law_545 : decode cL_law 545 = .ok (.iconst 1, 1) := by decide +kernel
theorem dL_law_546 : decode cL_law 546 = .ok (.iadd, 1) := by decide +kernel
theorem dL_law_547 : decode cL_law 547 = .ok (.iaload, 1) := by decide +kernel
theorem dL_law_548 : decode cL_law 548 = .ok (.aload_n 0, 1) := by decide +kernel
theorem dL_law_549 : decode cL_law 549 = .ok (.iload 4, 2) := by decide +kernel
theorem dL_law_551 : decode cL_law 551 = .ok (.iconst 2, 1) := by decide +kernel
theorem dL_law_552 : decode cL_law 552 = .ok (.iadd, 1) := by decide +kernel
theorem dL_law_553 : decode cL_law 553 = .ok (.iaload, 1) := by decide +kernel
theorem dL_law_554 : decode cL_law 554 = .ok (.aload_n 3, 1) := by decide +kernel
theorem dL_law_555 : decode cL_law 555 = .ok (.invokestatic 94, 3) := by decide +kernel
theorem dL_law_558 : decode cL_law 558 = .ok (.istore 5, 2) := by decide +kernel
theorem dL_law_560 : decode cL_law 560 = .ok (.aload_n 2, 1) := by decide +kernel
theorem dL_law_561 : decode cL_law 561 = .ok (.aload_n 0, 1) := by decide +kernel
theorem dL_law_562 : decode cL_law 562 = .ok (.iload 4, 2) := by decide +kernel
theorem dL_law_564 : decode cL_law 564 = .ok (.iconst 1, 1) := by decide +kernel
theorem dL_law_565 : decode cL_law 565 = .ok (.iadd, 1) := by decide +kernel
theorem dL_law_566 : decode cL_law 566 = .ok (.iaload, 1) := by decide +kernel
theorem dL_law_567 : decode cL_law 567 = .ok (.aload_n 0, 1) := by decide +kernel
theorem dL_law_568 : decode cL_law 568 = .ok (.iload 4, 2) := by decide +kernel
theorem dL_law_570 : decode cL_law 570 = .ok (.iconst 2, 1) := by decide +kernel
theorem dL_law_571 : decode cL_law 571 = .ok (.iadd, 1) := by decide +kernel
theorem dL_law_572 : decode cL_law 572 = .ok (.iaload, 1) := by decide +kernel
theorem dL_law_573 : decode cL_law 573 = .ok (.invokevirtual 97, 3) := by decide +kernel
theorem dL_law_576 : decode cL_law 576 = .ok (.istore 6, 2) := by decide +kernel
theorem dL_law_578 : decode cL_law 578 = .ok (.aload_n 2, 1) := by decide +kernel
theorem dL_law_579 : decode cL_law 579 = .ok (.invokevirtual 72, 3) := by decide +kernel
theorem dL_law_582 : decode cL_law 582 = .ok (.iload 5, 2) := by decide +kernel
theorem dL_law_584 : decode cL_law 584 = .ok (.if_icmp .eq 5, 3) := by decide +kernel
theorem dL_law_587 : decode cL_law 587 = .ok (.iconst 0, 1) := by decide +kernel
theorem dL_law_588 : decode cL_law 588 = .ok (.ireturn, 1) := by decide +kernel
theorem dL_law_589 : decode cL_law 589 = .ok (.iload 5, 2) := by decide +kernel
theorem dL_law_591 : decode cL_law 591 = .ok (.ifCond .ne 15, 3) := by decide +kernel
theorem dL_law_594 : decode cL_law 594 = .ok (.aload_n 3, 1) := by decide +kernel
theorem dL_law_595 : decode cL_law 595 = .ok (.iconst 0, 1) := by decide +kernel
theorem dL_law_596 : decode cL_law 596 = .ok (.laload, 1) := by decide +kernel
theorem dL_law_597 : decode cL_law 597 = .ok (.iload 6, 2) := by decide +kernel
theorem dL_law_599 : decode cL_law 599 = .ok (.i2l, 1) := by decide +kernel
theorem dL_law_600 : decode cL_law 600 = .ok (.lcmp, 1) := by decide +kernel
theorem dL_law_601 : decode cL_law 601 = .ok (.ifCond .eq 5, 3) := by decide +kernel
theorem dL_law_604 : decode cL_law 604 = .ok (.iconst 0, 1) := by decide +kernel
theorem dL_law_605 : decode cL_law 605 = .ok (.ireturn, 1) := by decide +kernel
theorem dL_law_606 : decode cL_law 606 = .ok (.goto 579, 3) := by decide +kernel
theorem dL_law_609 : decode cL_law 609 = .ok (.aload_n 1, 1) := by decide +kernel
theorem dL_law_610 : decode cL_law 610 = .ok (.aload_n 0, 1) := by decide +kernel
theorem dL_law_611 : decode cL_law 611 = .ok (.iload 4, 2) := by decide +kernel
theorem dL_law_613 : decode cL_law 613 = .ok (.iconst 1, 1) := by decide +kernel
theorem dL_law_614 : decode cL_law 614 = .ok (.iadd, 1) := by decide +kernel
theorem dL_law_615 : decode cL_law 615 = .ok (.iaload, 1) := by decide +kernel
theorem dL_law_616 : decode cL_law 616 = .ok (.aload_n 0, 1) := by decide +kernel
theorem dL_law_617 : decode cL_law 617 = .ok (.iload 4, 2) := by decide +kernel
theorem dL_law_619 : decode cL_law 619 = .ok (.iconst 2, 1) := by decide +kernel
theorem dL_law_620 : decode cL_law 620 = .ok (.iadd, 1) := by decide +kernel
theorem dL_law_621 : decode cL_law 621 = .ok (.iaload, 1) := by decide +kernel
theorem dL_law_622 : decode cL_law 622 = .ok (.aload_n 3, 1) := by decide +kernel
theorem dL_law_623 : decode cL_law 623 = .ok (.invokestatic 98, 3) := by decide +kernel
theorem dL_law_626 : decode cL_law 626 = .ok (.istore 5, 2) := by decide +kernel
theorem dL_law_628 : decode cL_law 628 = .ok (.aload_n 2, 1) := by decide +kernel
theorem dL_law_629 : decode cL_law 629 = .ok (.aload_n 0, 1) := by decide +kernel
theorem dL_law_630 : decode cL_law 630 = .ok (.iload 4, 2) := by decide +kernel
theorem dL_law_632 : decode cL_law 632 = .ok (.iconst 1, 1) := by decide +kernel
theorem dL_law_633 : decode cL_law 633 = .ok (.iadd, 1) := by decide +kernel
theorem dL_law_634 : decode cL_law 634 = .ok (.iaload, 1) := by decide +kernel
theorem dL_law_635 : decode cL_law 635 = .ok (.aload_n 0, 1) := by decide +kernel
theorem dL_law_636 : decode cL_law 636 = .ok (.iload 4, 2) := by decide +kernel
theorem dL_law_638 : decode cL_law 638 = .ok (.iconst 2, 1) := by decide +kernel
theorem dL_law_639 : decode cL_law 639 = .ok (.iadd, 1) := by decide +kernel
theorem dL_law_640 : decode cL_law 640 = .ok (.iaload, 1) := by decide +kernel
theorem dL_law_641 : decode cL_law 641 = .ok (.invokevirtual 100, 3) := by decide +kernel
theorem dL_law_644 : decode cL_law 644 = .ok (.istore 6, 2) := by decide +kernel
theorem dL_law_646 : decode cL_law 646 = .ok (.aload_n 2, 1) := by decide +kernel
theorem dL_law_647 : decode cL_law 647 = .ok (.invokevirtual 72, 3) := by decide +kernel
theorem dL_law_650 : decode cL_law 650 = .ok (.iload 5, 2) := by decide +kernel
theorem dL_law_652 : decode cL_law 652 = .ok (.if_icmp .eq 5, 3) := by decide +kernel
theorem dL_law_655 : decode cL_law 655 = .ok (.iconst 0, 1) := by decide +kernel
theorem dL_law_656 : decode cL_law 656 = .ok (.ireturn, 1) := by decide +kernel
theorem dL_law_657 : decode cL_law 657 = .ok (.iload 5, 2) := by decide +kernel
theorem dL_law_659 : decode cL_law 659 = .ok (.ifCond .ne 15, 3) := by decide +kernel
theorem dL_law_662 : decode cL_law 662 = .ok (.aload_n 3, 1) := by decide +kernel
theorem dL_law_663 : decode cL_law 663 = .ok (.iconst 0, 1) := by decide +kernel
theorem dL_law_664 : decode cL_law 664 = .ok (.laload, 1) := by decide +kernel
theorem dL_law_665 : decode cL_law 665 = .ok (.iload 6, 2) := by decide +kernel
theorem dL_law_667 : decode cL_law 667 = .ok (.i2l, 1) := by decide +kernel
theorem dL_law_668 : decode cL_law 668 = .ok (.lcmp, 1) := by decide +kernel
theorem dL_law_669 : decode cL_law 669 = .ok (.ifCond .eq 5, 3) := by decide +kernel
theorem dL_law_672 : decode cL_law 672 = .ok (.iconst 0, 1) := by decide +kernel
theorem dL_law_673 : decode cL_law 673 = .ok (.ireturn, 1) := by decide +kernel
theorem dL_law_674 : decode cL_law 674 = .ok (.goto 511, 3) := by decide +kernel
theorem dL_law_677 : decode cL_law 677 = .ok (.aload_n 1, 1) := by decide +kernel
theorem dL_law_678 : decode cL_law 678 = .ok (.aload_n 0, 1) := by decide +kernel
theorem dL_law_679 : decode cL_law 679 = .ok (.iload 4, 2) := by decide +kernel
theorem dL_law_681 : decode cL_law 681 = .ok (.iconst 1, 1) := by decide +kernel
theorem dL_law_682 : decode cL_law 682 = .ok (.iadd, 1) := by decide +kernel
theorem dL_law_683 : decode cL_law 683 = .ok (.iaload, 1) := by decide +kernel
theorem dL_law_684 : decode cL_law 684 = .ok (.aload_n 3, 1) := by decide +kernel
theorem dL_law_685 : decode cL_law 685 = .ok (.invokestatic 101, 3) := by decide +kernel
theorem dL_law_688 : decode cL_law 688 = .ok (.istore 5, 2) := by decide +kernel
theorem dL_law_690 : decode cL_law 690 = .ok (.aload_n 2, 1) := by decide +kernel
theorem dL_law_691 : decode cL_law 691 = .ok (.aload_n 0, 1) := by decide +kernel
theorem dL_law_692 : decode cL_law 692 = .ok (.iload 4, 2) := by decide +kernel
theorem dL_law_694 : decode cL_law 694 = .ok (.iconst 1, 1) := by decide +kernel
theorem dL_law_695 : decode cL_law 695 = .ok (.iadd, 1) := by decide +kernel
theorem dL_law_696 : decode cL_law 696 = .ok (.iaload, 1) := by decide +kernel
theorem dL_law_697 : decode cL_law 697 = .ok (.invokevirtual 103, 3) := by decide +kernel
theorem dL_law_700 : decode cL_law 700 = .ok (.istore 6, 2) := by decide +kernel
theorem dL_law_702 : decode cL_law 702 = .ok (.aload_n 2, 1) := by decide +kernel
theorem dL_law_703 : decode cL_law 703 = .ok (.invokevirtual 72, 3) := by decide +kernel
theorem dL_law_706 : decode cL_law 706 = .ok (.iload 5, 2) := by decide +kernel
theorem dL_law_708 : decode cL_law 708 = .ok (.if_icmp .eq 5, 3) := by decide +kernel
theorem dL_law_711 : decode cL_law 711 = .ok (.iconst 0, 1) := by decide +kernel
theorem dL_law_712 : decode cL_law 712 = .ok (.ireturn, 1) := by decide +kernel
theorem dL_law_713 : decode cL_law 713 = .ok (.iload 5, 2) := by decide +kernel
theorem dL_law_715 : decode cL_law 715 = .ok (.ifCond .ne 15, 3) := by decide +kernel
theorem dL_law_718 : decode cL_law 718 = .ok (.aload_n 3, 1) := by decide +kernel
theorem dL_law_719 : decode cL_law 719 = .ok (.iconst 0, 1) := by decide +kernel
theorem dL_law_720 : decode cL_law 720 = .ok (.laload, 1) := by decide +kernel
theorem dL_law_721 : decode cL_law 721 = .ok (.iload 6, 2) := by decide +kernel
theorem dL_law_723 : decode cL_law 723 = .ok (.i2l, 1) := by decide +kernel
theorem dL_law_724 : decode cL_law 724 = .ok (.lcmp, 1) := by decide +kernel
theorem dL_law_725 : decode cL_law 725 = .ok (.ifCond .eq 5, 3) := by decide +kernel
theorem dL_law_728 : decode cL_law 728 = .ok (.iconst 0, 1) := by decide +kernel
theorem dL_law_729 : decode cL_law 729 = .ok (.ireturn, 1) := by decide +kernel
theorem dL_law_730 : decode cL_law 730 = .ok (.goto 455, 3) := by decide +kernel
theorem dL_law_733 : decode cL_law 733 = .ok (.aload_n 1, 1) := by decide +kernel
theorem dL_law_734 : decode cL_law 734 = .ok (.invokevirtual 104, 3) := by decide +kernel
theorem dL_law_737 : decode cL_law 737 = .ok (.aload_n 2, 1) := by decide +kernel
theorem dL_law_738 : decode cL_law 738 = .ok (.invokevirtual 107, 3) := by decide +kernel
theorem dL_law_741 : decode cL_law 741 = .ok (.if_icmp .eq 444, 3) := by decide +kernel
theorem dL_law_744 : decode cL_law 744 = .ok (.iconst 0, 1) := by decide +kernel
theorem dL_law_745 : decode cL_law 745 = .ok (.ireturn, 1) := by decide +kernel
theorem dL_law_746 : decode cL_law 746 = .ok (.aload_n 1, 1) := by decide +kernel
theorem dL_law_747 : decode cL_law 747 = .ok (.invokevirtual 108, 3) := by decide +kernel
theorem dL_law_750 : decode cL_law 750 = .ok (.aload_n 2, 1) := by decide +kernel
theorem dL_law_751 : decode cL_law 751 = .ok (.invokevirtual 111, 3) := by decide +kernel
theorem dL_law_754 : decode cL_law 754 = .ok (.if_icmp .eq 431, 3) := by decide +kernel
theorem dL_law_757 : decode cL_law 757 = .ok (.iconst 0, 1) := by decide +kernel
theorem dL_law_758 : decode cL_law 758 = .ok (.ireturn, 1) := by decide +kernel
theorem dL_law_759 : decode cL_law 759 = .ok (.aload_n 1, 1) := by decide +kernel
theorem dL_law_760 : decode cL_law 760 = .ok (.aload_n 0, 1) := by decide +kernel
theorem dL_law_761 : decode cL_law 761 = .ok (.iload 4, 2) := by decide +kernel
theorem dL_law_763 : decode cL_law 763 = .ok (.iconst 1, 1) := by decide +kernel
theorem dL_law_764 : decode cL_law 764 = .ok (.iadd, 1) := by decide +kernel
theorem dL_law_765 : decode cL_law 765 = .ok (.iaload, 1) := by decide +kernel
theorem dL_law_766 : decode cL_law 766 = .ok (.aload_n 3, 1) := by decide +kernel
theorem dL_law_767 : decode cL_law 767 = .ok (.invokestatic 112, 3) := by decide +kernel
theorem dL_law_770 : decode cL_law 770 = .ok (.istore 5, 2) := by decide +kernel
theorem dL_law_772 : decode cL_law 772 = .ok (.aload_n 2, 1) := by decide +kernel
theorem dL_law_773 : decode cL_law 773 = .ok (.aload_n 0, 1) := by decide +kernel
theorem dL_law_774 : decode cL_law 774 = .ok (.iload 4, 2) := by decide +kernel
theorem dL_law_776 : decode cL_law 776 = .ok (.iconst 1, 1) := by decide +kernel
theorem dL_law_777 : decode cL_law 777 = .ok (.iadd, 1) := by decide +kernel
theorem dL_law_778 : decode cL_law 778 = .ok (.iaload, 1) := by decide +kernel
theorem dL_law_779 : decode cL_law 779 = .ok (.invokevirtual 114, 3) := by decide +kernel
theorem dL_law_782 : decode cL_law 782 = .ok (.istore 6, 2) := by decide +kernel
theorem dL_law_784 : decode cL_law 784 = .ok (.aload_n 2, 1) := by decide +kernel
theorem dL_law_785 : decode cL_law 785 = .ok (.invokevirtual 72, 3) := by decide +kernel
theorem dL_law_788 : decode cL_law 788 = .ok (.iload 5, 2) := by decide +kernel
theorem dL_law_790 : decode cL_law 790 = .ok (.if_icmp .eq 5, 3) := by decide +kernel
theorem dL_law_793 : decode cL_law 793 = .ok (.iconst 0, 1) := by decide +kernel
theorem dL_law_794 : decode cL_law 794 = .ok (.ireturn, 1) := by decide +kernel
theorem dL_law_795 : decode cL_law 795 = .ok (.iload 5, 2) := by decide +kernel
theorem dL_law_797 : decode cL_law 797 = .ok (.ifCond .ne 15, 3) := by decide +kernel
theorem dL_law_800 : decode cL_law 800 = .ok (.aload_n 3, 1) := by decide +kernel
theorem dL_law_801 : decode cL_law 801 = .ok (.iconst 0, 1) := by decide +kernel
theorem dL_law_802 : decode cL_law 802 = .ok (.laload, 1) := by decide +kernel
theorem dL_law_803 : decode cL_law 803 = .ok (.iload 6, 2) := by decide +kernel
theorem dL_law_805 : decode cL_law 805 = .ok (.i2l, 1) := by decide +kernel
theorem dL_law_806 : decode cL_law 806 = .ok (.lcmp, 1) := by decide +kernel
theorem dL_law_807 : decode cL_law 807 = .ok (.ifCond .eq 5, 3) := by decide +kernel
theorem dL_law_810 : decode cL_law 810 = .ok (.iconst 0, 1) := by decide +kernel
theorem dL_law_811 : decode cL_law 811 = .ok (.ireturn, 1) := by decide +kernel
theorem dL_law_812 : decode cL_law 812 = .ok (.goto 373, 3) := by decide +kernel
theorem dL_law_815 : decode cL_law 815 = .ok (.aload_n 1, 1) := by decide +kernel
theorem dL_law_816 : decode cL_law 816 = .ok (.aload_n 0, 1) := by decide +kernel
theorem dL_law_817 : decode cL_law 817 = .ok (.iload 4, 2) := by decide +kernel
theorem dL_law_819 : decode cL_law 819 = .ok (.iconst 1, 1) := by decide +kernel
theorem dL_law_820 : decode cL_law 820 = .ok (.iadd, 1) := by decide +kernel
theorem dL_law_821 : decode cL_law 821 = .ok (.iaload, 1) := by decide +kernel
theorem dL_law_822 : decode cL_law 822 = .ok (.aload_n 0, 1) := by decide +kernel
theorem dL_law_823 : decode cL_law 823 = .ok (.iload 4, 2) := by decide +kernel
theorem dL_law_825 : decode cL_law 825 = .ok (.iconst 2, 1) := by decide +kernel
theorem dL_law_826 : decode cL_law 826 = .ok (.iadd, 1) := by decide +kernel
theorem dL_law_827 : decode cL_law 827 = .ok (.iaload, 1) := by decide +kernel
theorem dL_law_828 : decode cL_law 828 = .ok (.aload_n 3, 1) := by decide +kernel
theorem dL_law_829 : decode cL_law 829 = .ok (.invokestatic 115, 3) := by decide +kernel
theorem dL_law_832 : decode cL_law 832 = .ok (.istore 5, 2) := by decide +kernel
theorem dL_law_834 : decode cL_law 834 = .ok (.aload_n 2, 1) := by decide +kernel
theorem dL_law_835 : decode cL_law 835 = .ok (.aload_n 0, 1) := by decide +kernel
theorem dL_law_836 : decode cL_law 836 = .ok (.iload 4, 2) := by decide +kernel
theorem dL_law_838 : decode cL_law 838 = .ok (.iconst 1, 1) := by decide +kernel
theorem dL_law_839 : decode cL_law 839 = .ok (.iadd, 1) := by decide +kernel
theorem dL_law_840 : decode cL_law 840 = .ok (.iaload, 1) := by decide +kernel
theorem dL_law_841 : decode cL_law 841 = .ok (.aload_n 0, 1) := by decide +kernel
theorem dL_law_842 : decode cL_law 842 = .ok (.iload 4, 2) := by decide +kernel
theorem dL_law_844 : decode cL_law 844 = .ok (.iconst 2, 1) := by decide +kernel
theorem dL_law_845 : decode cL_law 845 = .ok (.iadd, 1) := by decide +kernel
theorem dL_law_846 : decode cL_law 846 = .ok (.iaload, 1) := by decide +kernel
theorem dL_law_847 : decode cL_law 847 = .ok (.invokevirtual 117, 3) := by decide +kernel
theorem dL_law_850 : decode cL_law 850 = .ok (.istore 6, 2) := by decide +kernel
theorem dL_law_852 : decode cL_law 852 = .ok (.aload_n 2, 1) := by decide +kernel
theorem dL_law_853 : decode cL_law 853 = .ok (.invokevirtual 72, 3) := by decide +kernel
theorem dL_law_856 : decode cL_law 856 = .ok (.iload 5, 2) := by decide +kernel
theorem dL_law_858 : decode cL_law 858 = .ok (.if_icmp .eq 5, 3) := by decide +kernel
theorem dL_law_861 : decode cL_law 861 = .ok (.iconst 0, 1) := by decide +kernel
theorem dL_law_862 : decode cL_law 862 = .ok (.ireturn, 1) := by decide +kernel
theorem dL_law_863 : decode cL_law 863 = .ok (.iload 5, 2) := by decide +kernel
theorem dL_law_865 : decode cL_law 865 = .ok (.ifCond .ne 15, 3) := by decide +kernel
theorem dL_law_868 : decode cL_law 868 = .ok (.aload_n 3, 1) := by decide +kernel
theorem dL_law_869 : decode cL_law 869 = .ok (.iconst 0, 1) := by decide +kernel
theorem dL_law_870 : decode cL_law 870 = .ok (.laload, 1) := by decide +kernel
theorem dL_law_871 : decode cL_law 871 = .ok (.iload 6, 2) := by decide +kernel
theorem dL_law_873 : decode cL_law 873 = .ok (.i2l, 1) := by decide +kernel
theorem dL_law_874 : decode cL_law 874 = .ok (.lcmp, 1) := by decide +kernel
theorem dL_law_875 : decode cL_law 875 = .ok (.ifCond .eq 5, 3) := by decide +kernel
theorem dL_law_878 : decode cL_law 878 = .ok (.iconst 0, 1) := by decide +kernel
theorem dL_law_879 : decode cL_law 879 = .ok (.ireturn, 1) := by decide +kernel
theorem dL_law_880 : decode cL_law 880 = .ok (.goto 305, 3) := by decide +kernel
theorem dL_law_883 : decode cL_law 883 = .ok (.aload_n 1, 1) := by decide +kernel
theorem dL_law_884 : decode cL_law 884 = .ok (.aload_n 0, 1) := by decide +kernel
theorem dL_law_885 : decode cL_law 885 = .ok (.iload 4, 2) := by decide +kernel
theorem dL_law_887 : decode cL_law 887 = .ok (.iconst 1, 1) := by decide +kernel
theorem dL_law_888 : decode cL_law 888 = .ok (.iadd, 1) := by decide +kernel
theorem dL_law_889 : decode cL_law 889 = .ok (.iaload, 1) := by decide +kernel
theorem dL_law_890 : decode cL_law 890 = .ok (.aload_n 3, 1) := by decide +kernel
theorem dL_law_891 : decode cL_law 891 = .ok (.invokestatic 118, 3) := by decide +kernel
theorem dL_law_894 : decode cL_law 894 = .ok (.istore 5, 2) := by decide +kernel
theorem dL_law_896 : decode cL_law 896 = .ok (.aload_n 2, 1) := by decide +kernel
theorem dL_law_897 : decode cL_law 897 = .ok (.aload_n 0, 1) := by decide +kernel
theorem dL_law_898 : decode cL_law 898 = .ok (.iload 4, 2) := by decide +kernel
theorem dL_law_900 : decode cL_law 900 = .ok (.iconst 1, 1) := by decide +kernel
theorem dL_law_901 : decode cL_law 901 = .ok (.iadd, 1) := by decide +kernel
theorem dL_law_902 : decode cL_law 902 = .ok (.iaload, 1) := by decide +kernel
theorem dL_law_903 : decode cL_law 903 = .ok (.invokevirtual 120, 3) := by decide +kernel
theorem dL_law_906 : decode cL_law 906 = .ok (.istore 6, 2) := by decide +kernel
theorem dL_law_908 : decode cL_law 908 = .ok (.aload_n 2, 1) := by decide +kernel
theorem dL_law_909 : decode cL_law 909 = .ok (.invokevirtual 72, 3) := by decide +kernel
theorem dL_law_912 : decode cL_law 912 = .ok (.iload 5, 2) := by decide +kernel
theorem dL_law_914 : decode cL_law 914 = .ok (.if_icmp .eq 5, 3) := by decide +kernel
theorem dL_law_917 : decode cL_law 917 = .ok (.iconst 0, 1) := by decide +kernel
theorem dL_law_918 : decode cL_law 918 = .ok (.ireturn, 1) := by decide +kernel
theorem dL_law_919 : decode cL_law 919 = .ok (.iload 5, 2) := by decide +kernel
theorem dL_law_921 : decode cL_law 921 = .ok (.ifCond .ne 15, 3) := by decide +kernel
theorem dL_law_924 : decode cL_law 924 = .ok (.aload_n 3, 1) := by decide +kernel
theorem dL_law_925 : decode cL_law 925 = .ok (.iconst 0, 1) := by decide +kernel
theorem dL_law_926 : decode cL_law 926 = .ok (.laload, 1) := by decide +kernel
theorem dL_law_927 : decode cL_law 927 = .ok (.iload 6, 2) := by decide +kernel
theorem dL_law_929 : decode cL_law 929 = .ok (.i2l, 1) := by decide +kernel
theorem dL_law_930 : decode cL_law 930 = .ok (.lcmp, 1) := by decide +kernel
theorem dL_law_931 : decode cL_law 931 = .ok (.ifCond .eq 5, 3) := by decide +kernel
theorem dL_law_934 : decode cL_law 934 = .ok (.iconst 0, 1) := by decide +kernel
theorem dL_law_935 : decode cL_law 935 = .ok (.ireturn, 1) := by decide +kernel
theorem dL_law_936 : decode cL_law 936 = .ok (.goto 249, 3) := by decide +kernel
theorem dL_law_939 : decode cL_law 939 = .ok (.aload_n 1, 1) := by decide +kernel
theorem dL_law_940 : decode cL_law 940 = .ok (.aload_n 0, 1) := by decide +kernel
theorem dL_law_941 : decode cL_law 941 = .ok (.iload 4, 2) := by decide +kernel
theorem dL_law_943 : decode cL_law 943 = .ok (.iconst 1, 1) := by decide +kernel
theorem dL_law_944 : decode cL_law 944 = .ok (.iadd, 1) := by decide +kernel
theorem dL_law_945 : decode cL_law 945 = .ok (.iaload, 1) := by decide +kernel
theorem dL_law_946 : decode cL_law 946 = .ok (.aload_n 0, 1) := by decide +kernel
theorem dL_law_947 : decode cL_law 947 = .ok (.iload 4, 2) := by decide +kernel
theorem dL_law_949 : decode cL_law 949 = .ok (.iconst 2, 1) := by decide +kernel
theorem dL_law_950 : decode cL_law 950 = .ok (.iadd, 1) := by decide +kernel
theorem dL_law_951 : decode cL_law 951 = .ok (.iaload, 1) := by decide +kernel
theorem dL_law_952 : decode cL_law 952 = .ok (.aload_n 3, 1) := by decide +kernel
theorem dL_law_953 : decode cL_law 953 = .ok (.invokestatic 121, 3) := by decide +kernel
theorem dL_law_956 : decode cL_law 956 = .ok (.istore 5, 2) := by decide +kernel
theorem dL_law_958 : decode cL_law 958 = .ok (.aload_n 2, 1) := by decide +kernel
theorem dL_law_959 : decode cL_law 959 = .ok (.aload_n 0, 1) := by decide +kernel
theorem dL_law_960 : decode cL_law 960 = .ok (.iload 4, 2) := by decide +kernel
theorem dL_law_962 : decode cL_law 962 = .ok (.iconst 1, 1) := by decide +kernel
theorem dL_law_963 : decode cL_law 963 = .ok (.iadd, 1) := by decide +kernel
theorem dL_law_964 : decode cL_law 964 = .ok (.iaload, 1) := by decide +kernel
theorem dL_law_965 : decode cL_law 965 = .ok (.aload_n 0, 1) := by decide +kernel
theorem dL_law_966 : decode cL_law 966 = .ok (.iload 4, 2) := by decide +kernel
theorem dL_law_968 : decode cL_law 968 = .ok (.iconst 2, 1) := by decide +kernel
theorem dL_law_969 : decode cL_law 969 = .ok (.iadd, 1) := by decide +kernel
theorem dL_law_970 : decode cL_law 970 = .ok (.iaload, 1) := by decide +kernel
theorem dL_law_971 : decode cL_law 971 = .ok (.invokevirtual 123, 3) := by decide +kernel
theorem dL_law_974 : decode cL_law 974 = .ok (.istore 6, 2) := by decide +kernel
theorem dL_law_976 : decode cL_law 976 = .ok (.aload_n 2, 1) := by decide +kernel
theorem dL_law_977 : decode cL_law 977 = .ok (.invokevirtual 72, 3) := by decide +kernel
theorem dL_law_980 : decode cL_law 980 = .ok (.iload 5, 2) := by decide +kernel
theorem dL_law_982 : decode cL_law 982 = .ok (.if_icmp .eq 5, 3) := by decide +kernel
theorem dL_law_985 : decode cL_law 985 = .ok (.iconst 0, 1) := by decide +kernel
theorem dL_law_986 : decode cL_law 986 = .ok (.ireturn, 1) := by decide +kernel
theorem dL_law_987 : decode cL_law 987 = .ok (.iload 5, 2) := by decide +kernel
theorem dL_law_989 : decode cL_law 989 = .ok (.ifCond .ne 15, 3) := by decide +kernel
theorem dL_law_992 : decode cL_law 992 = .ok (.aload_n 3, 1) := by decide +kernel
theorem dL_law_993 : decode cL_law 993 = .ok (.iconst 0, 1) := by decide +kernel
theorem dL_law_994 : decode cL_law 994 = .ok (.laload, 1) := by decide +kernel
theorem dL_law_995 : decode cL_law 995 = .ok (.iload 6, 2) := by decide +kernel
theorem dL_law_997 : decode cL_law 997 = .ok (.i2l, 1) := by decide +kernel
theorem dL_law_998 : decode cL_law 998 = .ok (.lcmp, 1) := by decide +kernel
theorem dL_law_999 : decode cL_law 999 = .ok (.ifCond .eq 5, 3) := by decide +kernel
theorem dL_law_1002 : decode cL_law 1002 = .ok (.iconst 0, 1) := by decide +kernel
theorem dL_law_1003 : decode cL_law 1003 = .ok (.ireturn, 1) := by decide +kernel
theorem dL_law_1004 : decode cL_law 1004 = .ok (.goto 181, 3) := by decide +kernel
theorem dL_law_1007 : decode cL_law 1007 = .ok (.aload_n 1, 1) := by decide +kernel
theorem dL_law_1008 : decode cL_law 1008 = .ok (.aload_n 0, 1) := by decide +kernel
theorem dL_law_1009 : decode cL_law 1009 = .ok (.iload 4, 2) := by decide +kernel
theorem dL_law_1011 : decode cL_law 1011 = .ok (.iconst 1, 1) := by decide +kernel
theorem dL_law_1012 : decode cL_law 1012 = .ok (.iadd, 1) := by decide +kernel
theorem dL_law_1013 : decode cL_law 1013 = .ok (.iaload, 1) := by decide +kernel
theorem dL_law_1014 : decode cL_law 1014 = .ok (.aload_n 0, 1) := by decide +kernel
theorem dL_law_1015 : decode cL_law 1015 = .ok (.iload 4, 2) := by decide +kernel
theorem dL_law_1017 : decode cL_law 1017 = .ok (.iconst 2, 1) := by decide +kernel
theorem dL_law_1018 : decode cL_law 1018 = .ok (.iadd, 1) := by decide +kernel
theorem dL_law_1019 : decode cL_law 1019 = .ok (.iaload, 1) := by decide +kernel
theorem dL_law_1020 : decode cL_law 1020 = .ok (.aload_n 3, 1) := by decide +kernel
theorem dL_law_1021 : decode cL_law 1021 = .ok (.invokestatic 124, 3) := by decide +kernel
theorem dL_law_1024 : decode cL_law 1024 = .ok (.istore 5, 2) := by decide +kernel
theorem dL_law_1026 : decode cL_law 1026 = .ok (.aload_n 2, 1) := by decide +kernel
theorem dL_law_1027 : decode cL_law 1027 = .ok (.aload_n 0, 1) := by decide +kernel
theorem dL_law_1028 : decode cL_law 1028 = .ok (.iload 4, 2) := by decide +kernel
theorem dL_law_1030 : decode cL_law 1030 = .ok (.iconst 1, 1) := by decide +kernel
theorem dL_law_1031 : decode cL_law 1031 = .ok (.iadd, 1) := by decide +kernel
theorem dL_law_1032 : decode cL_law 1032 = .ok (.iaload, 1) := by decide +kernel
theorem dL_law_1033 : decode cL_law 1033 = .ok (.aload_n 0, 1) := by decide +kernel
theorem dL_law_1034 : decode cL_law 1034 = .ok (.iload 4, 2) := by decide +kernel
theorem dL_law_1036 : decode cL_law 1036 = .ok (.iconst 2, 1) := by decide +kernel
theorem dL_law_1037 : decode cL_law 1037 = .ok (.iadd, 1) := by decide +kernel
theorem dL_law_1038 : decode cL_law 1038 = .ok (.iaload, 1) := by decide +kernel
theorem dL_law_1039 : decode cL_law 1039 = .ok (.invokevirtual 126, 3) := by decide +kernel
theorem dL_law_1042 : decode cL_law 1042 = .ok (.istore 6, 2) := by decide +kernel
theorem dL_law_1044 : decode cL_law 1044 = .ok (.aload_n 2, 1) := by decide +kernel
theorem dL_law_1045 : decode cL_law 1045 = .ok (.invokevirtual 72, 3) := by decide +kernel
theorem dL_law_1048 : decode cL_law 1048 = .ok (.iload 5, 2) := by decide +kernel
theorem dL_law_1050 : decode cL_law 1050 = .ok (.if_icmp .eq 5, 3) := by decide +kernel
theorem dL_law_1053 : decode cL_law 1053 = .ok (.iconst 0, 1) := by decide +kernel
theorem dL_law_1054 : decode cL_law 1054 = .ok (.ireturn, 1) := by decide +kernel
theorem dL_law_1055 : decode cL_law 1055 = .ok (.iload 5, 2) := by decide +kernel
theorem dL_law_1057 : decode cL_law 1057 = .ok (.ifCond .ne 15, 3) := by decide +kernel
theorem dL_law_1060 : decode cL_law 1060 = .ok (.aload_n 3, 1) := by decide +kernel
theorem dL_law_1061 : decode cL_law 1061 = .ok (.iconst 0, 1) := by decide +kernel
theorem dL_law_1062 : decode cL_law 1062 = .ok (.laload, 1) := by decide +kernel
theorem dL_law_1063 : decode cL_law 1063 = .ok (.iload 6, 2) := by decide +kernel
theorem dL_law_1065 : decode cL_law 1065 = .ok (.i2l, 1) := by decide +kernel
theorem dL_law_1066 : decode cL_law 1066 = .ok (.lcmp, 1) := by decide +kernel
theorem dL_law_1067 : decode cL_law 1067 = .ok (.ifCond .eq 5, 3) := by decide +kernel
theorem dL_law_1070 : decode cL_law 1070 = .ok (.iconst 0, 1) := by decide +kernel
theorem dL_law_1071 : decode cL_law 1071 = .ok (.ireturn, 1) := by decide +kernel
theorem dL_law_1072 : decode cL_law 1072 = .ok (.goto 113, 3) := by decide +kernel
theorem dL_law_1075 : decode cL_law 1075 = .ok (.aload_n 1, 1) := by decide +kernel
theorem dL_law_1076 : decode cL_law 1076 = .ok (.aload_n 0, 1) := by decide +kernel
theorem dL_law_1077 : decode cL_law 1077 = .ok (.iload 4, 2) := by decide +kernel
theorem dL_law_1079 : decode cL_law 1079 = .ok (.iconst 1, 1) := by decide +kernel
theorem dL_law_1080 : decode cL_law 1080 = .ok (.iadd, 1) := by decide +kernel
theorem dL_law_1081 : decode cL_law 1081 = .ok (.iaload, 1) := by decide +kernel
theorem dL_law_1082 : decode cL_law 1082 = .ok (.aload_n 3, 1) := by decide +kernel
theorem dL_law_1083 : decode cL_law 1083 = .ok (.invokestatic 127, 3) := by decide +kernel
theorem dL_law_1086 : decode cL_law 1086 = .ok (.istore 5, 2) := by decide +kernel
theorem dL_law_1088 : decode cL_law 1088 = .ok (.aload_n 2, 1) := by decide +kernel
theorem dL_law_1089 : decode cL_law 1089 = .ok (.aload_n 0, 1) := by decide +kernel
theorem dL_law_1090 : decode cL_law 1090 = .ok (.iload 4, 2) := by decide +kernel
theorem dL_law_1092 : decode cL_law 1092 = .ok (.iconst 1, 1) := by decide +kernel
theorem dL_law_1093 : decode cL_law 1093 = .ok (.iadd, 1) := by decide +kernel
theorem dL_law_1094 : decode cL_law 1094 = .ok (.iaload, 1) := by decide +kernel
theorem dL_law_1095 : decode cL_law 1095 = .ok (.invokevirtual 129, 3) := by decide +kernel
theorem dL_law_1098 : decode cL_law 1098 = .ok (.lstore 6, 2) := by decide +kernel
theorem dL_law_1100 : decode cL_law 1100 = .ok (.aload_n 2, 1) := by decide +kernel
theorem dL_law_1101 : decode cL_law 1101 = .ok (.invokevirtual 72, 3) := by decide +kernel
theorem dL_law_1104 : decode cL_law 1104 = .ok (.iload 5, 2) := by decide +kernel
theorem dL_law_1106 : decode cL_law 1106 = .ok (.if_icmp .eq 5, 3) := by decide +kernel
theorem dL_law_1109 : decode cL_law 1109 = .ok (.iconst 0, 1) := by decide +kernel
theorem dL_law_1110 : decode cL_law 1110 = .ok (.ireturn, 1) := by decide +kernel
theorem dL_law_1111 : decode cL_law 1111 = .ok (.iload 5, 2) := by decide +kernel
theorem dL_law_1113 : decode cL_law 1113 = .ok (.ifCond .ne 14, 3) := by decide +kernel
theorem dL_law_1116 : decode cL_law 1116 = .ok (.aload_n 3, 1) := by decide +kernel
theorem dL_law_1117 : decode cL_law 1117 = .ok (.iconst 0, 1) := by decide +kernel
theorem dL_law_1118 : decode cL_law 1118 = .ok (.laload, 1) := by decide +kernel
theorem dL_law_1119 : decode cL_law 1119 = .ok (.lload 6, 2) := by decide +kernel
theorem dL_law_1121 : decode cL_law 1121 = .ok (.lcmp, 1) := by decide +kernel
theorem dL_law_1122 : decode cL_law 1122 = .ok (.ifCond .eq 5, 3) := by decide +kernel
theorem dL_law_1125 : decode cL_law 1125 = .ok (.iconst 0, 1) := by decide +kernel
theorem dL_law_1126 : decode cL_law 1126 = .ok (.ireturn, 1) := by decide +kernel
theorem dL_law_1127 : decode cL_law 1127 = .ok (.goto 58, 3) := by decide +kernel
theorem dL_law_1130 : decode cL_law 1130 = .ok (.aload_n 1, 1) := by decide +kernel
theorem dL_law_1131 : decode cL_law 1131 = .ok (.invokevirtual 130, 3) := by decide +kernel
theorem dL_law_1134 : decode cL_law 1134 = .ok (.dstore 5, 2) := by decide +kernel
theorem dL_law_1136 : decode cL_law 1136 = .ok (.aload_n 2, 1) := by decide +kernel
theorem dL_law_1137 : decode cL_law 1137 = .ok (.invokevirtual 134, 3) := by decide +kernel
theorem dL_law_1140 : decode cL_law 1140 = .ok (.dstore 7, 2) := by decide +kernel
theorem dL_law_1142 : decode cL_law 1142 = .ok (.dload 5, 2) := by decide +kernel
theorem dL_law_1144 : decode cL_law 1144 = .ok (.dload 7, 2) := by decide +kernel
theorem dL_law_1146 : decode cL_law 1146 = .ok (.dcmp .l, 1) := by decide +kernel
theorem dL_law_1147 : decode cL_law 1147 = .ok (.ifCond .eq 21, 3) := by decide +kernel
theorem dL_law_1150 : decode cL_law 1150 = .ok (.dload 5, 2) := by decide +kernel
theorem dL_law_1152 : decode cL_law 1152 = .ok (.dload 5, 2) := by decide +kernel
theorem dL_law_1154 : decode cL_law 1154 = .ok (.dcmp .l, 1) := by decide +kernel
theorem dL_law_1155 : decode cL_law 1155 = .ok (.ifCond .eq 11, 3) := by decide +kernel
theorem dL_law_1158 : decode cL_law 1158 = .ok (.dload 7, 2) := by decide +kernel
theorem dL_law_1160 : decode cL_law 1160 = .ok (.dload 7, 2) := by decide +kernel
theorem dL_law_1162 : decode cL_law 1162 = .ok (.dcmp .l, 1) := by decide +kernel
theorem dL_law_1163 : decode cL_law 1163 = .ok (.ifCond .ne 5, 3) := by decide +kernel
theorem dL_law_1166 : decode cL_law 1166 = .ok (.iconst 0, 1) := by decide +kernel
theorem dL_law_1167 : decode cL_law 1167 = .ok (.ireturn, 1) := by decide +kernel
theorem dL_law_1168 : decode cL_law 1168 = .ok (.goto 17, 3) := by decide +kernel
theorem dL_law_1171 : decode cL_law 1171 = .ok (.aload_n 1, 1) := by decide +kernel
theorem dL_law_1172 : decode cL_law 1172 = .ok (.invokevirtual 135, 3) := by decide +kernel
theorem dL_law_1175 : decode cL_law 1175 = .ok (.aload_n 2, 1) := by decide +kernel
theorem dL_law_1176 : decode cL_law 1176 = .ok (.invokevirtual 139, 3) := by decide +kernel
theorem dL_law_1179 : decode cL_law 1179 = .ok (.lcmp, 1) := by decide +kernel
theorem dL_law_1180 : decode cL_law 1180 = .ok (.ifCond .eq 5, 3) := by decide +kernel
theorem dL_law_1183 : decode cL_law 1183 = .ok (.iconst 0, 1) := by decide +kernel
theorem dL_law_1184 : decode cL_law 1184 = .ok (.ireturn, 1) := by decide +kernel
theorem dL_law_1185 : decode cL_law 1185 = .ok (.iinc 4 5, 3) := by decide +kernel
theorem dL_law_1188 : decode cL_law 1188 = .ok (.goto (-1165), 3) := by decide +kernel
theorem dL_law_1191 : decode cL_law 1191 = .ok (.iconst 1, 1) := by decide +kernel
theorem dL_law_1192 : decode cL_law 1192 = .ok (.ireturn, 1) := by decide +kernel
abbrev vwCl : List vw_C := [(RJx4a65c, TJx4a65c, 3), (RX0, TX0, 4), (RX1, TX1, 3), (RX2, TX2, 2), (RX3, TX3, 6), (RX4, TX4, 11), (RX5, TX5, 17)]
