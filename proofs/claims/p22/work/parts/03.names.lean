
/-! ===== BEGIN printed: names, fields, word lists, decode rows ===== -/
def RX0 : String := "VendingRounds$Machine"
def TX0 : u_T := fun k => match k with
  | 0 => ("VendingRounds$Machine", "limit", "I", true)
  | 1 => ("VendingRounds$Machine", "slots", "[LVendingRounds$Slot;", true)
  | 2 => ("VendingRounds$Machine", "coins", "I", false)
  | _ => ("VendingRounds$Machine", "visits", "I", false)
def tyX0 : Nat → FieldType := fun k => match k with
  | 0 => .int
  | 1 => .array (.object "VendingRounds$Slot")
  | 2 => .int
  | _ => .int
abbrev wsX00 : List Cond := u_ws RX0 TX0 4
theorem nmX0 : ∀ a, a < 4 → ∀ b, b < 4 → a ≠ b → (TX0 a).2.1 ≠ (TX0 b).2.1 := by decide +kernel
theorem tyX0_ok : ∀ k, k < 4 → parseFieldDescriptor (TX0 k).2.2.1 = some (tyX0 k) := by decide +kernel
abbrev cX0_init : ByteArray := prog_2_method_1_code
def yX0_init : MethodName := ⟨RX0, "<init>", "(I)V"⟩
abbrev cX0_lacking : ByteArray := prog_2_method_2_code
def yX0_lacking : MethodName := ⟨RX0, "lacking", "()I"⟩
abbrev cX0_gain : ByteArray := prog_2_method_3_code
def yX0_gain : MethodName := ⟨RX0, "gain", "()I"⟩
abbrev cX0_visitTime : ByteArray := prog_2_method_4_code
def yX0_visitTime : MethodName := ⟨RX0, "visitTime", "()I"⟩
abbrev cX0_fact : ByteArray := prog_2_method_5_code
def yX0_fact : MethodName := ⟨RX0, "fact", "(I)I"⟩
abbrev cX0_sellForADay : ByteArray := prog_2_method_6_code
def yX0_sellForADay : MethodName := ⟨RX0, "sellForADay", "()I"⟩
abbrev cX0_sellFrom : ByteArray := prog_2_method_7_code
def yX0_sellFrom : MethodName := ⟨RX0, "sellFrom", "(LVendingRounds$Slot;)I"⟩
abbrev cX0_emptyBox : ByteArray := prog_2_method_8_code
def yX0_emptyBox : MethodName := ⟨RX0, "emptyBox", "()I"⟩
abbrev cX0_fillUp : ByteArray := prog_2_method_9_code
def yX0_fillUp : MethodName := ⟨RX0, "fillUp", "(I)I"⟩
def RX1 : String := "VendingRounds$PriceChange"
def TX1 : u_T := fun k => match k with
  | 0 => ("VendingRounds$PriceChange", "slot", "LVendingRounds$Slot;", true)
  | 1 => ("VendingRounds$PriceChange", "day", "I", true)
  | _ => ("VendingRounds$PriceChange", "price", "I", true)
def tyX1 : Nat → FieldType := fun k => match k with
  | 0 => .object "VendingRounds$Slot"
  | 1 => .int
  | _ => .int
abbrev wsX10 : List Cond := u_ws RX1 TX1 3
theorem nmX1 : ∀ a, a < 3 → ∀ b, b < 3 → a ≠ b → (TX1 a).2.1 ≠ (TX1 b).2.1 := by decide +kernel
theorem tyX1_ok : ∀ k, k < 3 → parseFieldDescriptor (TX1 k).2.2.1 = some (tyX1 k) := by decide +kernel
abbrev cX1_init : ByteArray := prog_3_method_1_code
def yX1_init : MethodName := ⟨RX1, "<init>", "(LVendingRounds$Slot;II)V"⟩
def RX2 : String := "VendingRounds$Roads"
def TX2 : u_T := fun k => match k with
  | 0 => ("VendingRounds$Roads", "minutes", "[I", true)
  | _ => ("VendingRounds$Roads", "homeward", "[I", true)
def tyX2 : Nat → FieldType := fun k => match k with
  | 0 => .array .int
  | _ => .array .int
abbrev wsX20 : List Cond := u_ws RX2 TX2 2
theorem nmX2 : ∀ a, a < 2 → ∀ b, b < 2 → a ≠ b → (TX2 a).2.1 ≠ (TX2 b).2.1 := by decide +kernel
theorem tyX2_ok : ∀ k, k < 2 → parseFieldDescriptor (TX2 k).2.2.1 = some (tyX2 k) := by decide +kernel
abbrev cX2_init : ByteArray := prog_4_method_1_code
def yX2_init : MethodName := ⟨RX2, "<init>", "()V"⟩
abbrev cX2_between : ByteArray := prog_4_method_2_code
def yX2_between : MethodName := ⟨RX2, "between", "(II)I"⟩
abbrev cX2_setBetween : ByteArray := prog_4_method_3_code
def yX2_setBetween : MethodName := ⟨RX2, "setBetween", "(III)V"⟩
abbrev cX2_measureTours : ByteArray := prog_4_method_4_code
def yX2_measureTours : MethodName := ⟨RX2, "measureTours", "(I)V"⟩
abbrev cX2_leastFrom : ByteArray := prog_4_method_5_code
def yX2_leastFrom : MethodName := ⟨RX2, "leastFrom", "(II)I"⟩
abbrev cX2_nextStop : ByteArray := prog_4_method_6_code
def yX2_nextStop : MethodName := ⟨RX2, "nextStop", "(II)I"⟩
abbrev cX2_leastBy : ByteArray := prog_4_method_7_code
def yX2_leastBy : MethodName := ⟨RX2, "leastBy", "(III)I"⟩
def RX3 : String := "VendingRounds$Slot"
def TX3 : u_T := fun k => match k with
  | 0 => ("VendingRounds$Slot", "capacity", "I", false)
  | 1 => ("VendingRounds$Slot", "stock", "I", false)
  | 2 => ("VendingRounds$Slot", "price", "I", false)
  | 3 => ("VendingRounds$Slot", "demand", "I", false)
  | 4 => ("VendingRounds$Slot", "sold", "I", false)
  | _ => ("VendingRounds$Slot", "lost", "I", false)
def tyX3 : Nat → FieldType := fun k => match k with
  | 0 => .int
  | 1 => .int
  | 2 => .int
  | 3 => .int
  | 4 => .int
  | _ => .int
abbrev wsX30 : List Cond := u_ws RX3 TX3 6
theorem nmX3 : ∀ a, a < 6 → ∀ b, b < 6 → a ≠ b → (TX3 a).2.1 ≠ (TX3 b).2.1 := by decide +kernel
theorem tyX3_ok : ∀ k, k < 6 → parseFieldDescriptor (TX3 k).2.2.1 = some (tyX3 k) := by decide +kernel
abbrev cX3_init : ByteArray := prog_5_method_1_code
def yX3_init : MethodName := ⟨RX3, "<init>", "()V"⟩
abbrev cX3_lacking : ByteArray := prog_5_method_2_code
def yX3_lacking : MethodName := ⟨RX3, "lacking", "()I"⟩
def RX4 : String := "VendingRounds"
def TX4 : u_T := fun k => match k with
  | 0 => ("VendingRounds", "machineList", "Ljava/util/ArrayList;", true)
  | 1 => ("VendingRounds", "changes", "Ljava/util/ArrayList;", true)
  | 2 => ("VendingRounds", "roads", "LVendingRounds$Roads;", true)
  | 3 => ("VendingRounds", "visitTimes", "[I", true)
  | 4 => ("VendingRounds", "lacks", "[I", true)
  | 5 => ("VendingRounds", "gains", "[I", true)
  | 6 => ("VendingRounds", "day", "I", false)
  | 7 => ("VendingRounds", "coinsHome", "J", false)
  | 8 => ("VendingRounds", "minutesSpent", "J", false)
  | 9 => ("VendingRounds", "piecesFilled", "J", false)
  | _ => ("VendingRounds", "roundsMade", "J", false)
def tyX4 : Nat → FieldType := fun k => match k with
  | 0 => .object "java/util/ArrayList"
  | 1 => .object "java/util/ArrayList"
  | 2 => .object "VendingRounds$Roads"
  | 3 => .array .int
  | 4 => .array .int
  | 5 => .array .int
  | 6 => .int
  | 7 => .long
  | 8 => .long
  | 9 => .long
  | _ => .long
abbrev wsX40 : List Cond := u_ws RX4 TX4 11
theorem nmX4 : ∀ a, a < 11 → ∀ b, b < 11 → a ≠ b → (TX4 a).2.1 ≠ (TX4 b).2.1 := by decide +kernel
theorem tyX4_ok : ∀ k, k < 11 → parseFieldDescriptor (TX4 k).2.2.1 = some (tyX4 k) := by decide +kernel
abbrev cX4_init : ByteArray := prog_1_method_1_code
def yX4_init : MethodName := ⟨RX4, "<init>", "()V"⟩
abbrev cX4_addMachine : ByteArray := prog_1_method_2_code
def yX4_addMachine : MethodName := ⟨RX4, "addMachine", "(I)I"⟩
abbrev cX4_setMinutes : ByteArray := prog_1_method_3_code
def yX4_setMinutes : MethodName := ⟨RX4, "setMinutes", "(III)I"⟩
abbrev cX4_setSlot : ByteArray := prog_1_method_4_code
def yX4_setSlot : MethodName := ⟨RX4, "setSlot", "(IIII)I"⟩
abbrev cX4_planPrice : ByteArray := prog_1_method_5_code
def yX4_planPrice : MethodName := ⟨RX4, "planPrice", "(IIII)I"⟩
abbrev cX4_machineCount : ByteArray := prog_1_method_6_code
def yX4_machineCount : MethodName := ⟨RX4, "machineCount", "()I"⟩
abbrev cX4_machine : ByteArray := prog_1_method_8_code
def yX4_machine : MethodName := ⟨RX4, "machine", "(II)I"⟩
abbrev cX4_pass : ByteArray := prog_1_method_10_code
def yX4_pass : MethodName := ⟨RX4, "pass", "(I)I"⟩
abbrev cX4_today : ByteArray := prog_1_method_11_code
def yX4_today : MethodName := ⟨RX4, "today", "()I"⟩
abbrev cX4_drive : ByteArray := prog_1_method_13_code
def yX4_drive : MethodName := ⟨RX4, "drive", "(I)I"⟩
abbrev cX4_visit : ByteArray := prog_1_method_14_code
def yX4_visit : MethodName := ⟨RX4, "visit", "(II)I"⟩
abbrev cX4_minutes : ByteArray := prog_1_method_15_code
def yX4_minutes : MethodName := ⟨RX4, "minutes", "(I)I"⟩
abbrev cX4_best : ByteArray := prog_1_method_16_code
def yX4_best : MethodName := ⟨RX4, "best", "(II)I"⟩
abbrev cX4_go : ByteArray := prog_1_method_17_code
def yX4_go : MethodName := ⟨RX4, "go", "(II)I"⟩
abbrev cX4_total : ByteArray := prog_1_method_18_code
def yX4_total : MethodName := ⟨RX4, "total", "(I)J"⟩
abbrev cX4_outside : ByteArray := prog_1_method_21_code
def yX4_outside : MethodName := ⟨RX4, "outside", "(III)Z"⟩
abbrev cX4_contains : ByteArray := prog_1_method_22_code
def yX4_contains : MethodName := ⟨RX4, "contains", "(II)Z"⟩
abbrev cX4_without : ByteArray := prog_1_method_23_code
def yX4_without : MethodName := ⟨RX4, "without", "(II)I"⟩
abbrev cX4_sumOver : ByteArray := prog_1_method_24_code
def yX4_sumOver : MethodName := ⟨RX4, "sumOver", "(I[I)I"⟩
abbrev cX4_isNoMachine : ByteArray := prog_1_method_27_code
def yX4_isNoMachine : MethodName := ⟨RX4, "isNoMachine", "(I)Z"⟩
abbrev cX4_isNoPlace : ByteArray := prog_1_method_28_code
def yX4_isNoPlace : MethodName := ⟨RX4, "isNoPlace", "(I)Z"⟩
abbrev cX4_machineAt : ByteArray := prog_1_method_29_code
def yX4_machineAt : MethodName := ⟨RX4, "machineAt", "(I)LVendingRounds$Machine;"⟩
abbrev cX4_slotAt : ByteArray := prog_1_method_30_code
def yX4_slotAt : MethodName := ⟨RX4, "slotAt", "(II)LVendingRounds$Slot;"⟩
abbrev cX4_requireSet : ByteArray := prog_1_method_31_code
def yX4_requireSet : MethodName := ⟨RX4, "requireSet", "(I)V"⟩
abbrev cX4_requireLoad : ByteArray := prog_1_method_32_code
def yX4_requireLoad : MethodName := ⟨RX4, "requireLoad", "(I)V"⟩
abbrev cX4_sellEverywhere : ByteArray := prog_1_method_33_code
def yX4_sellEverywhere : MethodName := ⟨RX4, "sellEverywhere", "()I"⟩
abbrev cX4_changePrices : ByteArray := prog_1_method_34_code
def yX4_changePrices : MethodName := ⟨RX4, "changePrices", "()V"⟩
abbrev cX4_survey : ByteArray := prog_1_method_35_code
def yX4_survey : MethodName := ⟨RX4, "survey", "()V"⟩
abbrev cX4_roundTime : ByteArray := prog_1_method_36_code
def yX4_roundTime : MethodName := ⟨RX4, "roundTime", "(I)I"⟩
abbrev cX4_serve : ByteArray := prog_1_method_37_code
def yX4_serve : MethodName := ⟨RX4, "serve", "(LVendingRounds$Machine;I)I"⟩
def RX5 : String := "VendingRoundsModel"
def TX5 : u_T := fun k => match k with
  | _ => ("", "", "", false)
def tyX5 : Nat → FieldType := fun k => match k with
  | _ => .int
abbrev wsX50 : List Cond := u_ws RX5 TX5 0
theorem nmX5 : ∀ a, a < 0 → ∀ b, b < 0 → a ≠ b → (TX5 a).2.1 ≠ (TX5 b).2.1 := by decide +kernel
theorem tyX5_ok : ∀ k, k < 0 → parseFieldDescriptor (TX5 k).2.2.1 = some (tyX5 k) := by decide +kernel
def RJx145de : String := "java/io/Serializable"
def TJx145de : u_T := fun k => match k with
  | _ => ("", "", "", false)
def tyJx145de : Nat → FieldType := fun k => match k with
  | _ => .int
abbrev wsJx145de0 : List Cond := u_ws RJx145de TJx145de 0
theorem nmJx145de : ∀ a, a < 0 → ∀ b, b < 0 → a ≠ b → (TJx145de a).2.1 ≠ (TJx145de b).2.1 := by decide +kernel
theorem tyJx145de_ok : ∀ k, k < 0 → parseFieldDescriptor (TJx145de k).2.2.1 = some (tyJx145de k) := by decide +kernel
def RJx8e188 : String := "java/lang/Cloneable"
def TJx8e188 : u_T := fun k => match k with
  | _ => ("", "", "", false)
def tyJx8e188 : Nat → FieldType := fun k => match k with
  | _ => .int
abbrev wsJx8e1880 : List Cond := u_ws RJx8e188 TJx8e188 0
theorem nmJx8e188 : ∀ a, a < 0 → ∀ b, b < 0 → a ≠ b → (TJx8e188 a).2.1 ≠ (TJx8e188 b).2.1 := by decide +kernel
theorem tyJx8e188_ok : ∀ k, k < 0 → parseFieldDescriptor (TJx8e188 k).2.2.1 = some (tyJx8e188 k) := by decide +kernel
def RJ6 : String := "java/lang/Integer"
def TJ6 : u_T := fun k => match k with
  | _ => ("", "", "", false)
def tyJ6 : Nat → FieldType := fun k => match k with
  | _ => .int
abbrev wsJ60 : List Cond := u_ws RJ6 TJ6 0
theorem nmJ6 : ∀ a, a < 0 → ∀ b, b < 0 → a ≠ b → (TJ6 a).2.1 ≠ (TJ6 b).2.1 := by decide +kernel
theorem tyJ6_ok : ∀ k, k < 0 → parseFieldDescriptor (TJ6 k).2.2.1 = some (tyJ6 k) := by decide +kernel
abbrev cJ6_bitCount_0f7a4 : ByteArray := prog_14_method_49_code
def yJ6_bitCount_0f7a4 : MethodName := ⟨RJ6, "bitCount", "(I)I"⟩
def RJxab1ab : String := "java/lang/Iterable"
def TJxab1ab : u_T := fun k => match k with
  | _ => ("", "", "", false)
def tyJxab1ab : Nat → FieldType := fun k => match k with
  | _ => .int
abbrev wsJxab1ab0 : List Cond := u_ws RJxab1ab TJxab1ab 0
theorem nmJxab1ab : ∀ a, a < 0 → ∀ b, b < 0 → a ≠ b → (TJxab1ab a).2.1 ≠ (TJxab1ab b).2.1 := by decide +kernel
theorem tyJxab1ab_ok : ∀ k, k < 0 → parseFieldDescriptor (TJxab1ab k).2.2.1 = some (tyJxab1ab k) := by decide +kernel
def RJ9 : String := "java/lang/Math"
def TJ9 : u_T := fun k => match k with
  | _ => ("", "", "", false)
def tyJ9 : Nat → FieldType := fun k => match k with
  | _ => .int
abbrev wsJ90 : List Cond := u_ws RJ9 TJ9 0
theorem nmJ9 : ∀ a, a < 0 → ∀ b, b < 0 → a ≠ b → (TJ9 a).2.1 ≠ (TJ9 b).2.1 := by decide +kernel
theorem tyJ9_ok : ∀ k, k < 0 → parseFieldDescriptor (TJ9 k).2.2.1 = some (tyJ9 k) := by decide +kernel
abbrev cJ9_max_7cf53 : ByteArray := prog_16_method_65_code
def yJ9_max_7cf53 : MethodName := ⟨RJ9, "max", "(II)I"⟩
abbrev cJ9_min_7cf53 : ByteArray := prog_16_method_69_code
def yJ9_min_7cf53 : MethodName := ⟨RJ9, "min", "(II)I"⟩
def RJ0 : String := "java/lang/String"
def TJ0 : u_T := fun k => match k with
  | _ => ("", "", "", false)
def tyJ0 : Nat → FieldType := fun k => match k with
  | _ => .int
abbrev wsJ00 : List Cond := u_ws RJ0 TJ0 0
theorem nmJ0 : ∀ a, a < 0 → ∀ b, b < 0 → a ≠ b → (TJ0 a).2.1 ≠ (TJ0 b).2.1 := by decide +kernel
theorem tyJ0_ok : ∀ k, k < 0 → parseFieldDescriptor (TJ0 k).2.2.1 = some (tyJ0 k) := by decide +kernel
def RJ10 : String := "java/lang/System"
def TJ10 : u_T := fun k => match k with
  | _ => ("", "", "", false)
def tyJ10 : Nat → FieldType := fun k => match k with
  | _ => .int
abbrev wsJ100 : List Cond := u_ws RJ10 TJ10 0
theorem nmJ10 : ∀ a, a < 0 → ∀ b, b < 0 → a ≠ b → (TJ10 a).2.1 ≠ (TJ10 b).2.1 := by decide +kernel
theorem tyJ10_ok : ∀ k, k < 0 → parseFieldDescriptor (TJ10 k).2.2.1 = some (tyJ10 k) := by decide +kernel
def RJxa1e45 : String := "java/util/AbstractCollection"
def TJxa1e45 : u_T := fun k => match k with
  | _ => ("", "", "", false)
def tyJxa1e45 : Nat → FieldType := fun k => match k with
  | _ => .int
abbrev wsJxa1e450 : List Cond := u_ws RJxa1e45 TJxa1e45 0
theorem nmJxa1e45 : ∀ a, a < 0 → ∀ b, b < 0 → a ≠ b → (TJxa1e45 a).2.1 ≠ (TJxa1e45 b).2.1 := by decide +kernel
theorem tyJxa1e45_ok : ∀ k, k < 0 → parseFieldDescriptor (TJxa1e45 k).2.2.1 = some (tyJxa1e45 k) := by decide +kernel
abbrev cJxa1e45_init_da8c8 : ByteArray := prog_21_method_1_code
def yJxa1e45_init_da8c8 : MethodName := ⟨RJxa1e45, "<init>", "()V"⟩
def RJxc12de : String := "java/util/AbstractList"
def TJxc12de : u_T := fun k => match k with
  | _ => ("", "", "", false)
def tyJxc12de : Nat → FieldType := fun k => match k with
  | _ => .int
abbrev wsJxc12de0 : List Cond := u_ws RJxc12de TJxc12de 0
theorem nmJxc12de : ∀ a, a < 0 → ∀ b, b < 0 → a ≠ b → (TJxc12de a).2.1 ≠ (TJxc12de b).2.1 := by decide +kernel
theorem tyJxc12de_ok : ∀ k, k < 0 → parseFieldDescriptor (TJxc12de k).2.2.1 = some (tyJxc12de k) := by decide +kernel
abbrev cJxc12de_init_da8c8 : ByteArray := prog_22_method_1_code
def yJxc12de_init_da8c8 : MethodName := ⟨RJxc12de, "<init>", "()V"⟩
def RJx4a65c : String := "java/util/ArrayList"
def TJx4a65c : u_T := fun k => match k with
  | 0 => ("java/util/AbstractList", "modCount", "I", false)
  | 1 => ("java/util/ArrayList", "elementData", "[Ljava/lang/Object;", false)
  | _ => ("java/util/ArrayList", "size", "I", false)
def tyJx4a65c : Nat → FieldType := fun k => match k with
  | 0 => .int
  | 1 => .array (.object "java/lang/Object")
  | _ => .int
abbrev wsJx4a65c0 : List Cond := u_ws RJx4a65c TJx4a65c 3
theorem nmJx4a65c : ∀ a, a < 3 → ∀ b, b < 3 → a ≠ b → (TJx4a65c a).2.1 ≠ (TJx4a65c b).2.1 := by decide +kernel
theorem tyJx4a65c_ok : ∀ k, k < 3 → parseFieldDescriptor (TJx4a65c k).2.2.1 = some (tyJx4a65c k) := by decide +kernel
abbrev cJx4a65c_init_da8c8 : ByteArray := prog_23_method_2_code
def yJx4a65c_init_da8c8 : MethodName := ⟨RJx4a65c, "<init>", "()V"⟩
abbrev cJx4a65c_grow_92f84 : ByteArray := prog_23_method_6_code
def yJx4a65c_grow_92f84 : MethodName := ⟨RJx4a65c, "grow", "(I)[Ljava/lang/Object;"⟩
abbrev cJx4a65c_grow_d5877 : ByteArray := prog_23_method_7_code
def yJx4a65c_grow_d5877 : MethodName := ⟨RJx4a65c, "grow", "()[Ljava/lang/Object;"⟩
abbrev cJx4a65c_size_8abf5 : ByteArray := prog_23_method_8_code
def yJx4a65c_size_8abf5 : MethodName := ⟨RJx4a65c, "size", "()I"⟩
abbrev cJx4a65c_elementData_915e3 : ByteArray := prog_23_method_18_code
def yJx4a65c_elementData_915e3 : MethodName := ⟨RJx4a65c, "elementData", "(I)Ljava/lang/Object;"⟩
abbrev cJx4a65c_get_915e3 : ByteArray := prog_23_method_20_code
def yJx4a65c_get_915e3 : MethodName := ⟨RJx4a65c, "get", "(I)Ljava/lang/Object;"⟩
abbrev cJx4a65c_add_72be8 : ByteArray := prog_23_method_24_code
def yJx4a65c_add_72be8 : MethodName := ⟨RJx4a65c, "add", "(Ljava/lang/Object;[Ljava/lang/Object;I)V"⟩
abbrev cJx4a65c_add_9ea2d : ByteArray := prog_23_method_25_code
def yJx4a65c_add_9ea2d : MethodName := ⟨RJx4a65c, "add", "(Ljava/lang/Object;)Z"⟩
abbrev cJx4a65c_remove_915e3 : ByteArray := prog_23_method_29_code
def yJx4a65c_remove_915e3 : MethodName := ⟨RJx4a65c, "remove", "(I)Ljava/lang/Object;"⟩
abbrev cJx4a65c_fastRemove_b59b0 : ByteArray := prog_23_method_39_code
def yJx4a65c_fastRemove_b59b0 : MethodName := ⟨RJx4a65c, "fastRemove", "([Ljava/lang/Object;I)V"⟩
def RJ7 : String := "java/util/Arrays"
def TJ7 : u_T := fun k => match k with
  | _ => ("", "", "", false)
def tyJ7 : Nat → FieldType := fun k => match k with
  | _ => .int
abbrev wsJ70 : List Cond := u_ws RJ7 TJ7 0
theorem nmJ7 : ∀ a, a < 0 → ∀ b, b < 0 → a ≠ b → (TJ7 a).2.1 ≠ (TJ7 b).2.1 := by decide +kernel
theorem tyJ7_ok : ∀ k, k < 0 → parseFieldDescriptor (TJ7 k).2.2.1 = some (tyJ7 k) := by decide +kernel
abbrev cJ7_copyOf_1904c : ByteArray := prog_24_method_119_code
def yJ7_copyOf_1904c : MethodName := ⟨RJ7, "copyOf", "([Ljava/lang/Object;I)[Ljava/lang/Object;"⟩
abbrev cJ7_copyOf_6403c : ByteArray := prog_24_method_120_code
def yJ7_copyOf_6403c : MethodName := ⟨RJ7, "copyOf", "([Ljava/lang/Object;ILjava/lang/Class;)[Ljava/lang/Object;"⟩
def RJx5ef63 : String := "java/util/Collection"
def TJx5ef63 : u_T := fun k => match k with
  | _ => ("", "", "", false)
def tyJx5ef63 : Nat → FieldType := fun k => match k with
  | _ => .int
abbrev wsJx5ef630 : List Cond := u_ws RJx5ef63 TJx5ef63 0
theorem nmJx5ef63 : ∀ a, a < 0 → ∀ b, b < 0 → a ≠ b → (TJx5ef63 a).2.1 ≠ (TJx5ef63 b).2.1 := by decide +kernel
theorem tyJx5ef63_ok : ∀ k, k < 0 → parseFieldDescriptor (TJx5ef63 k).2.2.1 = some (tyJx5ef63 k) := by decide +kernel
def RJxbd725 : String := "java/util/List"
def TJxbd725 : u_T := fun k => match k with
  | _ => ("", "", "", false)
def tyJxbd725 : Nat → FieldType := fun k => match k with
  | _ => .int
abbrev wsJxbd7250 : List Cond := u_ws RJxbd725 TJxbd725 0
theorem nmJxbd725 : ∀ a, a < 0 → ∀ b, b < 0 → a ≠ b → (TJxbd725 a).2.1 ≠ (TJxbd725 b).2.1 := by decide +kernel
theorem tyJxbd725_ok : ∀ k, k < 0 → parseFieldDescriptor (TJxbd725 k).2.2.1 = some (tyJxbd725 k) := by decide +kernel
def RJ15 : String := "java/util/Objects"
def TJ15 : u_T := fun k => match k with
  | _ => ("", "", "", false)
def tyJ15 : Nat → FieldType := fun k => match k with
  | _ => .int
abbrev wsJ150 : List Cond := u_ws RJ15 TJ15 0
theorem nmJ15 : ∀ a, a < 0 → ∀ b, b < 0 → a ≠ b → (TJ15 a).2.1 ≠ (TJ15 b).2.1 := by decide +kernel
theorem tyJ15_ok : ∀ k, k < 0 → parseFieldDescriptor (TJ15 k).2.2.1 = some (tyJ15 k) := by decide +kernel
abbrev cJ15_checkIndex_7cf53 : ByteArray := prog_27_method_17_code
def yJ15_checkIndex_7cf53 : MethodName := ⟨RJ15, "checkIndex", "(II)I"⟩
def RJxf0a74 : String := "java/util/RandomAccess"
def TJxf0a74 : u_T := fun k => match k with
  | _ => ("", "", "", false)
def tyJxf0a74 : Nat → FieldType := fun k => match k with
  | _ => .int
abbrev wsJxf0a740 : List Cond := u_ws RJxf0a74 TJxf0a74 0
theorem nmJxf0a74 : ∀ a, a < 0 → ∀ b, b < 0 → a ≠ b → (TJxf0a74 a).2.1 ≠ (TJxf0a74 b).2.1 := by decide +kernel
theorem tyJxf0a74_ok : ∀ k, k < 0 → parseFieldDescriptor (TJxf0a74 k).2.2.1 = some (tyJxf0a74 k) := by decide +kernel
def RJxa66e6 : String := "java/util/SequencedCollection"
def TJxa66e6 : u_T := fun k => match k with
  | _ => ("", "", "", false)
def tyJxa66e6 : Nat → FieldType := fun k => match k with
  | _ => .int
abbrev wsJxa66e60 : List Cond := u_ws RJxa66e6 TJxa66e6 0
theorem nmJxa66e6 : ∀ a, a < 0 → ∀ b, b < 0 → a ≠ b → (TJxa66e6 a).2.1 ≠ (TJxa66e6 b).2.1 := by decide +kernel
theorem tyJxa66e6_ok : ∀ k, k < 0 → parseFieldDescriptor (TJxa66e6 k).2.2.1 = some (tyJxa66e6 k) := by decide +kernel
def RJ8 : String := "jdk/internal/util/ArraysSupport"
def TJ8 : u_T := fun k => match k with
  | _ => ("", "", "", false)
def tyJ8 : Nat → FieldType := fun k => match k with
  | _ => .int
abbrev wsJ80 : List Cond := u_ws RJ8 TJ8 0
theorem nmJ8 : ∀ a, a < 0 → ∀ b, b < 0 → a ≠ b → (TJ8 a).2.1 ≠ (TJ8 b).2.1 := by decide +kernel
theorem tyJ8_ok : ∀ k, k < 0 → parseFieldDescriptor (TJ8 k).2.2.1 = some (tyJ8 k) := by decide +kernel
abbrev cJ8_newLength_cabcc : ByteArray := prog_30_method_27_code
def yJ8_newLength_cabcc : MethodName := ⟨RJ8, "newLength", "(III)I"⟩
abbrev cJ8_hugeLength_7cf53 : ByteArray := prog_30_method_28_code
def yJ8_hugeLength_7cf53 : MethodName := ⟨RJ8, "hugeLength", "(II)I"⟩
def RJ3 : String := "jdk/internal/util/Preconditions"
def TJ3 : u_T := fun k => match k with
  | _ => ("", "", "", false)
def tyJ3 : Nat → FieldType := fun k => match k with
  | _ => .int
abbrev wsJ30 : List Cond := u_ws RJ3 TJ3 0
theorem nmJ3 : ∀ a, a < 0 → ∀ b, b < 0 → a ≠ b → (TJ3 a).2.1 ≠ (TJ3 b).2.1 := by decide +kernel
theorem tyJ3_ok : ∀ k, k < 0 → parseFieldDescriptor (TJ3 k).2.2.1 = some (tyJ3 k) := by decide +kernel
abbrev cJ3_checkIndex_8e157 : ByteArray := prog_31_method_11_code
def yJ3_checkIndex_8e157 : MethodName := ⟨RJ3, "checkIndex", "(IILjava/util/function/BiFunction;)I"⟩
def RL : String := "VendingRoundsLaw"
abbrev cL_below : ByteArray := method_2_code
def yL_below : MethodName := ⟨RL, "below", "(II)I"⟩
abbrev cL_cell : ByteArray := method_3_code
def yL_cell : MethodName := ⟨RL, "cell", "([II)I"⟩
abbrev cL_build : ByteArray := method_4_code
def yL_build : MethodName := ⟨RL, "build", "(LVendingRounds;[III[I[I[I)I"⟩
abbrev cL_law : ByteArray := code
def yL_law : MethodName := ⟨RL, "law", "([I)Z"⟩
theorem dX0_init_0 : decode cX0_init 0 = .ok (.aload_n 0, 1) := by decide +kernel
theorem dX0_init_1 : decode cX0_init 1 = .ok (.invokespecial 3, 3) := by decide +kernel
theorem dX0_init_4 : decode cX0_init 4 = .ok (.aload_n 0, 1) := by decide +kernel
theorem dX0_init_5 : decode cX0_init 5 = .ok (.bipush 6, 2) := by decide +kernel
theorem dX0_init_7 : decode cX0_init 7 = .ok (.anewarray 9, 3) := by decide +kernel
theorem dX0_init_10 : decode cX0_init 10 = .ok (.putfield 11, 3) := by decide +kernel
theorem dX0_init_13 : decode cX0_init 13 = .ok (.aload_n 0, 1) := by decide +kernel
theorem dX0_init_14 : decode cX0_init 14 = .ok (.iload_n 1, 1) := by decide +kernel
theorem dX0_init_15 : decode cX0_init 15 = .ok (.putfield 17, 3) := by decide +kernel
theorem dX0_init_18 : decode cX0_init 18 = .ok (.iconst 0, 1) := by decide +kernel
theorem dX0_init_19 : decode cX0_init 19 = .ok (.istore_n 2, 1) := by decide +kernel
theorem dX0_init_20 : decode cX0_init 20 = .ok (.iload_n 2, 1) := by decide +kernel
theorem dX0_init_21 : decode cX0_init 21 = .ok (.bipush 6, 2) := by decide +kernel
theorem dX0_init_23 : decode cX0_init 23 = .ok (.if_icmp .ge 22, 3) := by decide +kernel
theorem dX0_init_26 : decode cX0_init 26 = .ok (.aload_n 0, 1) := by decide +kernel
theorem dX0_init_27 : decode cX0_init 27 = .ok (.getfield 11, 3) := by decide +kernel
theorem dX0_init_30 : decode cX0_init 30 = .ok (.iload_n 2, 1) := by decide +kernel
theorem dX0_init_31 : decode cX0_init 31 = .ok (.new 9, 3) := by decide +kernel
theorem dX0_init_34 : decode cX0_init 34 = .ok (.dup, 1) := by decide +kernel
theorem dX0_init_35 : decode cX0_init 35 = .ok (.invokespecial 21, 3) := by decide +kernel
theorem dX0_init_38 : decode cX0_init 38 = .ok (.aastore, 1) := by decide +kernel
theorem dX0_init_39 : decode cX0_init 39 = .ok (.iinc 2 1, 3) := by decide +kernel
theorem dX0_init_42 : decode cX0_init 42 = .ok (.goto (-22), 3) := by decide +kernel
theorem dX0_init_45 : decode cX0_init 45 = .ok (.return_, 1) := by decide +kernel
theorem dX0_lacking_0 : decode cX0_lacking 0 = .ok (.iconst 0, 1) := by decide +kernel
theorem dX0_lacking_1 : decode cX0_lacking 1 = .ok (.istore_n 1, 1) := by decide +kernel
theorem dX0_lacking_2 : decode cX0_lacking 2 = .ok (.iconst 0, 1) := by decide +kernel
theorem dX0_lacking_3 : decode cX0_lacking 3 = .ok (.istore_n 2, 1) := by decide +kernel
theorem dX0_lacking_4 : decode cX0_lacking 4 = .ok (.iload_n 2, 1) := by decide +kernel
theorem dX0_lacking_5 : decode cX0_lacking 5 = .ok (.bipush 6, 2) := by decide +kernel
theorem dX0_lacking_7 : decode cX0_lacking 7 = .ok (.if_icmp .ge 21, 3) := by decide +kernel
theorem dX0_lacking_10 : decode cX0_lacking 10 = .ok (.iload_n 1, 1) := by decide +kernel
theorem dX0_lacking_11 : decode cX0_lacking 11 = .ok (.aload_n 0, 1) := by decide +kernel
theorem dX0_lacking_12 : decode cX0_lacking 12 = .ok (.getfield 11, 3) := by decide +kernel
theorem dX0_lacking_15 : decode cX0_lacking 15 = .ok (.iload_n 2, 1) := by decide +kernel
theorem dX0_lacking_16 : decode cX0_lacking 16 = .ok (.aaload, 1) := by decide +kernel
theorem dX0_lacking_17 : decode cX0_lacking 17 = .ok (.invokevirtual 22, 3) := by decide +kernel
theorem dX0_lacking_20 : decode cX0_lacking 20 = .ok (.iadd, 1) := by decide +kernel
theorem dX0_lacking_21 : decode cX0_lacking 21 = .ok (.istore_n 1, 1) := by decide +kernel
theorem dX0_lacking_22 : decode cX0_lacking 22 = .ok (.iinc 2 1, 3) := by decide +kernel
theorem dX0_lacking_25 : decode cX0_lacking 25 = .ok (.goto (-21), 3) := by decide +kernel
theorem dX0_lacking_28 : decode cX0_lacking 28 = .ok (.iload_n 1, 1) := by decide +kernel
theorem dX0_lacking_29 : decode cX0_lacking 29 = .ok (.ireturn, 1) := by decide +kernel
theorem dX0_gain_0 : decode cX0_gain 0 = .ok (.aload_n 0, 1) := by decide +kernel
theorem dX0_gain_1 : decode cX0_gain 1 = .ok (.getfield 26, 3) := by decide +kernel
theorem dX0_gain_4 : decode cX0_gain 4 = .ok (.istore_n 1, 1) := by decide +kernel
theorem dX0_gain_5 : decode cX0_gain 5 = .ok (.iconst 0, 1) := by decide +kernel
theorem dX0_gain_6 : decode cX0_gain 6 = .ok (.istore_n 2, 1) := by decide +kernel
theorem dX0_gain_7 : decode cX0_gain 7 = .ok (.iload_n 2, 1) := by decide +kernel
theorem dX0_gain_8 : decode cX0_gain 8 = .ok (.bipush 6, 2) := by decide +kernel
theorem dX0_gain_10 : decode cX0_gain 10 = .ok (.if_icmp .ge 31, 3) := by decide +kernel
theorem dX0_gain_13 : decode cX0_gain 13 = .ok (.iload_n 1, 1) := by decide +kernel
theorem dX0_gain_14 : decode cX0_gain 14 = .ok (.aload_n 0, 1) := by decide +kernel
theorem dX0_gain_15 : decode cX0_gain 15 = .ok (.getfield 11, 3) := by decide +kernel
theorem dX0_gain_18 : decode cX0_gain 18 = .ok (.iload_n 2, 1) := by decide +kernel
theorem dX0_gain_19 : decode cX0_gain 19 = .ok (.aaload, 1) := by decide +kernel
theorem dX0_gain_20 : decode cX0_gain 20 = .ok (.getfield 29, 3) := by decide +kernel
theorem dX0_gain_23 : decode cX0_gain 23 = .ok (.aload_n 0, 1) := by decide +kernel
theorem dX0_gain_24 : decode cX0_gain 24 = .ok (.getfield 11, 3) := by decide +kernel
theorem dX0_gain_27 : decode cX0_gain 27 = .ok (.iload_n 2, 1) := by decide +kernel
theorem dX0_gain_28 : decode cX0_gain 28 = .ok (.aaload, 1) := by decide +kernel
theorem dX0_gain_29 : decode cX0_gain 29 = .ok (.invokevirtual 22, 3) := by decide +kernel
theorem dX0_gain_32 : decode cX0_gain 32 = .ok (.imul, 1) := by decide +kernel
theorem dX0_gain_33 : decode cX0_gain 33 = .ok (.iadd, 1) := by decide +kernel
theorem dX0_gain_34 : decode cX0_gain 34 = .ok (.istore_n 1, 1) := by decide +kernel
theorem dX0_gain_35 : decode cX0_gain 35 = .ok (.iinc 2 1, 3) := by decide +kernel
theorem dX0_gain_38 : decode cX0_gain 38 = .ok (.goto (-31), 3) := by decide +kernel
theorem dX0_gain_41 : decode cX0_gain 41 = .ok (.iload_n 1, 1) := by decide +kernel
theorem dX0_gain_42 : decode cX0_gain 42 = .ok (.ireturn, 1) := by decide +kernel
theorem dX0_visitTime_0 : decode cX0_visitTime 0 = .ok (.iconst 3, 1) := by decide +kernel
theorem dX0_visitTime_1 : decode cX0_visitTime 1 = .ok (.aload_n 0, 1) := by decide +kernel
theorem dX0_visitTime_2 : decode cX0_visitTime 2 = .ok (.invokevirtual 32, 3) := by decide +kernel
theorem dX0_visitTime_5 : decode cX0_visitTime 5 = .ok (.iconst 4, 1) := by decide +kernel
theorem dX0_visitTime_6 : decode cX0_visitTime 6 = .ok (.iadd, 1) := by decide +kernel
theorem dX0_visitTime_7 : decode cX0_visitTime 7 = .ok (.iconst 5, 1) := by decide +kernel
theorem dX0_visitTime_8 : decode cX0_visitTime 8 = .ok (.idiv, 1) := by decide +kernel
theorem dX0_visitTime_9 : decode cX0_visitTime 9 = .ok (.iadd, 1) := by decide +kernel
theorem dX0_visitTime_10 : decode cX0_visitTime 10 = .ok (.ireturn, 1) := by decide +kernel
theorem dX0_fact_0 : decode cX0_fact 0 = .ok (.iload_n 1, 1) := by decide +kernel
theorem dX0_fact_1 : decode cX0_fact 1 = .ok (.tableswitch 51 0 3 #[31, 36, 41, 46], 31) := by decide +kernel
theorem dX0_fact_32 : decode cX0_fact 32 = .ok (.aload_n 0, 1) := by decide +kernel
theorem dX0_fact_33 : decode cX0_fact 33 = .ok (.getfield 26, 3) := by decide +kernel
theorem dX0_fact_36 : decode cX0_fact 36 = .ok (.ireturn, 1) := by decide +kernel
theorem dX0_fact_37 : decode cX0_fact 37 = .ok (.aload_n 0, 1) := by decide +kernel
theorem dX0_fact_38 : decode cX0_fact 38 = .ok (.getfield 17, 3) := by decide +kernel
theorem dX0_fact_41 : decode cX0_fact 41 = .ok (.ireturn, 1) := by decide +kernel
theorem dX0_fact_42 : decode cX0_fact 42 = .ok (.aload_n 0, 1) := by decide +kernel
theorem dX0_fact_43 : decode cX0_fact 43 = .ok (.invokevirtual 32, 3) := by decide +kernel
theorem dX0_fact_46 : decode cX0_fact 46 = .ok (.ireturn, 1) := by decide +kernel
theorem dX0_fact_47 : decode cX0_fact 47 = .ok (.aload_n 0, 1) := by decide +kernel
theorem dX0_fact_48 : decode cX0_fact 48 = .ok (.invokevirtual 33, 3) := by decide +kernel
theorem dX0_fact_51 : decode cX0_fact 51 = .ok (.ireturn, 1) := by decide +kernel
theorem dX0_fact_52 : decode cX0_fact 52 = .ok (.aload_n 0, 1) := by decide +kernel
theorem dX0_fact_53 : decode cX0_fact 53 = .ok (.getfield 36, 3) := by decide +kernel
theorem dX0_fact_56 : decode cX0_fact 56 = .ok (.ireturn, 1) := by decide +kernel
theorem dX0_sellForADay_0 : decode cX0_sellForADay 0 = .ok (.iconst 0, 1) := by decide +kernel
theorem dX0_sellForADay_1 : decode cX0_sellForADay 1 = .ok (.istore_n 1, 1) := by decide +kernel
theorem dX0_sellForADay_2 : decode cX0_sellForADay 2 = .ok (.iconst 0, 1) := by decide +kernel
theorem dX0_sellForADay_3 : decode cX0_sellForADay 3 = .ok (.istore_n 2, 1) := by decide +kernel
theorem dX0_sellForADay_4 : decode cX0_sellForADay 4 = .ok (.iload_n 2, 1) := by decide +kernel
theorem dX0_sellForADay_5 : decode cX0_sellForADay 5 = .ok (.bipush 6, 2) := by decide +kernel
theorem dX0_sellForADay_7 : decode cX0_sellForADay 7 = .ok (.if_icmp .ge 22, 3) := by decide +kernel
theorem dX0_sellForADay_10 : decode cX0_sellForADay 10 = .ok (.iload_n 1, 1) := by decide +kernel
theorem dX0_sellForADay_11 : decode cX0_sellForADay 11 = .ok (.aload_n 0, 1) := by decide +kernel
theorem dX0_sellForADay_12 : decode cX0_sellForADay 12 = .ok (.aload_n 0, 1) := by decide +kernel
theorem dX0_sellForADay_13 : decode cX0_sellForADay 13 = .ok (.getfield 11, 3) := by decide +kernel
theorem dX0_sellForADay_16 : decode cX0_sellForADay 16 = .ok (.iload_n 2, 1) := by decide +kernel
theorem dX0_sellForADay_17 : decode cX0_sellForADay 17 = .ok (.aaload, 1) := by decide +kernel
theorem dX0_sellForADay_18 : decode cX0_sellForADay 18 = .ok (.invokevirtual 39, 3) := by decide +kernel
theorem dX0_sellForADay_21 : decode cX0_sellForADay 21 = .ok (.iadd, 1) := by decide +kernel
theorem dX0_sellForADay_22 : decode cX0_sellForADay 22 = .ok (.istore_n 1, 1) := by decide +kernel
theorem dX0_sellForADay_23 : decode cX0_sellForADay 23 = .ok (.iinc 2 1, 3) := by decide +kernel
theorem dX0_sellForADay_26 : decode cX0_sellForADay 26 = .ok (.goto (-22), 3) := by decide +kernel
theorem dX0_sellForADay_29 : decode cX0_sellForADay 29 = .ok (.iload_n 1, 1) := by decide +kernel
theorem dX0_sellForADay_30 : decode cX0_sellForADay 30 = .ok (.ireturn, 1) := by decide +kernel
theorem dX0_sellFrom_0 : decode cX0_sellFrom 0 = .ok (.iconst 0, 1) := by decide +kernel
theorem dX0_sellFrom_1 : decode cX0_sellFrom 1 = .ok (.istore_n 2, 1) := by decide +kernel
theorem dX0_sellFrom_2 : decode cX0_sellFrom 2 = .ok (.iconst 0, 1) := by decide +kernel
theorem dX0_sellFrom_3 : decode cX0_sellFrom 3 = .ok (.istore_n 3, 1) := by decide +kernel
theorem dX0_sellFrom_4 : decode cX0_sellFrom 4 = .ok (.iload_n 3, 1) := by decide +kernel
theorem dX0_sellFrom_5 : decode cX0_sellFrom 5 = .ok (.aload_n 1, 1) := by decide +kernel
theorem dX0_sellFrom_6 : decode cX0_sellFrom 6 = .ok (.getfield 43, 3) := by decide +kernel
theorem dX0_sellFrom_9 : decode cX0_sellFrom 9 = .ok (.if_icmp .ge 58, 3) := by decide +kernel
theorem dX0_sellFrom_12 : decode cX0_sellFrom 12 = .ok (.aload_n 1, 1) := by decide +kernel
theorem dX0_sellFrom_13 : decode cX0_sellFrom 13 = .ok (.getfield 46, 3) := by decide +kernel
theorem dX0_sellFrom_16 : decode cX0_sellFrom 16 = .ok (.ifCond .le 45, 3) := by decide +kernel
theorem dX0_sellFrom_19 : decode cX0_sellFrom 19 = .ok (.aload_n 0, 1) := by decide +kernel
theorem dX0_sellFrom_20 : decode cX0_sellFrom 20 = .ok (.getfield 26, 3) := by decide +kernel
theorem dX0_sellFrom_23 : decode cX0_sellFrom 23 = .ok (.aload_n 1, 1) := by decide +kernel
theorem dX0_sellFrom_24 : decode cX0_sellFrom 24 = .ok (.getfield 29, 3) := by decide +kernel
theorem dX0_sellFrom_27 : decode cX0_sellFrom 27 = .ok (.iadd, 1) := by decide +kernel
theorem dX0_sellFrom_28 : decode cX0_sellFrom 28 = .ok (.aload_n 0, 1) := by decide +kernel
theorem dX0_sellFrom_29 : decode cX0_sellFrom 29 = .ok (.getfield 17, 3) := by decide +kernel
theorem dX0_sellFrom_32 : decode cX0_sellFrom 32 = .ok (.if_icmp .gt 29, 3) := by decide +kernel
theorem dX0_sellFrom_35 : decode cX0_sellFrom 35 = .ok (.aload_n 1, 1) := by decide +kernel
theorem dX0_sellFrom_36 : decode cX0_sellFrom 36 = .ok (.dup, 1) := by decide +kernel
theorem dX0_sellFrom_37 : decode cX0_sellFrom 37 = .ok (.getfield 46, 3) := by decide +kernel
theorem dX0_sellFrom_40 : decode cX0_sellFrom 40 = .ok (.iconst 1, 1) := by decide +kernel
theorem dX0_sellFrom_41 : decode cX0_sellFrom 41 = .ok (.isub, 1) := by decide +kernel
theorem dX0_sellFrom_42 : decode cX0_sellFrom 42 = .ok (.putfield 46, 3) := by decide +kernel
theorem dX0_sellFrom_45 : decode cX0_sellFrom 45 = .ok (.aload_n 0, 1) := by decide +kernel
theorem dX0_sellFrom_46 : decode cX0_sellFrom 46 = .ok (.dup, 1) := by decide +kernel
theorem dX0_sellFrom_47 : decode cX0_sellFrom 47 = .ok (.getfield 26, 3) := by decide +kernel
theorem dX0_sellFrom_50 : decode cX0_sellFrom 50 = .ok (.aload_n 1, 1) := by decide +kernel
theorem dX0_sellFrom_51 : decode cX0_sellFrom 51 = .ok (.getfield 29, 3) := by decide +kernel
theorem dX0_sellFrom_54 : decode cX0_sellFrom 54 = .ok (.iadd, 1) := by decide +kernel
theorem dX0_sellFrom_55 : decode cX0_sellFrom 55 = .ok (.putfield 26, 3) := by decide +kernel
theorem dX0_sellFrom_58 : decode cX0_sellFrom 58 = .ok (.iinc 2 1, 3) := by decide +kernel
theorem dX0_sellFrom_61 : decode cX0_sellFrom 61 = .ok (.iinc 3 1, 3) := by decide +kernel
theorem dX0_sellFrom_64 : decode cX0_sellFrom 64 = .ok (.goto (-60), 3) := by decide +kernel
theorem dX0_sellFrom_67 : decode cX0_sellFrom 67 = .ok (.aload_n 1, 1) := by decide +kernel
theorem dX0_sellFrom_68 : decode cX0_sellFrom 68 = .ok (.dup, 1) := by decide +kernel
theorem dX0_sellFrom_69 : decode cX0_sellFrom 69 = .ok (.getfield 49, 3) := by decide +kernel
theorem dX0_sellFrom_72 : decode cX0_sellFrom 72 = .ok (.iload_n 2, 1) := by decide +kernel
theorem dX0_sellFrom_73 : decode cX0_sellFrom 73 = .ok (.iadd, 1) := by decide +kernel
theorem dX0_sellFrom_74 : decode cX0_sellFrom 74 = .ok (.putfield 49, 3) := by decide +kernel
theorem dX0_sellFrom_77 : decode cX0_sellFrom 77 = .ok (.aload_n 1, 1) := by decide +kernel
theorem dX0_sellFrom_78 : decode cX0_sellFrom 78 = .ok (.dup, 1) := by decide +kernel
theorem dX0_sellFrom_79 : decode cX0_sellFrom 79 = .ok (.getfield 52, 3) := by decide +kernel
theorem dX0_sellFrom_82 : decode cX0_sellFrom 82 = .ok (.aload_n 1, 1) := by decide +kernel
theorem dX0_sellFrom_83 : decode cX0_sellFrom 83 = .ok (.getfield 43, 3) := by decide +kernel
theorem dX0_sellFrom_86 : decode cX0_sellFrom 86 = .ok (.iload_n 2, 1) := by decide +kernel
theorem dX0_sellFrom_87 : decode cX0_sellFrom 87 = .ok (.isub, 1) := by decide +kernel
theorem dX0_sellFrom_88 : decode cX0_sellFrom 88 = .ok (.iadd, 1) := by decide +kernel
theorem dX0_sellFrom_89 : decode cX0_sellFrom 89 = .ok (.putfield 52, 3) := by decide +kernel
theorem dX0_sellFrom_92 : decode cX0_sellFrom 92 = .ok (.iload_n 2, 1) := by decide +kernel
theorem dX0_sellFrom_93 : decode cX0_sellFrom 93 = .ok (.ireturn, 1) := by decide +kernel
theorem dX0_emptyBox_0 : decode cX0_emptyBox 0 = .ok (.aload_n 0, 1) := by decide +kernel
theorem dX0_emptyBox_1 : decode cX0_emptyBox 1 = .ok (.getfield 26, 3) := by decide +kernel
theorem dX0_emptyBox_4 : decode cX0_emptyBox 4 = .ok (.istore_n 1, 1) := by decide +kernel
theorem dX0_emptyBox_5 : decode cX0_emptyBox 5 = .ok (.aload_n 0, 1) := by decide +kernel
theorem dX0_emptyBox_6 : decode cX0_emptyBox 6 = .ok (.iconst 0, 1) := by decide +kernel
theorem dX0_emptyBox_7 : decode cX0_emptyBox 7 = .ok (.putfield 26, 3) := by decide +kernel
theorem dX0_emptyBox_10 : decode cX0_emptyBox 10 = .ok (.iload_n 1, 1) := by decide +kernel
theorem dX0_emptyBox_11 : decode cX0_emptyBox 11 = .ok (.ireturn, 1) := by decide +kernel
theorem dX0_fillUp_0 : decode cX0_fillUp 0 = .ok (.iload_n 1, 1) := by decide +kernel
theorem dX0_fillUp_1 : decode cX0_fillUp 1 = .ok (.istore_n 2, 1) := by decide +kernel
theorem dX0_fillUp_2 : decode cX0_fillUp 2 = .ok (.iconst 0, 1) := by decide +kernel
theorem dX0_fillUp_3 : decode cX0_fillUp 3 = .ok (.istore_n 3, 1) := by decide +kernel
theorem dX0_fillUp_4 : decode cX0_fillUp 4 = .ok (.iload_n 3, 1) := by decide +kernel
theorem dX0_fillUp_5 : decode cX0_fillUp 5 = .ok (.bipush 6, 2) := by decide +kernel
theorem dX0_fillUp_7 : decode cX0_fillUp 7 = .ok (.if_icmp .ge 45, 3) := by decide +kernel
theorem dX0_fillUp_10 : decode cX0_fillUp 10 = .ok (.iload_n 2, 1) := by decide +kernel
theorem dX0_fillUp_11 : decode cX0_fillUp 11 = .ok (.aload_n 0, 1) := by decide +kernel
theorem dX0_fillUp_12 : decode cX0_fillUp 12 = .ok (.getfield 11, 3) := by decide +kernel
theorem dX0_fillUp_15 : decode cX0_fillUp 15 = .ok (.iload_n 3, 1) := by decide +kernel
theorem dX0_fillUp_16 : decode cX0_fillUp 16 = .ok (.aaload, 1) := by decide +kernel
theorem dX0_fillUp_17 : decode cX0_fillUp 17 = .ok (.invokevirtual 22, 3) := by decide +kernel
theorem dX0_fillUp_20 : decode cX0_fillUp 20 = .ok (.invokestatic 55, 3) := by decide +kernel
theorem dX0_fillUp_23 : decode cX0_fillUp 23 = .ok (.istore 4, 2) := by decide +kernel
theorem dX0_fillUp_25 : decode cX0_fillUp 25 = .ok (.aload_n 0, 1) := by decide +kernel
theorem dX0_fillUp_26 : decode cX0_fillUp 26 = .ok (.getfield 11, 3) := by decide +kernel
theorem dX0_fillUp_29 : decode cX0_fillUp 29 = .ok (.iload_n 3, 1) := by decide +kernel
theorem dX0_fillUp_30 : decode cX0_fillUp 30 = .ok (.aaload, 1) := by decide +kernel
theorem dX0_fillUp_31 : decode cX0_fillUp 31 = .ok (.dup, 1) := by decide +kernel
theorem dX0_fillUp_32 : decode cX0_fillUp 32 = .ok (.getfield 46, 3) := by decide +kernel
theorem dX0_fillUp_35 : decode cX0_fillUp 35 = .ok (.iload 4, 2) := by decide +kernel
theorem dX0_fillUp_37 : decode cX0_fillUp 37 = .ok (.iadd, 1) := by decide +kernel
theorem dX0_fillUp_38 : decode cX0_fillUp 38 = .ok (.putfield 46, 3) := by decide +kernel
theorem dX0_fillUp_41 : decode cX0_fillUp 41 = .ok (.iload_n 2, 1) := by decide +kernel
theorem dX0_fillUp_42 : decode cX0_fillUp 42 = .ok (.iload 4, 2) := by decide +kernel
theorem dX0_fillUp_44 : decode cX0_fillUp 44 = .ok (.isub, 1) := by decide +kernel
theorem dX0_fillUp_45 : decode cX0_fillUp 45 = .ok (.istore_n 2, 1) := by decide +kernel
theorem dX0_fillUp_46 : decode cX0_fillUp 46 = .ok (.iinc 3 1, 3) := by decide +kernel
theorem dX0_fillUp_49 : decode cX0_fillUp 49 = .ok (.goto (-45), 3) := by decide +kernel
theorem dX0_fillUp_52 : decode cX0_fillUp 52 = .ok (.iload_n 1, 1) := by decide +kernel
theorem dX0_fillUp_53 : decode cX0_fillUp 53 = .ok (.iload_n 2, 1) := by decide +kernel
theorem dX0_fillUp_54 : decode cX0_fillUp 54 = .ok (.isub, 1) := by decide +kernel
theorem dX0_fillUp_55 : decode cX0_fillUp 55 = .ok (.ireturn, 1) := by decide +kernel
theorem dX1_init_0 : decode cX1_init 0 = .ok (.aload_n 0, 1) := by decide +kernel
theorem dX1_init_1 : decode cX1_init 1 = .ok (.invokespecial 1, 3) := by decide +kernel
theorem dX1_init_4 : decode cX1_init 4 = .ok (.aload_n 0, 1) := by decide +kernel
theorem dX1_init_5 : decode cX1_init 5 = .ok (.aload_n 1, 1) := by decide +kernel
theorem dX1_init_6 : decode cX1_init 6 = .ok (.putfield 7, 3) := by decide +kernel
theorem dX1_init_9 : decode cX1_init 9 = .ok (.aload_n 0, 1) := by decide +kernel
theorem dX1_init_10 : decode cX1_init 10 = .ok (.iload_n 2, 1) := by decide +kernel
theorem dX1_init_11 : decode cX1_init 11 = .ok (.putfield 13, 3) := by decide +kernel
theorem dX1_init_14 : decode cX1_init 14 = .ok (.aload_n 0, 1) := by decide +kernel
theorem dX1_init_15 : decode cX1_init 15 = .ok (.iload_n 3, 1) := by decide +kernel
theorem dX1_init_16 : decode cX1_init 16 = .ok (.putfield 17, 3) := by decide +kernel
theorem dX1_init_19 : decode cX1_init 19 = .ok (.return_, 1) := by decide +kernel
theorem dX2_init_0 : decode cX2_init 0 = .ok (.aload_n 0, 1) := by decide +kernel
theorem dX2_init_1 : decode cX2_init 1 = .ok (.invokespecial 3, 3) := by decide +kernel
theorem dX2_init_4 : decode cX2_init 4 = .ok (.aload_n 0, 1) := by decide +kernel
theorem dX2_init_5 : decode cX2_init 5 = .ok (.bipush 81, 2) := by decide +kernel
theorem dX2_init_7 : decode cX2_init 7 = .ok (.newarray .int, 2) := by decide +kernel
theorem dX2_init_9 : decode cX2_init 9 = .ok (.putfield 11, 3) := by decide +kernel
theorem dX2_init_12 : decode cX2_init 12 = .ok (.aload_n 0, 1) := by decide +kernel
theorem dX2_init_13 : decode cX2_init 13 = .ok (.sipush 2048, 3) := by decide +kernel
theorem dX2_init_16 : decode cX2_init 16 = .ok (.newarray .int, 2) := by decide +kernel
theorem dX2_init_18 : decode cX2_init 18 = .ok (.putfield 15, 3) := by decide +kernel
theorem dX2_init_21 : decode cX2_init 21 = .ok (.iconst 0, 1) := by decide +kernel
theorem dX2_init_22 : decode cX2_init 22 = .ok (.istore_n 1, 1) := by decide +kernel
theorem dX2_init_23 : decode cX2_init 23 = .ok (.iload_n 1, 1) := by decide +kernel
theorem dX2_init_24 : decode cX2_init 24 = .ok (.bipush 81, 2) := by decide +kernel
theorem dX2_init_26 : decode cX2_init 26 = .ok (.if_icmp .ge 42, 3) := by decide +kernel
theorem dX2_init_29 : decode cX2_init 29 = .ok (.iload_n 1, 1) := by decide +kernel
theorem dX2_init_30 : decode cX2_init 30 = .ok (.bipush 9, 2) := by decide +kernel
theorem dX2_init_32 : decode cX2_init 32 = .ok (.idiv, 1) := by decide +kernel
theorem dX2_init_33 : decode cX2_init 33 = .ok (.iload_n 1, 1) := by decide +kernel
theorem dX2_init_34 : decode cX2_init 34 = .ok (.bipush 9, 2) := by decide +kernel
theorem dX2_init_36 : decode cX2_init 36 = .ok (.irem, 1) := by decide +kernel
theorem dX2_init_37 : decode cX2_init 37 = .ok (.if_icmp .ne 7, 3) := by decide +kernel
theorem dX2_init_40 : decode cX2_init 40 = .ok (.iconst 1, 1) := by decide +kernel
theorem dX2_init_41 : decode cX2_init 41 = .ok (.goto 4, 3) := by decide +kernel
theorem dX2_init_44 : decode cX2_init 44 = .ok (.iconst 0, 1) := by decide +kernel
theorem dX2_init_45 : decode cX2_init 45 = .ok (.istore_n 2, 1) := by decide +kernel
theorem dX2_init_46 : decode cX2_init 46 = .ok (.aload_n 0, 1) := by decide +kernel
theorem dX2_init_47 : decode cX2_init 47 = .ok (.getfield 11, 3) := by decide +kernel
theorem dX2_init_50 : decode cX2_init 50 = .ok (.iload_n 1, 1) := by decide +kernel
theorem dX2_init_51 : decode cX2_init 51 = .ok (.iload_n 2, 1) := by decide +kernel
theorem dX2_init_52 : decode cX2_init 52 = .ok (.ifCond .eq 7, 3) := by decide +kernel
theorem dX2_init_55 : decode cX2_init 55 = .ok (.iconst 0, 1) := by decide +kernel
theorem dX2_init_56 : decode cX2_init 56 = .ok (.goto 5, 3) := by decide +kernel
theorem dX2_init_59 : decode cX2_init 59 = .ok (.bipush 20, 2) := by decide +kernel
theorem dX2_init_61 : decode cX2_init 61 = .ok (.iastore, 1) := by decide +kernel
theorem dX2_init_62 : decode cX2_init 62 = .ok (.iinc 1 1, 3) := by decide +kernel
theorem dX2_init_65 : decode cX2_init 65 = .ok (.goto (-42), 3) := by decide +kernel
theorem dX2_init_68 : decode cX2_init 68 = .ok (.return_, 1) := by decide +kernel
theorem dX2_between_0 : decode cX2_between 0 = .ok (.aload_n 0, 1) := by decide +kernel
theorem dX2_between_1 : decode cX2_between 1 = .ok (.getfield 11, 3) := by decide +kernel
theorem dX2_between_4 : decode cX2_between 4 = .ok (.iload_n 1, 1) := by decide +kernel
theorem dX2_between_5 : decode cX2_between 5 = .ok (.iconst 1, 1) := by decide +kernel
theorem dX2_between_6 : decode cX2_between 6 = .ok (.iadd, 1) := by decide +kernel
theorem dX2_between_7 : decode cX2_between 7 = .ok (.bipush 9, 2) := by decide +kernel
theorem dX2_between_9 : decode cX2_between 9 = .ok (.imul, 1) := by decide +kernel
theorem dX2_between_10 : decode cX2_between 10 = .ok (.iload_n 2, 1) := by decide +kernel
theorem dX2_between_11 : decode cX2_between 11 = .ok (.iadd, 1) := by decide +kernel
theorem dX2_between_12 : decode cX2_between 12 = .ok (.iconst 1, 1) := by decide +kernel
theorem dX2_between_13 : decode cX2_between 13 = .ok (.iadd, 1) := by decide +kernel
theorem dX2_between_14 : decode cX2_between 14 = .ok (.iaload, 1) := by decide +kernel
theorem dX2_between_15 : decode cX2_between 15 = .ok (.ireturn, 1) := by decide +kernel
theorem dX2_setBetween_0 : decode cX2_setBetween 0 = .ok (.aload_n 0, 1) := by decide +kernel
theorem dX2_setBetween_1 : decode cX2_setBetween 1 = .ok (.getfield 11, 3) := by decide +kernel
theorem dX2_setBetween_4 : decode cX2_setBetween 4 = .ok (.iload_n 1, 1) := by decide +kernel
theorem dX2_setBetween_5 : decode cX2_setBetween 5 = .ok (.iconst 1, 1) := by decide +kernel
theorem dX2_setBetween_6 : decode cX2_setBetween 6 = .ok (.iadd, 1) := by decide +kernel
theorem dX2_setBetween_7 : decode cX2_setBetween 7 = .ok (.bipush 9, 2) := by decide +kernel
theorem dX2_setBetween_9 : decode cX2_setBetween 9 = .ok (.imul, 1) := by decide +kernel
theorem dX2_setBetween_10 : decode cX2_setBetween 10 = .ok (.iload_n 2, 1) := by decide +kernel
theorem dX2_setBetween_11 : decode cX2_setBetween 11 = .ok (.iadd, 1) := by decide +kernel
theorem dX2_setBetween_12 : decode cX2_setBetween 12 = .ok (.iconst 1, 1) := by decide +kernel
theorem dX2_setBetween_13 : decode cX2_setBetween 13 = .ok (.iadd, 1) := by decide +kernel
theorem dX2_setBetween_14 : decode cX2_setBetween 14 = .ok (.iload_n 3, 1) := by decide +kernel
theorem dX2_setBetween_15 : decode cX2_setBetween 15 = .ok (.iastore, 1) := by decide +kernel
theorem dX2_setBetween_16 : decode cX2_setBetween 16 = .ok (.aload_n 0, 1) := by decide +kernel
theorem dX2_setBetween_17 : decode cX2_setBetween 17 = .ok (.getfield 11, 3) := by decide +kernel
theorem dX2_setBetween_20 : decode cX2_setBetween 20 = .ok (.iload_n 2, 1) := by decide +kernel
theorem dX2_setBetween_21 : decode cX2_setBetween 21 = .ok (.iconst 1, 1) := by decide +kernel
theorem dX2_setBetween_22 : decode cX2_setBetween 22 = .ok (.iadd, 1) := by decide +kernel
theorem dX2_setBetween_23 : decode cX2_setBetween 23 = .ok (.bipush 9, 2) := by decide +kernel
theorem dX2_setBetween_25 : decode cX2_setBetween 25 = .ok (.imul, 1) := by decide +kernel
theorem dX2_setBetween_26 : decode cX2_setBetween 26 = .ok (.iload_n 1, 1) := by decide +kernel
theorem dX2_setBetween_27 : decode cX2_setBetween 27 = .ok (.iadd, 1) := by decide +kernel
theorem dX2_setBetween_28 : decode cX2_setBetween 28 = .ok (.iconst 1, 1) := by decide +kernel
theorem dX2_setBetween_29 : decode cX2_setBetween 29 = .ok (.iadd, 1) := by decide +kernel
theorem dX2_setBetween_30 : decode cX2_setBetween 30 = .ok (.iload_n 3, 1) := by decide +kernel
theorem dX2_setBetween_31 : decode cX2_setBetween 31 = .ok (.iastore, 1) := by decide +kernel
theorem dX2_setBetween_32 : decode cX2_setBetween 32 = .ok (.return_, 1) := by decide +kernel
theorem dX2_measureTours_0 : decode cX2_measureTours 0 = .ok (.iconst 1, 1) := by decide +kernel
theorem dX2_measureTours_1 : decode cX2_measureTours 1 = .ok (.iload_n 1, 1) := by decide +kernel
theorem dX2_measureTours_2 : decode cX2_measureTours 2 = .ok (.ishl, 1) := by decide +kernel
theorem dX2_measureTours_3 : decode cX2_measureTours 3 = .ok (.istore_n 2, 1) := by decide +kernel
theorem dX2_measureTours_4 : decode cX2_measureTours 4 = .ok (.iconst 1, 1) := by decide +kernel
theorem dX2_measureTours_5 : decode cX2_measureTours 5 = .ok (.istore_n 3, 1) := by decide +kernel
theorem dX2_measureTours_6 : decode cX2_measureTours 6 = .ok (.iload_n 3, 1) := by decide +kernel
theorem dX2_measureTours_7 : decode cX2_measureTours 7 = .ok (.iload_n 2, 1) := by decide +kernel
theorem dX2_measureTours_8 : decode cX2_measureTours 8 = .ok (.if_icmp .ge 57, 3) := by decide +kernel
theorem dX2_measureTours_11 : decode cX2_measureTours 11 = .ok (.iconst 0, 1) := by decide +kernel
theorem dX2_measureTours_12 : decode cX2_measureTours 12 = .ok (.istore 4, 2) := by decide +kernel
theorem dX2_measureTours_14 : decode cX2_measureTours 14 = .ok (.iload 4, 2) := by decide +kernel
theorem dX2_measureTours_16 : decode cX2_measureTours 16 = .ok (.iload_n 1, 1) := by decide +kernel
theorem dX2_measureTours_17 : decode cX2_measureTours 17 = .ok (.if_icmp .ge 42, 3) := by decide +kernel
theorem dX2_measureTours_20 : decode cX2_measureTours 20 = .ok (.iload_n 3, 1) := by decide +kernel
theorem dX2_measureTours_21 : decode cX2_measureTours 21 = .ok (.iload 4, 2) := by decide +kernel
theorem dX2_measureTours_23 : decode cX2_measureTours 23 = .ok (.invokestatic 18, 3) := by decide +kernel
theorem dX2_measureTours_26 : decode cX2_measureTours 26 = .ok (.ifCond .eq 27, 3) := by decide +kernel
theorem dX2_measureTours_29 : decode cX2_measureTours 29 = .ok (.aload_n 0, 1) := by decide +kernel
theorem dX2_measureTours_30 : decode cX2_measureTours 30 = .ok (.getfield 15, 3) := by decide +kernel
theorem dX2_measureTours_33 : decode cX2_measureTours 33 = .ok (.iload_n 3, 1) := by decide +kernel
theorem dX2_measureTours_34 : decode cX2_measureTours 34 = .ok (.bipush 8, 2) := by decide +kernel
theorem dX2_measureTours_36 : decode cX2_measureTours 36 = .ok (.imul, 1) := by decide +kernel
theorem dX2_measureTours_37 : decode cX2_measureTours 37 = .ok (.iload 4, 2) := by decide +kernel
theorem dX2_measureTours_39 : decode cX2_measureTours 39 = .ok (.iadd, 1) := by decide +kernel
theorem dX2_measureTours_40 : decode cX2_measureTours 40 = .ok (.aload_n 0, 1) := by decide +kernel
theorem dX2_measureTours_41 : decode cX2_measureTours 41 = .ok (.iload 4, 2) := by decide +kernel
theorem dX2_measureTours_43 : decode cX2_measureTours 43 = .ok (.iload_n 3, 1) := by decide +kernel
theorem dX2_measureTours_44 : decode cX2_measureTours 44 = .ok (.iload 4, 2) := by decide +kernel
theorem dX2_measureTours_46 : decode cX2_measureTours 46 = .ok (.invokestatic 22, 3) := by decide +kernel
theorem dX2_measureTours_49 : decode cX2_measureTours 49 = .ok (.invokevirtual 26, 3) := by decide +kernel
theorem dX2_measureTours_52 : decode cX2_measureTours 52 = .ok (.iastore, 1) := by decide +kernel
theorem dX2_measureTours_53 : decode cX2_measureTours 53 = .ok (.iinc 4 1, 3) := by decide +kernel
theorem dX2_measureTours_56 : decode cX2_measureTours 56 = .ok (.goto (-42), 3) := by decide +kernel
theorem dX2_measureTours_59 : decode cX2_measureTours 59 = .ok (.iinc 3 1, 3) := by decide +kernel
theorem dX2_measureTours_62 : decode cX2_measureTours 62 = .ok (.goto (-56), 3) := by decide +kernel
theorem dX2_measureTours_65 : decode cX2_measureTours 65 = .ok (.return_, 1) := by decide +kernel
theorem dX2_leastFrom_0 : decode cX2_leastFrom 0 = .ok (.iload_n 2, 1) := by decide +kernel
theorem dX2_leastFrom_1 : decode cX2_leastFrom 1 = .ok (.ifCond .ne 10, 3) := by decide +kernel
theorem dX2_leastFrom_4 : decode cX2_leastFrom 4 = .ok (.aload_n 0, 1) := by decide +kernel
theorem dX2_leastFrom_5 : decode cX2_leastFrom 5 = .ok (.iload_n 1, 1) := by decide +kernel
theorem dX2_leastFrom_6 : decode cX2_leastFrom 6 = .ok (.iconst (-1), 1) := by decide +kernel
theorem dX2_leastFrom_7 : decode cX2_leastFrom 7 = .ok (.invokevirtual 29, 3) := by decide +kernel
theorem dX2_leastFrom_10 : decode cX2_leastFrom 10 = .ok (.ireturn, 1) := by decide +kernel
theorem dX2_leastFrom_11 : decode cX2_leastFrom 11 = .ok (.aload_n 0, 1) := by decide +kernel
theorem dX2_leastFrom_12 : decode cX2_leastFrom 12 = .ok (.iload_n 1, 1) := by decide +kernel
theorem dX2_leastFrom_13 : decode cX2_leastFrom 13 = .ok (.aload_n 0, 1) := by decide +kernel
theorem dX2_leastFrom_14 : decode cX2_leastFrom 14 = .ok (.iload_n 1, 1) := by decide +kernel
theorem dX2_leastFrom_15 : decode cX2_leastFrom 15 = .ok (.iload_n 2, 1) := by decide +kernel
theorem dX2_leastFrom_16 : decode cX2_leastFrom 16 = .ok (.invokevirtual 32, 3) := by decide +kernel
theorem dX2_leastFrom_19 : decode cX2_leastFrom 19 = .ok (.iload_n 2, 1) := by decide +kernel
theorem dX2_leastFrom_20 : decode cX2_leastFrom 20 = .ok (.invokevirtual 35, 3) := by decide +kernel
theorem dX2_leastFrom_23 : decode cX2_leastFrom 23 = .ok (.ireturn, 1) := by decide +kernel
theorem dX2_nextStop_0 : decode cX2_nextStop 0 = .ok (.iconst (-1), 1) := by decide +kernel
theorem dX2_nextStop_1 : decode cX2_nextStop 1 = .ok (.istore_n 3, 1) := by decide +kernel
theorem dX2_nextStop_2 : decode cX2_nextStop 2 = .ok (.iconst 0, 1) := by decide +kernel
theorem dX2_nextStop_3 : decode cX2_nextStop 3 = .ok (.istore 4, 2) := by decide +kernel
theorem dX2_nextStop_5 : decode cX2_nextStop 5 = .ok (.iconst 0, 1) := by decide +kernel
theorem dX2_nextStop_6 : decode cX2_nextStop 6 = .ok (.istore 5, 2) := by decide +kernel
theorem dX2_nextStop_8 : decode cX2_nextStop 8 = .ok (.iload 5, 2) := by decide +kernel
theorem dX2_nextStop_10 : decode cX2_nextStop 10 = .ok (.bipush 8, 2) := by decide +kernel
theorem dX2_nextStop_12 : decode cX2_nextStop 12 = .ok (.if_icmp .ge 47, 3) := by decide +kernel
theorem dX2_nextStop_15 : decode cX2_nextStop 15 = .ok (.iload_n 2, 1) := by decide +kernel
theorem dX2_nextStop_16 : decode cX2_nextStop 16 = .ok (.iload 5, 2) := by decide +kernel
theorem dX2_nextStop_18 : decode cX2_nextStop 18 = .ok (.invokestatic 18, 3) := by decide +kernel
theorem dX2_nextStop_21 : decode cX2_nextStop 21 = .ok (.ifCond .eq 32, 3) := by decide +kernel
theorem dX2_nextStop_24 : decode cX2_nextStop 24 = .ok (.aload_n 0, 1) := by decide +kernel
theorem dX2_nextStop_25 : decode cX2_nextStop 25 = .ok (.iload_n 1, 1) := by decide +kernel
theorem dX2_nextStop_26 : decode cX2_nextStop 26 = .ok (.iload 5, 2) := by decide +kernel
theorem dX2_nextStop_28 : decode cX2_nextStop 28 = .ok (.iload_n 2, 1) := by decide +kernel
theorem dX2_nextStop_29 : decode cX2_nextStop 29 = .ok (.invokevirtual 35, 3) := by decide +kernel
theorem dX2_nextStop_32 : decode cX2_nextStop 32 = .ok (.istore 6, 2) := by decide +kernel
theorem dX2_nextStop_34 : decode cX2_nextStop 34 = .ok (.iload_n 3, 1) := by decide +kernel
theorem dX2_nextStop_35 : decode cX2_nextStop 35 = .ok (.iconst (-1), 1) := by decide +kernel
theorem dX2_nextStop_36 : decode cX2_nextStop 36 = .ok (.if_icmp .eq 10, 3) := by decide +kernel
theorem dX2_nextStop_39 : decode cX2_nextStop 39 = .ok (.iload 6, 2) := by decide +kernel
theorem dX2_nextStop_41 : decode cX2_nextStop 41 = .ok (.iload 4, 2) := by decide +kernel
theorem dX2_nextStop_43 : decode cX2_nextStop 43 = .ok (.if_icmp .ge 10, 3) := by decide +kernel
theorem dX2_nextStop_46 : decode cX2_nextStop 46 = .ok (.iload 5, 2) := by decide +kernel
theorem dX2_nextStop_48 : decode cX2_nextStop 48 = .ok (.istore_n 3, 1) := by decide +kernel
theorem dX2_nextStop_49 : decode cX2_nextStop 49 = .ok (.iload 6, 2) := by decide +kernel
theorem dX2_nextStop_51 : decode cX2_nextStop 51 = .ok (.istore 4, 2) := by decide +kernel
theorem dX2_nextStop_53 : decode cX2_nextStop 53 = .ok (.iinc 5 1, 3) := by decide +kernel
theorem dX2_nextStop_56 : decode cX2_nextStop 56 = .ok (.goto (-48), 3) := by decide +kernel
theorem dX2_nextStop_59 : decode cX2_nextStop 59 = .ok (.iload_n 3, 1) := by decide +kernel
theorem dX2_nextStop_60 : decode cX2_nextStop 60 = .ok (.ireturn, 1) := by decide +kernel
theorem dX2_leastBy_0 : decode cX2_leastBy 0 = .ok (.aload_n 0, 1) := by decide +kernel
theorem dX2_leastBy_1 : decode cX2_leastBy 1 = .ok (.iload_n 1, 1) := by decide +kernel
theorem dX2_leastBy_2 : decode cX2_leastBy 2 = .ok (.iload_n 2, 1) := by decide +kernel
theorem dX2_leastBy_3 : decode cX2_leastBy 3 = .ok (.invokevirtual 29, 3) := by decide +kernel
theorem dX2_leastBy_6 : decode cX2_leastBy 6 = .ok (.aload_n 0, 1) := by decide +kernel
theorem dX2_leastBy_7 : decode cX2_leastBy 7 = .ok (.getfield 15, 3) := by decide +kernel
theorem dX2_leastBy_10 : decode cX2_leastBy 10 = .ok (.iload_n 3, 1) := by decide +kernel
theorem dX2_leastBy_11 : decode cX2_leastBy 11 = .ok (.bipush 8, 2) := by decide +kernel
theorem dX2_leastBy_13 : decode cX2_leastBy 13 = .ok (.imul, 1) := by decide +kernel
theorem dX2_leastBy_14 : decode cX2_leastBy 14 = .ok (.iload_n 2, 1) := by decide +kernel
theorem dX2_leastBy_15 : decode cX2_leastBy 15 = .ok (.iadd, 1) := by decide +kernel
theorem dX2_leastBy_16 : decode cX2_leastBy 16 = .ok (.iaload, 1) := by decide +kernel
theorem dX2_leastBy_17 : decode cX2_leastBy 17 = .ok (.iadd, 1) := by decide +kernel
theorem dX2_leastBy_18 : decode cX2_leastBy 18 = .ok (.ireturn, 1) := by decide +kernel
theorem dX3_init_0 : decode cX3_init 0 = .ok (.aload_n 0, 1) := by decide +kernel
theorem dX3_init_1 : decode cX3_init 1 = .ok (.invokespecial 1, 3) := by decide +kernel
theorem dX3_init_4 : decode cX3_init 4 = .ok (.aload_n 0, 1) := by decide +kernel
theorem dX3_init_5 : decode cX3_init 5 = .ok (.bipush 100, 2) := by decide +kernel
theorem dX3_init_7 : decode cX3_init 7 = .ok (.putfield 7, 3) := by decide +kernel
theorem dX3_init_10 : decode cX3_init 10 = .ok (.return_, 1) := by decide +kernel
theorem dX3_lacking_0 : decode cX3_lacking 0 = .ok (.aload_n 0, 1) := by decide +kernel
theorem dX3_lacking_1 : decode cX3_lacking 1 = .ok (.getfield 13, 3) := by decide +kernel
theorem dX3_lacking_4 : decode cX3_lacking 4 = .ok (.aload_n 0, 1) := by decide +kernel
theorem dX3_lacking_5 : decode cX3_lacking 5 = .ok (.getfield 16, 3) := by decide +kernel
theorem dX3_lacking_8 : decode cX3_lacking 8 = .ok (.isub, 1) := by decide +kernel
theorem dX3_lacking_9 : decode cX3_lacking 9 = .ok (.ireturn, 1) := by decide +kernel
theorem dX4_init_0 : decode cX4_init 0 = .ok (.aload_n 0, 1) := by decide +kernel
theorem dX4_init_1 : decode cX4_init 1 = .ok (.invokespecial 1, 3) := by decide +kernel
theorem dX4_init_4 : decode cX4_init 4 = .ok (.aload_n 0, 1) := by decide +kernel
theorem dX4_init_5 : decode cX4_init 5 = .ok (.new 7, 3) := by decide +kernel
theorem dX4_init_8 : decode cX4_init 8 = .ok (.dup, 1) := by decide +kernel
theorem dX4_init_9 : decode cX4_init 9 = .ok (.invokespecial 9, 3) := by decide +kernel
theorem dX4_init_12 : decode cX4_init 12 = .ok (.putfield 10, 3) := by decide +kernel
theorem dX4_init_15 : decode cX4_init 15 = .ok (.aload_n 0, 1) := by decide +kernel
theorem dX4_init_16 : decode cX4_init 16 = .ok (.new 7, 3) := by decide +kernel
theorem dX4_init_19 : decode cX4_init 19 = .ok (.dup, 1) := by decide +kernel
theorem dX4_init_20 : decode cX4_init 20 = .ok (.invokespecial 9, 3) := by decide +kernel
theorem dX4_init_23 : decode cX4_init 23 = .ok (.putfield 16, 3) := by decide +kernel
theorem dX4_init_26 : decode cX4_init 26 = .ok (.aload_n 0, 1) := by decide +kernel
theorem dX4_init_27 : decode cX4_init 27 = .ok (.new 19, 3) := by decide +kernel
theorem dX4_init_30 : decode cX4_init 30 = .ok (.dup, 1) := by decide +kernel
theorem dX4_init_31 : decode cX4_init 31 = .ok (.invokespecial 21, 3) := by decide +kernel
theorem dX4_init_34 : decode cX4_init 34 = .ok (.putfield 22, 3) := by decide +kernel
theorem dX4_init_37 : decode cX4_init 37 = .ok (.aload_n 0, 1) := by decide +kernel
theorem dX4_init_38 : decode cX4_init 38 = .ok (.bipush 8, 2) := by decide +kernel
theorem dX4_init_40 : decode cX4_init 40 = .ok (.newarray .int, 2) := by decide +kernel
theorem dX4_init_42 : decode cX4_init 42 = .ok (.putfield 26, 3) := by decide +kernel
theorem dX4_init_45 : decode cX4_init 45 = .ok (.aload_n 0, 1) := by decide +kernel
theorem dX4_init_46 : decode cX4_init 46 = .ok (.bipush 8, 2) := by decide +kernel
theorem dX4_init_48 : decode cX4_init 48 = .ok (.newarray .int, 2) := by decide +kernel
theorem dX4_init_50 : decode cX4_init 50 = .ok (.putfield 30, 3) := by decide +kernel
theorem dX4_init_53 : decode cX4_init 53 = .ok (.aload_n 0, 1) := by decide +kernel
theorem dX4_init_54 : decode cX4_init 54 = .ok (.bipush 8, 2) := by decide +kernel
theorem dX4_init_56 : decode cX4_init 56 = .ok (.newarray .int, 2) := by decide +kernel
theorem dX4_init_58 : decode cX4_init 58 = .ok (.putfield 33, 3) := by decide +kernel
theorem dX4_init_61 : decode cX4_init 61 = .ok (.return_, 1) := by decide +kernel
theorem dX4_addMachine_0 : decode cX4_addMachine 0 = .ok (.iload_n 1, 1) := by decide +kernel
theorem dX4_addMachine_1 : decode cX4_addMachine 1 = .ok (.bipush 100, 2) := by decide +kernel
theorem dX4_addMachine_3 : decode cX4_addMachine 3 = .ok (.ldc 36, 2) := by decide +kernel
theorem dX4_addMachine_5 : decode cX4_addMachine 5 = .ok (.invokestatic 37, 3) := by decide +kernel
theorem dX4_addMachine_8 : decode cX4_addMachine 8 = .ok (.ifCond .eq 13, 3) := by decide +kernel
theorem dX4_addMachine_11 : decode cX4_addMachine 11 = .ok (.new 41, 3) := by decide +kernel
theorem dX4_addMachine_14 : decode cX4_addMachine 14 = .ok (.dup, 1) := by decide +kernel
theorem dX4_addMachine_15 : decode cX4_addMachine 15 = .ok (.ldc 43, 2) := by decide +kernel
theorem dX4_addMachine_17 : decode cX4_addMachine 17 = .ok (.invokespecial 45, 3) := by decide +kernel
theorem dX4_addMachine_20 : decode cX4_addMachine 20 = .ok (.athrow, 1) := by decide +kernel
theorem dX4_addMachine_21 : decode cX4_addMachine 21 = .ok (.aload_n 0, 1) := by decide +kernel
theorem dX4_addMachine_22 : decode cX4_addMachine 22 = .ok (.getfield 10, 3) := by decide +kernel
theorem dX4_addMachine_25 : decode cX4_addMachine 25 = .ok (.invokevirtual 48, 3) := by decide +kernel
theorem dX4_addMachine_28 : decode cX4_addMachine 28 = .ok (.bipush 8, 2) := by decide +kernel
theorem dX4_addMachine_30 : decode cX4_addMachine 30 = .ok (.if_icmp .lt 13, 3) := by decide +kernel
theorem dX4_addMachine_33 : decode cX4_addMachine 33 = .ok (.new 52, 3) := by decide +kernel
theorem dX4_addMachine_36 : decode cX4_addMachine 36 = .ok (.dup, 1) := by decide +kernel
theorem dX4_addMachine_37 : decode cX4_addMachine 37 = .ok (.ldc 54, 2) := by decide +kernel
theorem dX4_addMachine_39 : decode cX4_addMachine 39 = .ok (.invokespecial 56, 3) := by decide +kernel
theorem dX4_addMachine_42 : decode cX4_addMachine 42 = .ok (.athrow, 1) := by decide +kernel
theorem dX4_addMachine_43 : decode cX4_addMachine 43 = .ok (.aload_n 0, 1) := by decide +kernel
theorem dX4_addMachine_44 : decode cX4_addMachine 44 = .ok (.getfield 10, 3) := by decide +kernel
theorem dX4_addMachine_47 : decode cX4_addMachine 47 = .ok (.new 57, 3) := by decide +kernel
theorem dX4_addMachine_50 : decode cX4_addMachine 50 = .ok (.dup, 1) := by decide +kernel
theorem dX4_addMachine_51 : decode cX4_addMachine 51 = .ok (.iload_n 1, 1) := by decide +kernel
theorem dX4_addMachine_52 : decode cX4_addMachine 52 = .ok (.invokespecial 59, 3) := by decide +kernel
theorem dX4_addMachine_55 : decode cX4_addMachine 55 = .ok (.invokevirtual 62, 3) := by decide +kernel
theorem dX4_addMachine_58 : decode cX4_addMachine 58 = .ok (.pop, 1) := by decide +kernel
theorem dX4_addMachine_59 : decode cX4_addMachine 59 = .ok (.aload_n 0, 1) := by decide +kernel
theorem dX4_addMachine_60 : decode cX4_addMachine 60 = .ok (.getfield 22, 3) := by decide +kernel
theorem dX4_addMachine_63 : decode cX4_addMachine 63 = .ok (.aload_n 0, 1) := by decide +kernel
theorem dX4_addMachine_64 : decode cX4_addMachine 64 = .ok (.getfield 10, 3) := by decide +kernel
theorem dX4_addMachine_67 : decode cX4_addMachine 67 = .ok (.invokevirtual 48, 3) := by decide +kernel
theorem dX4_addMachine_70 : decode cX4_addMachine 70 = .ok (.invokevirtual 66, 3) := by decide +kernel
theorem dX4_addMachine_73 : decode cX4_addMachine 73 = .ok (.aload_n 0, 1) := by decide +kernel
theorem dX4_addMachine_74 : decode cX4_addMachine 74 = .ok (.getfield 10, 3) := by decide +kernel
theorem dX4_addMachine_77 : decode cX4_addMachine 77 = .ok (.invokevirtual 48, 3) := by decide +kernel
theorem dX4_addMachine_80 : decode cX4_addMachine 80 = .ok (.iconst 1, 1) := by decide +kernel
theorem dX4_addMachine_81 : decode cX4_addMachine 81 = .ok (.isub, 1) := by decide +kernel
theorem dX4_addMachine_82 : decode cX4_addMachine 82 = .ok (.ireturn, 1) := by decide +kernel
theorem dX4_setMinutes_0 : decode cX4_setMinutes 0 = .ok (.aload_n 0, 1) := by decide +kernel
theorem dX4_setMinutes_1 : decode cX4_setMinutes 1 = .ok (.iload_n 1, 1) := by decide +kernel
theorem dX4_setMinutes_2 : decode cX4_setMinutes 2 = .ok (.invokevirtual 69, 3) := by decide +kernel
theorem dX4_setMinutes_5 : decode cX4_setMinutes 5 = .ok (.ifCond .ne 11, 3) := by decide +kernel
theorem dX4_setMinutes_8 : decode cX4_setMinutes 8 = .ok (.aload_n 0, 1) := by decide +kernel
theorem dX4_setMinutes_9 : decode cX4_setMinutes 9 = .ok (.iload_n 2, 1) := by decide +kernel
theorem dX4_setMinutes_10 : decode cX4_setMinutes 10 = .ok (.invokevirtual 69, 3) := by decide +kernel
theorem dX4_setMinutes_13 : decode cX4_setMinutes 13 = .ok (.ifCond .eq 13, 3) := by decide +kernel
theorem dX4_setMinutes_16 : decode cX4_setMinutes 16 = .ok (.new 73, 3) := by decide +kernel
theorem dX4_setMinutes_19 : decode cX4_setMinutes 19 = .ok (.dup, 1) := by decide +kernel
theorem dX4_setMinutes_20 : decode cX4_setMinutes 20 = .ok (.ldc 75, 2) := by decide +kernel
theorem dX4_setMinutes_22 : decode cX4_setMinutes 22 = .ok (.invokespecial 77, 3) := by decide +kernel
theorem dX4_setMinutes_25 : decode cX4_setMinutes 25 = .ok (.athrow, 1) := by decide +kernel
theorem dX4_setMinutes_26 : decode cX4_setMinutes 26 = .ok (.iload_n 1, 1) := by decide +kernel
theorem dX4_setMinutes_27 : decode cX4_setMinutes 27 = .ok (.iload_n 2, 1) := by decide +kernel
theorem dX4_setMinutes_28 : decode cX4_setMinutes 28 = .ok (.if_icmp .ne 13, 3) := by decide +kernel
theorem dX4_setMinutes_31 : decode cX4_setMinutes 31 = .ok (.new 41, 3) := by decide +kernel
theorem dX4_setMinutes_34 : decode cX4_setMinutes 34 = .ok (.dup, 1) := by decide +kernel
theorem dX4_setMinutes_35 : decode cX4_setMinutes 35 = .ok (.ldc 78, 2) := by decide +kernel
theorem dX4_setMinutes_37 : decode cX4_setMinutes 37 = .ok (.invokespecial 45, 3) := by decide +kernel
theorem dX4_setMinutes_40 : decode cX4_setMinutes 40 = .ok (.athrow, 1) := by decide +kernel
theorem dX4_setMinutes_41 : decode cX4_setMinutes 41 = .ok (.iload_n 3, 1) := by decide +kernel
theorem dX4_setMinutes_42 : decode cX4_setMinutes 42 = .ok (.iconst 1, 1) := by decide +kernel
theorem dX4_setMinutes_43 : decode cX4_setMinutes 43 = .ok (.sipush 200, 3) := by decide +kernel
theorem dX4_setMinutes_46 : decode cX4_setMinutes 46 = .ok (.invokestatic 37, 3) := by decide +kernel
theorem dX4_setMinutes_49 : decode cX4_setMinutes 49 = .ok (.ifCond .eq 13, 3) := by decide +kernel
theorem dX4_setMinutes_52 : decode cX4_setMinutes 52 = .ok (.new 41, 3) := by decide +kernel
theorem dX4_setMinutes_55 : decode cX4_setMinutes 55 = .ok (.dup, 1) := by decide +kernel
theorem dX4_setMinutes_56 : decode cX4_setMinutes 56 = .ok (.ldc 80, 2) := by decide +kernel
theorem dX4_setMinutes_58 : decode cX4_setMinutes 58 = .ok (.invokespecial 45, 3) := by decide +kernel
theorem dX4_setMinutes_61 : decode cX4_setMinutes 61 = .ok (.athrow, 1) := by decide +kernel
theorem dX4_setMinutes_62 : decode cX4_setMinutes 62 = .ok (.aload_n 0, 1) := by decide +kernel
theorem dX4_setMinutes_63 : decode cX4_setMinutes 63 = .ok (.getfield 22, 3) := by decide +kernel
theorem dX4_setMinutes_66 : decode cX4_setMinutes 66 = .ok (.iload_n 1, 1) := by decide +kernel
theorem dX4_setMinutes_67 : decode cX4_setMinutes 67 = .ok (.iload_n 2, 1) := by decide +kernel
theorem dX4_setMinutes_68 : decode cX4_setMinutes 68 = .ok (.invokevirtual 82, 3) := by decide +kernel
theorem dX4_setMinutes_71 : decode cX4_setMinutes 71 = .ok (.istore 4, 2) := by decide +kernel
theorem dX4_setMinutes_73 : decode cX4_setMinutes 73 = .ok (.aload_n 0, 1) := by decide +kernel
theorem dX4_setMinutes_74 : decode cX4_setMinutes 74 = .ok (.getfield 22, 3) := by decide +kernel
theorem dX4_setMinutes_77 : decode cX4_setMinutes 77 = .ok (.iload_n 1, 1) := by decide +kernel
theorem dX4_setMinutes_78 : decode cX4_setMinutes 78 = .ok (.iload_n 2, 1) := by decide +kernel
theorem dX4_setMinutes_79 : decode cX4_setMinutes 79 = .ok (.iload_n 3, 1) := by decide +kernel
theorem dX4_setMinutes_80 : decode cX4_setMinutes 80 = .ok (.invokevirtual 86, 3) := by decide +kernel
theorem dX4_setMinutes_83 : decode cX4_setMinutes 83 = .ok (.aload_n 0, 1) := by decide +kernel
theorem dX4_setMinutes_84 : decode cX4_setMinutes 84 = .ok (.getfield 22, 3) := by decide +kernel
theorem dX4_setMinutes_87 : decode cX4_setMinutes 87 = .ok (.aload_n 0, 1) := by decide +kernel
theorem dX4_setMinutes_88 : decode cX4_setMinutes 88 = .ok (.getfield 10, 3) := by decide +kernel
theorem dX4_setMinutes_91 : decode cX4_setMinutes 91 = .ok (.invokevirtual 48, 3) := by decide +kernel
theorem dX4_setMinutes_94 : decode cX4_setMinutes 94 = .ok (.invokevirtual 66, 3) := by decide +kernel
theorem dX4_setMinutes_97 : decode cX4_setMinutes 97 = .ok (.iload 4, 2) := by decide +kernel
theorem dX4_setMinutes_99 : decode cX4_setMinutes 99 = .ok (.ireturn, 1) := by decide +kernel
theorem dX4_setSlot_0 : decode cX4_setSlot 0 = .ok (.aload_n 0, 1) := by decide +kernel
theorem dX4_setSlot_1 : decode cX4_setSlot 1 = .ok (.iload_n 1, 1) := by decide +kernel
theorem dX4_setSlot_2 : decode cX4_setSlot 2 = .ok (.iload_n 2, 1) := by decide +kernel
theorem dX4_setSlot_3 : decode cX4_setSlot 3 = .ok (.invokevirtual 90, 3) := by decide +kernel
theorem dX4_setSlot_6 : decode cX4_setSlot 6 = .ok (.astore 5, 2) := by decide +kernel
theorem dX4_setSlot_8 : decode cX4_setSlot 8 = .ok (.iload_n 3, 1) := by decide +kernel
theorem dX4_setSlot_9 : decode cX4_setSlot 9 = .ok (.iconst 0, 1) := by decide +kernel
theorem dX4_setSlot_10 : decode cX4_setSlot 10 = .ok (.bipush 30, 2) := by decide +kernel
theorem dX4_setSlot_12 : decode cX4_setSlot 12 = .ok (.invokestatic 37, 3) := by decide +kernel
theorem dX4_setSlot_15 : decode cX4_setSlot 15 = .ok (.ifCond .eq 13, 3) := by decide +kernel
theorem dX4_setSlot_18 : decode cX4_setSlot 18 = .ok (.new 41, 3) := by decide +kernel
theorem dX4_setSlot_21 : decode cX4_setSlot 21 = .ok (.dup, 1) := by decide +kernel
theorem dX4_setSlot_22 : decode cX4_setSlot 22 = .ok (.ldc 94, 2) := by decide +kernel
theorem dX4_setSlot_24 : decode cX4_setSlot 24 = .ok (.invokespecial 45, 3) := by decide +kernel
theorem dX4_setSlot_27 : decode cX4_setSlot 27 = .ok (.athrow, 1) := by decide +kernel
theorem dX4_setSlot_28 : decode cX4_setSlot 28 = .ok (.iload 4, 2) := by decide +kernel
theorem dX4_setSlot_30 : decode cX4_setSlot 30 = .ok (.iconst 0, 1) := by decide +kernel
theorem dX4_setSlot_31 : decode cX4_setSlot 31 = .ok (.bipush 20, 2) := by decide +kernel
theorem dX4_setSlot_33 : decode cX4_setSlot 33 = .ok (.invokestatic 37, 3) := by decide +kernel
theorem dX4_setSlot_36 : decode cX4_setSlot 36 = .ok (.ifCond .eq 13, 3) := by decide +kernel
theorem dX4_setSlot_39 : decode cX4_setSlot 39 = .ok (.new 41, 3) := by decide +kernel
theorem dX4_setSlot_42 : decode cX4_setSlot 42 = .ok (.dup, 1) := by decide +kernel
theorem dX4_setSlot_43 : decode cX4_setSlot 43 = .ok (.ldc 96, 2) := by decide +kernel
theorem dX4_setSlot_45 : decode cX4_setSlot 45 = .ok (.invokespecial 45, 3) := by decide +kernel
theorem dX4_setSlot_48 : decode cX4_setSlot 48 = .ok (.athrow, 1) := by decide +kernel
theorem dX4_setSlot_49 : decode cX4_setSlot 49 = .ok (.aload 5, 2) := by decide +kernel
theorem dX4_setSlot_51 : decode cX4_setSlot 51 = .ok (.getfield 98, 3) := by decide +kernel
theorem dX4_setSlot_54 : decode cX4_setSlot 54 = .ok (.istore 6, 2) := by decide +kernel
theorem dX4_setSlot_56 : decode cX4_setSlot 56 = .ok (.aload 5, 2) := by decide +kernel
theorem dX4_setSlot_58 : decode cX4_setSlot 58 = .ok (.iload_n 3, 1) := by decide +kernel
theorem dX4_setSlot_59 : decode cX4_setSlot 59 = .ok (.putfield 98, 3) := by decide +kernel
theorem dX4_setSlot_62 : decode cX4_setSlot 62 = .ok (.aload 5, 2) := by decide +kernel
theorem dX4_setSlot_64 : decode cX4_setSlot 64 = .ok (.aload 5, 2) := by decide +kernel
theorem dX4_setSlot_66 : decode cX4_setSlot 66 = .ok (.getfield 104, 3) := by decide +kernel
theorem dX4_setSlot_69 : decode cX4_setSlot 69 = .ok (.iload_n 3, 1) := by decide +kernel
theorem dX4_setSlot_70 : decode cX4_setSlot 70 = .ok (.invokestatic 107, 3) := by decide +kernel
theorem dX4_setSlot_73 : decode cX4_setSlot 73 = .ok (.putfield 104, 3) := by decide +kernel
theorem dX4_setSlot_76 : decode cX4_setSlot 76 = .ok (.aload 5, 2) := by decide +kernel
theorem dX4_setSlot_78 : decode cX4_setSlot 78 = .ok (.iload 4, 2) := by decide +kernel
theorem dX4_setSlot_80 : decode cX4_setSlot 80 = .ok (.putfield 112, 3) := by decide +kernel
theorem dX4_setSlot_83 : decode cX4_setSlot 83 = .ok (.iload 6, 2) := by decide +kernel
theorem dX4_setSlot_85 : decode cX4_setSlot 85 = .ok (.ireturn, 1) := by decide +kernel
theorem dX4_planPrice_0 : decode cX4_planPrice 0 = .ok (.aload_n 0, 1) := by decide +kernel
theorem dX4_planPrice_1 : decode cX4_planPrice 1 = .ok (.iload_n 1, 1) := by decide +kernel
theorem dX4_planPrice_2 : decode cX4_planPrice 2 = .ok (.iload_n 2, 1) := by decide +kernel
theorem dX4_planPrice_3 : decode cX4_planPrice 3 = .ok (.invokevirtual 90, 3) := by decide +kernel
theorem dX4_planPrice_6 : decode cX4_planPrice 6 = .ok (.astore 5, 2) := by decide +kernel
theorem dX4_planPrice_8 : decode cX4_planPrice 8 = .ok (.iload_n 3, 1) := by decide +kernel
theorem dX4_planPrice_9 : decode cX4_planPrice 9 = .ok (.aload_n 0, 1) := by decide +kernel
theorem dX4_planPrice_10 : decode cX4_planPrice 10 = .ok (.getfield 115, 3) := by decide +kernel
theorem dX4_planPrice_13 : decode cX4_planPrice 13 = .ok (.sipush 999, 3) := by decide +kernel
theorem dX4_planPrice_16 : decode cX4_planPrice 16 = .ok (.invokestatic 37, 3) := by decide +kernel
theorem dX4_planPrice_19 : decode cX4_planPrice 19 = .ok (.ifCond .eq 13, 3) := by decide +kernel
theorem dX4_planPrice_22 : decode cX4_planPrice 22 = .ok (.new 41, 3) := by decide +kernel
theorem dX4_planPrice_25 : decode cX4_planPrice 25 = .ok (.dup, 1) := by decide +kernel
theorem dX4_planPrice_26 : decode cX4_planPrice 26 = .ok (.ldc 118, 2) := by decide +kernel
theorem dX4_planPrice_28 : decode cX4_planPrice 28 = .ok (.invokespecial 45, 3) := by decide +kernel
theorem dX4_planPrice_31 : decode cX4_planPrice 31 = .ok (.athrow, 1) := by decide +kernel
theorem dX4_planPrice_32 : decode cX4_planPrice 32 = .ok (.iload 4, 2) := by decide +kernel
theorem dX4_planPrice_34 : decode cX4_planPrice 34 = .ok (.iconst 1, 1) := by decide +kernel
theorem dX4_planPrice_35 : decode cX4_planPrice 35 = .ok (.sipush 1000, 3) := by decide +kernel
theorem dX4_planPrice_38 : decode cX4_planPrice 38 = .ok (.invokestatic 37, 3) := by decide +kernel
theorem dX4_planPrice_41 : decode cX4_planPrice 41 = .ok (.ifCond .eq 13, 3) := by decide +kernel
theorem dX4_planPrice_44 : decode cX4_planPrice 44 = .ok (.new 41, 3) := by decide +kernel
theorem dX4_planPrice_47 : decode cX4_planPrice 47 = .ok (.dup, 1) := by decide +kernel
theorem dX4_planPrice_48 : decode cX4_planPrice 48 = .ok (.ldc 120, 2) := by decide +kernel
theorem dX4_planPrice_50 : decode cX4_planPrice 50 = .ok (.invokespecial 45, 3) := by decide +kernel
theorem dX4_planPrice_53 : decode cX4_planPrice 53 = .ok (.athrow, 1) := by decide +kernel
theorem dX4_planPrice_54 : decode cX4_planPrice 54 = .ok (.iload_n 3, 1) := by decide +kernel
theorem dX4_planPrice_55 : decode cX4_planPrice 55 = .ok (.aload_n 0, 1) := by decide +kernel
theorem dX4_planPrice_56 : decode cX4_planPrice 56 = .ok (.getfield 115, 3) := by decide +kernel
theorem dX4_planPrice_59 : decode cX4_planPrice 59 = .ok (.if_icmp .ne 18, 3) := by decide +kernel
theorem dX4_planPrice_62 : decode cX4_planPrice 62 = .ok (.aload 5, 2) := by decide +kernel
theorem dX4_planPrice_64 : decode cX4_planPrice 64 = .ok (.iload 4, 2) := by decide +kernel
theorem dX4_planPrice_66 : decode cX4_planPrice 66 = .ok (.putfield 122, 3) := by decide +kernel
theorem dX4_planPrice_69 : decode cX4_planPrice 69 = .ok (.aload_n 0, 1) := by decide +kernel
theorem dX4_planPrice_70 : decode cX4_planPrice 70 = .ok (.getfield 16, 3) := by decide +kernel
theorem dX4_planPrice_73 : decode cX4_planPrice 73 = .ok (.invokevirtual 48, 3) := by decide +kernel
theorem dX4_planPrice_76 : decode cX4_planPrice 76 = .ok (.ireturn, 1) := by decide +kernel
theorem dX4_planPrice_77 : decode cX4_planPrice 77 = .ok (.aload_n 0, 1) := by decide +kernel
theorem dX4_planPrice_78 : decode cX4_planPrice 78 = .ok (.getfield 16, 3) := by decide +kernel
theorem dX4_planPrice_81 : decode cX4_planPrice 81 = .ok (.invokevirtual 48, 3) := by decide +kernel
theorem dX4_planPrice_84 : decode cX4_planPrice 84 = .ok (.bipush 20, 2) := by decide +kernel
theorem dX4_planPrice_86 : decode cX4_planPrice 86 = .ok (.if_icmp .lt 13, 3) := by decide +kernel
theorem dX4_planPrice_89 : decode cX4_planPrice 89 = .ok (.new 52, 3) := by decide +kernel
theorem dX4_planPrice_92 : decode cX4_planPrice 92 = .ok (.dup, 1) := by decide +kernel
theorem dX4_planPrice_93 : decode cX4_planPrice 93 = .ok (.ldc 125, 2) := by decide +kernel
theorem dX4_planPrice_95 : decode cX4_planPrice 95 = .ok (.invokespecial 56, 3) := by decide +kernel
theorem dX4_planPrice_98 : decode cX4_planPrice 98 = .ok (.athrow, 1) := by decide +kernel
theorem dX4_planPrice_99 : decode cX4_planPrice 99 = .ok (.aload_n 0, 1) := by decide +kernel
theorem dX4_planPrice_100 : decode cX4_planPrice 100 = .ok (.getfield 16, 3) := by decide +kernel
theorem dX4_planPrice_103 : decode cX4_planPrice 103 = .ok (.new 127, 3) := by decide +kernel
theorem dX4_planPrice_106 : decode cX4_planPrice 106 = .ok (.dup, 1) := by decide +kernel
theorem dX4_planPrice_107 : decode cX4_planPrice 107 = .ok (.aload 5, 2) := by decide +kernel
theorem dX4_planPrice_109 : decode cX4_planPrice 109 = .ok (.iload_n 3, 1) := by decide +kernel
theorem dX4_planPrice_110 : decode cX4_planPrice 110 = .ok (.iload 4, 2) := by decide +kernel
theorem dX4_planPrice_112 : decode cX4_planPrice 112 = .ok (.invokespecial 129, 3) := by decide +kernel
theorem dX4_planPrice_115 : decode cX4_planPrice 115 = .ok (.invokevirtual 62, 3) := by decide +kernel
theorem dX4_planPrice_118 : decode cX4_planPrice 118 = .ok (.pop, 1) := by decide +kernel
theorem dX4_planPrice_119 : decode cX4_planPrice 119 = .ok (.aload_n 0, 1) := by decide +kernel
theorem dX4_planPrice_120 : decode cX4_planPrice 120 = .ok (.getfield 16, 3) := by decide +kernel
theorem dX4_planPrice_123 : decode cX4_planPrice 123 = .ok (.invokevirtual 48, 3) := by decide +kernel
theorem dX4_planPrice_126 : decode cX4_planPrice 126 = .ok (.ireturn, 1) := by decide +kernel
theorem dX4_machineCount_0 : decode cX4_machineCount 0 = .ok (.aload_n 0, 1) := by decide +kernel
theorem dX4_machineCount_1 : decode cX4_machineCount 1 = .ok (.getfield 10, 3) := by decide +kernel
theorem dX4_machineCount_4 : decode cX4_machineCount 4 = .ok (.invokevirtual 48, 3) := by decide +kernel
theorem dX4_machineCount_7 : decode cX4_machineCount 7 = .ok (.ireturn, 1) := by decide +kernel
theorem dX4_machine_0 : decode cX4_machine 0 = .ok (.aload_n 0, 1) := by decide +kernel
theorem dX4_machine_1 : decode cX4_machine 1 = .ok (.iload_n 1, 1) := by decide +kernel
theorem dX4_machine_2 : decode cX4_machine 2 = .ok (.invokevirtual 138, 3) := by decide +kernel
theorem dX4_machine_5 : decode cX4_machine 5 = .ok (.astore_n 3, 1) := by decide +kernel
theorem dX4_machine_6 : decode cX4_machine 6 = .ok (.iload_n 2, 1) := by decide +kernel
theorem dX4_machine_7 : decode cX4_machine 7 = .ok (.iconst 0, 1) := by decide +kernel
theorem dX4_machine_8 : decode cX4_machine 8 = .ok (.iconst 4, 1) := by decide +kernel
theorem dX4_machine_9 : decode cX4_machine 9 = .ok (.invokestatic 37, 3) := by decide +kernel
theorem dX4_machine_12 : decode cX4_machine 12 = .ok (.ifCond .eq 13, 3) := by decide +kernel
theorem dX4_machine_15 : decode cX4_machine 15 = .ok (.new 73, 3) := by decide +kernel
theorem dX4_machine_18 : decode cX4_machine 18 = .ok (.dup, 1) := by decide +kernel
theorem dX4_machine_19 : decode cX4_machine 19 = .ok (.ldc 142, 2) := by decide +kernel
theorem dX4_machine_21 : decode cX4_machine 21 = .ok (.invokespecial 77, 3) := by decide +kernel
theorem dX4_machine_24 : decode cX4_machine 24 = .ok (.athrow, 1) := by decide +kernel
theorem dX4_machine_25 : decode cX4_machine 25 = .ok (.aload_n 3, 1) := by decide +kernel
theorem dX4_machine_26 : decode cX4_machine 26 = .ok (.iload_n 2, 1) := by decide +kernel
theorem dX4_machine_27 : decode cX4_machine 27 = .ok (.invokevirtual 144, 3) := by decide +kernel
theorem dX4_machine_30 : decode cX4_machine 30 = .ok (.ireturn, 1) := by decide +kernel
theorem dX4_pass_0 : decode cX4_pass 0 = .ok (.iload_n 1, 1) := by decide +kernel
theorem dX4_pass_1 : decode cX4_pass 1 = .ok (.iconst 1, 1) := by decide +kernel
theorem dX4_pass_2 : decode cX4_pass 2 = .ok (.bipush 30, 2) := by decide +kernel
theorem dX4_pass_4 : decode cX4_pass 4 = .ok (.invokestatic 37, 3) := by decide +kernel
theorem dX4_pass_7 : decode cX4_pass 7 = .ok (.ifCond .eq 13, 3) := by decide +kernel
theorem dX4_pass_10 : decode cX4_pass 10 = .ok (.new 41, 3) := by decide +kernel
theorem dX4_pass_13 : decode cX4_pass 13 = .ok (.dup, 1) := by decide +kernel
theorem dX4_pass_14 : decode cX4_pass 14 = .ok (.ldc 145, 2) := by decide +kernel
theorem dX4_pass_16 : decode cX4_pass 16 = .ok (.invokespecial 45, 3) := by decide +kernel
theorem dX4_pass_19 : decode cX4_pass 19 = .ok (.athrow, 1) := by decide +kernel
theorem dX4_pass_20 : decode cX4_pass 20 = .ok (.aload_n 0, 1) := by decide +kernel
theorem dX4_pass_21 : decode cX4_pass 21 = .ok (.getfield 115, 3) := by decide +kernel
theorem dX4_pass_24 : decode cX4_pass 24 = .ok (.iload_n 1, 1) := by decide +kernel
theorem dX4_pass_25 : decode cX4_pass 25 = .ok (.iadd, 1) := by decide +kernel
theorem dX4_pass_26 : decode cX4_pass 26 = .ok (.sipush 999, 3) := by decide +kernel
theorem dX4_pass_29 : decode cX4_pass 29 = .ok (.if_icmp .le 13, 3) := by decide +kernel
theorem dX4_pass_32 : decode cX4_pass 32 = .ok (.new 52, 3) := by decide +kernel
theorem dX4_pass_35 : decode cX4_pass 35 = .ok (.dup, 1) := by decide +kernel
theorem dX4_pass_36 : decode cX4_pass 36 = .ok (.ldc 147, 2) := by decide +kernel
theorem dX4_pass_38 : decode cX4_pass 38 = .ok (.invokespecial 56, 3) := by decide +kernel
theorem dX4_pass_41 : decode cX4_pass 41 = .ok (.athrow, 1) := by decide +kernel
theorem dX4_pass_42 : decode cX4_pass 42 = .ok (.iconst 0, 1) := by decide +kernel
theorem dX4_pass_43 : decode cX4_pass 43 = .ok (.istore_n 2, 1) := by decide +kernel
theorem dX4_pass_44 : decode cX4_pass 44 = .ok (.iconst 0, 1) := by decide +kernel
theorem dX4_pass_45 : decode cX4_pass 45 = .ok (.istore_n 3, 1) := by decide +kernel
theorem dX4_pass_46 : decode cX4_pass 46 = .ok (.iload_n 3, 1) := by decide +kernel
theorem dX4_pass_47 : decode cX4_pass 47 = .ok (.iload_n 1, 1) := by decide +kernel
theorem dX4_pass_48 : decode cX4_pass 48 = .ok (.if_icmp .ge 30, 3) := by decide +kernel
theorem dX4_pass_51 : decode cX4_pass 51 = .ok (.iload_n 2, 1) := by decide +kernel
theorem dX4_pass_52 : decode cX4_pass 52 = .ok (.aload_n 0, 1) := by decide +kernel
theorem dX4_pass_53 : decode cX4_pass 53 = .ok (.invokevirtual 149, 3) := by decide +kernel
theorem dX4_pass_56 : decode cX4_pass 56 = .ok (.iadd, 1) := by decide +kernel
theorem dX4_pass_57 : decode cX4_pass 57 = .ok (.istore_n 2, 1) := by decide +kernel
theorem dX4_pass_58 : decode cX4_pass 58 = .ok (.aload_n 0, 1) := by decide +kernel
theorem dX4_pass_59 : decode cX4_pass 59 = .ok (.dup, 1) := by decide +kernel
theorem dX4_pass_60 : decode cX4_pass 60 = .ok (.getfield 115, 3) := by decide +kernel
theorem dX4_pass_63 : decode cX4_pass 63 = .ok (.iconst 1, 1) := by decide +kernel
theorem dX4_pass_64 : decode cX4_pass 64 = .ok (.iadd, 1) := by decide +kernel
theorem dX4_pass_65 : decode cX4_pass 65 = .ok (.putfield 115, 3) := by decide +kernel
theorem dX4_pass_68 : decode cX4_pass 68 = .ok (.aload_n 0, 1) := by decide +kernel
theorem dX4_pass_69 : decode cX4_pass 69 = .ok (.invokevirtual 152, 3) := by decide +kernel
theorem dX4_pass_72 : decode cX4_pass 72 = .ok (.iinc 3 1, 3) := by decide +kernel
theorem dX4_pass_75 : decode cX4_pass 75 = .ok (.goto (-29), 3) := by decide +kernel
theorem dX4_pass_78 : decode cX4_pass 78 = .ok (.iload_n 2, 1) := by decide +kernel
theorem dX4_pass_79 : decode cX4_pass 79 = .ok (.ireturn, 1) := by decide +kernel
theorem dX4_today_0 : decode cX4_today 0 = .ok (.aload_n 0, 1) := by decide +kernel
theorem dX4_today_1 : decode cX4_today 1 = .ok (.getfield 115, 3) := by decide +kernel
theorem dX4_today_4 : decode cX4_today 4 = .ok (.ireturn, 1) := by decide +kernel
theorem dX4_drive_0 : decode cX4_drive 0 = .ok (.aload_n 0, 1) := by decide +kernel
theorem dX4_drive_1 : decode cX4_drive 1 = .ok (.iload_n 1, 1) := by decide +kernel
theorem dX4_drive_2 : decode cX4_drive 2 = .ok (.invokevirtual 155, 3) := by decide +kernel
theorem dX4_drive_5 : decode cX4_drive 5 = .ok (.aload_n 0, 1) := by decide +kernel
theorem dX4_drive_6 : decode cX4_drive 6 = .ok (.getfield 22, 3) := by decide +kernel
theorem dX4_drive_9 : decode cX4_drive 9 = .ok (.iconst (-1), 1) := by decide +kernel
theorem dX4_drive_10 : decode cX4_drive 10 = .ok (.iload_n 1, 1) := by decide +kernel
theorem dX4_drive_11 : decode cX4_drive 11 = .ok (.invokevirtual 158, 3) := by decide +kernel
theorem dX4_drive_14 : decode cX4_drive 14 = .ok (.ireturn, 1) := by decide +kernel
theorem dX4_visit_0 : decode cX4_visit 0 = .ok (.aload_n 0, 1) := by decide +kernel
theorem dX4_visit_1 : decode cX4_visit 1 = .ok (.iload_n 1, 1) := by decide +kernel
theorem dX4_visit_2 : decode cX4_visit 2 = .ok (.invokevirtual 155, 3) := by decide +kernel
theorem dX4_visit_5 : decode cX4_visit 5 = .ok (.iload_n 2, 1) := by decide +kernel
theorem dX4_visit_6 : decode cX4_visit 6 = .ok (.iconst 0, 1) := by decide +kernel
theorem dX4_visit_7 : decode cX4_visit 7 = .ok (.iload_n 1, 1) := by decide +kernel
theorem dX4_visit_8 : decode cX4_visit 8 = .ok (.invokestatic 161, 3) := by decide +kernel
theorem dX4_visit_11 : decode cX4_visit 11 = .ok (.iconst 1, 1) := by decide +kernel
theorem dX4_visit_12 : decode cX4_visit 12 = .ok (.isub, 1) := by decide +kernel
theorem dX4_visit_13 : decode cX4_visit 13 = .ok (.invokestatic 37, 3) := by decide +kernel
theorem dX4_visit_16 : decode cX4_visit 16 = .ok (.ifCond .eq 13, 3) := by decide +kernel
theorem dX4_visit_19 : decode cX4_visit 19 = .ok (.new 73, 3) := by decide +kernel
theorem dX4_visit_22 : decode cX4_visit 22 = .ok (.dup, 1) := by decide +kernel
theorem dX4_visit_23 : decode cX4_visit 23 = .ok (.ldc 166, 2) := by decide +kernel
theorem dX4_visit_25 : decode cX4_visit 25 = .ok (.invokespecial 77, 3) := by decide +kernel
theorem dX4_visit_28 : decode cX4_visit 28 = .ok (.athrow, 1) := by decide +kernel
theorem dX4_visit_29 : decode cX4_visit 29 = .ok (.iconst (-1), 1) := by decide +kernel
theorem dX4_visit_30 : decode cX4_visit 30 = .ok (.istore_n 3, 1) := by decide +kernel
theorem dX4_visit_31 : decode cX4_visit 31 = .ok (.iload_n 1, 1) := by decide +kernel
theorem dX4_visit_32 : decode cX4_visit 32 = .ok (.istore 4, 2) := by decide +kernel
theorem dX4_visit_34 : decode cX4_visit 34 = .ok (.iconst 0, 1) := by decide +kernel
theorem dX4_visit_35 : decode cX4_visit 35 = .ok (.istore 5, 2) := by decide +kernel
theorem dX4_visit_37 : decode cX4_visit 37 = .ok (.iload 5, 2) := by decide +kernel
theorem dX4_visit_39 : decode cX4_visit 39 = .ok (.iload_n 2, 1) := by decide +kernel
theorem dX4_visit_40 : decode cX4_visit 40 = .ok (.if_icmp .gt 28, 3) := by decide +kernel
theorem dX4_visit_43 : decode cX4_visit 43 = .ok (.aload_n 0, 1) := by decide +kernel
theorem dX4_visit_44 : decode cX4_visit 44 = .ok (.getfield 22, 3) := by decide +kernel
theorem dX4_visit_47 : decode cX4_visit 47 = .ok (.iload_n 3, 1) := by decide +kernel
theorem dX4_visit_48 : decode cX4_visit 48 = .ok (.iload 4, 2) := by decide +kernel
theorem dX4_visit_50 : decode cX4_visit 50 = .ok (.invokevirtual 168, 3) := by decide +kernel
theorem dX4_visit_53 : decode cX4_visit 53 = .ok (.istore_n 3, 1) := by decide +kernel
theorem dX4_visit_54 : decode cX4_visit 54 = .ok (.iload 4, 2) := by decide +kernel
theorem dX4_visit_56 : decode cX4_visit 56 = .ok (.iload_n 3, 1) := by decide +kernel
theorem dX4_visit_57 : decode cX4_visit 57 = .ok (.invokestatic 171, 3) := by decide +kernel
theorem dX4_visit_60 : decode cX4_visit 60 = .ok (.istore 4, 2) := by decide +kernel
theorem dX4_visit_62 : decode cX4_visit 62 = .ok (.iinc 5 1, 3) := by decide +kernel
theorem dX4_visit_65 : decode cX4_visit 65 = .ok (.goto (-28), 3) := by decide +kernel
theorem dX4_visit_68 : decode cX4_visit 68 = .ok (.iload_n 3, 1) := by decide +kernel
theorem dX4_visit_69 : decode cX4_visit 69 = .ok (.ireturn, 1) := by decide +kernel
theorem dX4_minutes_0 : decode cX4_minutes 0 = .ok (.aload_n 0, 1) := by decide +kernel
theorem dX4_minutes_1 : decode cX4_minutes 1 = .ok (.iload_n 1, 1) := by decide +kernel
theorem dX4_minutes_2 : decode cX4_minutes 2 = .ok (.invokevirtual 155, 3) := by decide +kernel
theorem dX4_minutes_5 : decode cX4_minutes 5 = .ok (.aload_n 0, 1) := by decide +kernel
theorem dX4_minutes_6 : decode cX4_minutes 6 = .ok (.invokevirtual 174, 3) := by decide +kernel
theorem dX4_minutes_9 : decode cX4_minutes 9 = .ok (.aload_n 0, 1) := by decide +kernel
theorem dX4_minutes_10 : decode cX4_minutes 10 = .ok (.iload_n 1, 1) := by decide +kernel
theorem dX4_minutes_11 : decode cX4_minutes 11 = .ok (.invokevirtual 177, 3) := by decide +kernel
theorem dX4_minutes_14 : decode cX4_minutes 14 = .ok (.ireturn, 1) := by decide +kernel
theorem dX4_best_0 : decode cX4_best 0 = .ok (.iload_n 1, 1) := by decide +kernel
theorem dX4_best_1 : decode cX4_best 1 = .ok (.iconst 0, 1) := by decide +kernel
theorem dX4_best_2 : decode cX4_best 2 = .ok (.sipush 5000, 3) := by decide +kernel
theorem dX4_best_5 : decode cX4_best 5 = .ok (.invokestatic 37, 3) := by decide +kernel
theorem dX4_best_8 : decode cX4_best 8 = .ok (.ifCond .eq 13, 3) := by decide +kernel
theorem dX4_best_11 : decode cX4_best 11 = .ok (.new 41, 3) := by decide +kernel
theorem dX4_best_14 : decode cX4_best 14 = .ok (.dup, 1) := by decide +kernel
theorem dX4_best_15 : decode cX4_best 15 = .ok (.ldc 180, 2) := by decide +kernel
theorem dX4_best_17 : decode cX4_best 17 = .ok (.invokespecial 45, 3) := by decide +kernel
theorem dX4_best_20 : decode cX4_best 20 = .ok (.athrow, 1) := by decide +kernel
theorem dX4_best_21 : decode cX4_best 21 = .ok (.iload_n 2, 1) := by decide +kernel
theorem dX4_best_22 : decode cX4_best 22 = .ok (.invokestatic 182, 3) := by decide +kernel
theorem dX4_best_25 : decode cX4_best 25 = .ok (.aload_n 0, 1) := by decide +kernel
theorem dX4_best_26 : decode cX4_best 26 = .ok (.invokevirtual 174, 3) := by decide +kernel
theorem dX4_best_29 : decode cX4_best 29 = .ok (.iconst 0, 1) := by decide +kernel
theorem dX4_best_30 : decode cX4_best 30 = .ok (.istore_n 3, 1) := by decide +kernel
theorem dX4_best_31 : decode cX4_best 31 = .ok (.iconst 0, 1) := by decide +kernel
theorem dX4_best_32 : decode cX4_best 32 = .ok (.istore 4, 2) := by decide +kernel
theorem dX4_best_34 : decode cX4_best 34 = .ok (.iconst 0, 1) := by decide +kernel
theorem dX4_best_35 : decode cX4_best 35 = .ok (.istore 5, 2) := by decide +kernel
theorem dX4_best_37 : decode cX4_best 37 = .ok (.iconst 1, 1) := by decide +kernel
theorem dX4_best_38 : decode cX4_best 38 = .ok (.aload_n 0, 1) := by decide +kernel
theorem dX4_best_39 : decode cX4_best 39 = .ok (.getfield 10, 3) := by decide +kernel
theorem dX4_best_42 : decode cX4_best 42 = .ok (.invokevirtual 48, 3) := by decide +kernel
theorem dX4_best_45 : decode cX4_best 45 = .ok (.ishl, 1) := by decide +kernel
theorem dX4_best_46 : decode cX4_best 46 = .ok (.istore 6, 2) := by decide +kernel
theorem dX4_best_48 : decode cX4_best 48 = .ok (.iconst 1, 1) := by decide +kernel
theorem dX4_best_49 : decode cX4_best 49 = .ok (.istore 7, 2) := by decide +kernel
theorem dX4_best_51 : decode cX4_best 51 = .ok (.iload 7, 2) := by decide +kernel
theorem dX4_best_53 : decode cX4_best 53 = .ok (.iload 6, 2) := by decide +kernel
theorem dX4_best_55 : decode cX4_best 55 = .ok (.if_icmp .ge 91, 3) := by decide +kernel
theorem dX4_best_58 : decode cX4_best 58 = .ok (.aload_n 0, 1) := by decide +kernel
theorem dX4_best_59 : decode cX4_best 59 = .ok (.iload 7, 2) := by decide +kernel
theorem dX4_best_61 : decode cX4_best 61 = .ok (.invokevirtual 177, 3) := by decide +kernel
theorem dX4_best_64 : decode cX4_best 64 = .ok (.istore 8, 2) := by decide +kernel
theorem dX4_best_66 : decode cX4_best 66 = .ok (.iload 7, 2) := by decide +kernel
theorem dX4_best_68 : decode cX4_best 68 = .ok (.aload_n 0, 1) := by decide +kernel
theorem dX4_best_69 : decode cX4_best 69 = .ok (.getfield 33, 3) := by decide +kernel
theorem dX4_best_72 : decode cX4_best 72 = .ok (.invokestatic 185, 3) := by decide +kernel
theorem dX4_best_75 : decode cX4_best 75 = .ok (.istore 9, 2) := by decide +kernel
theorem dX4_best_77 : decode cX4_best 77 = .ok (.iload 8, 2) := by decide +kernel
theorem dX4_best_79 : decode cX4_best 79 = .ok (.iload_n 1, 1) := by decide +kernel
theorem dX4_best_80 : decode cX4_best 80 = .ok (.if_icmp .gt 20, 3) := by decide +kernel
theorem dX4_best_83 : decode cX4_best 83 = .ok (.iload 7, 2) := by decide +kernel
theorem dX4_best_85 : decode cX4_best 85 = .ok (.aload_n 0, 1) := by decide +kernel
theorem dX4_best_86 : decode cX4_best 86 = .ok (.getfield 30, 3) := by decide +kernel
theorem dX4_best_89 : decode cX4_best 89 = .ok (.invokestatic 185, 3) := by decide +kernel
theorem dX4_best_92 : decode cX4_best 92 = .ok (.iload_n 2, 1) := by decide +kernel
theorem dX4_best_93 : decode cX4_best 93 = .ok (.if_icmp .gt 7, 3) := by decide +kernel
theorem dX4_best_96 : decode cX4_best 96 = .ok (.iconst 1, 1) := by decide +kernel
theorem dX4_best_97 : decode cX4_best 97 = .ok (.goto 4, 3) := by decide +kernel
theorem dX4_best_100 : decode cX4_best 100 = .ok (.iconst 0, 1) := by decide +kernel
theorem dX4_best_101 : decode cX4_best 101 = .ok (.istore 10, 2) := by decide +kernel
theorem dX4_best_103 : decode cX4_best 103 = .ok (.iload 10, 2) := by decide +kernel
theorem dX4_best_105 : decode cX4_best 105 = .ok (.ifCond .eq 35, 3) := by decide +kernel
theorem dX4_best_108 : decode cX4_best 108 = .ok (.iload 9, 2) := by decide +kernel
theorem dX4_best_110 : decode cX4_best 110 = .ok (.iload 4, 2) := by decide +kernel
theorem dX4_best_112 : decode cX4_best 112 = .ok (.if_icmp .gt 17, 3) := by decide +kernel
theorem dX4_best_115 : decode cX4_best 115 = .ok (.iload 9, 2) := by decide +kernel
theorem dX4_best_117 : decode cX4_best 117 = .ok (.iload 4, 2) := by decide +kernel
theorem dX4_best_119 : decode cX4_best 119 = .ok (.if_icmp .ne 21, 3) := by decide +kernel
theorem dX4_best_122 : decode cX4_best 122 = .ok (.iload 8, 2) := by decide +kernel
theorem dX4_best_124 : decode cX4_best 124 = .ok (.iload 5, 2) := by decide +kernel
theorem dX4_best_126 : decode cX4_best 126 = .ok (.if_icmp .ge 14, 3) := by decide +kernel
theorem dX4_best_129 : decode cX4_best 129 = .ok (.iload 7, 2) := by decide +kernel
theorem dX4_best_131 : decode cX4_best 131 = .ok (.istore_n 3, 1) := by decide +kernel
theorem dX4_best_132 : decode cX4_best 132 = .ok (.iload 9, 2) := by decide +kernel
theorem dX4_best_134 : decode cX4_best 134 = .ok (.istore 4, 2) := by decide +kernel
theorem dX4_best_136 : decode cX4_best 136 = .ok (.iload 8, 2) := by decide +kernel
theorem dX4_best_138 : decode cX4_best 138 = .ok (.istore 5, 2) := by decide +kernel
theorem dX4_best_140 : decode cX4_best 140 = .ok (.iinc 7 1, 3) := by decide +kernel
theorem dX4_best_143 : decode cX4_best 143 = .ok (.goto (-92), 3) := by decide +kernel
theorem dX4_best_146 : decode cX4_best 146 = .ok (.iload_n 3, 1) := by decide +kernel
theorem dX4_best_147 : decode cX4_best 147 = .ok (.ireturn, 1) := by decide +kernel
theorem dX4_go_0 : decode cX4_go 0 = .ok (.aload_n 0, 1) := by decide +kernel
theorem dX4_go_1 : decode cX4_go 1 = .ok (.iload_n 1, 1) := by decide +kernel
theorem dX4_go_2 : decode cX4_go 2 = .ok (.invokevirtual 155, 3) := by decide +kernel
theorem dX4_go_5 : decode cX4_go 5 = .ok (.iload_n 2, 1) := by decide +kernel
theorem dX4_go_6 : decode cX4_go 6 = .ok (.invokestatic 182, 3) := by decide +kernel
theorem dX4_go_9 : decode cX4_go 9 = .ok (.aload_n 0, 1) := by decide +kernel
theorem dX4_go_10 : decode cX4_go 10 = .ok (.invokevirtual 174, 3) := by decide +kernel
theorem dX4_go_13 : decode cX4_go 13 = .ok (.aload_n 0, 1) := by decide +kernel
theorem dX4_go_14 : decode cX4_go 14 = .ok (.dup, 1) := by decide +kernel
theorem dX4_go_15 : decode cX4_go 15 = .ok (.getfield 189, 3) := by decide +kernel
theorem dX4_go_18 : decode cX4_go 18 = .ok (.aload_n 0, 1) := by decide +kernel
theorem dX4_go_19 : decode cX4_go 19 = .ok (.iload_n 1, 1) := by decide +kernel
theorem dX4_go_20 : decode cX4_go 20 = .ok (.invokevirtual 177, 3) := by decide +kernel
theorem dX4_go_23 : decode cX4_go 23 = .ok (.i2l, 1) := by decide +kernel
theorem dX4_go_24 : decode cX4_go 24 = .ok (.ladd, 1) := by decide +kernel
theorem dX4_go_25 : decode cX4_go 25 = .ok (.putfield 189, 3) := by decide +kernel
theorem dX4_go_28 : decode cX4_go 28 = .ok (.aload_n 0, 1) := by decide +kernel
theorem dX4_go_29 : decode cX4_go 29 = .ok (.dup, 1) := by decide +kernel
theorem dX4_go_30 : decode cX4_go 30 = .ok (.getfield 193, 3) := by decide +kernel
theorem dX4_go_33 : decode cX4_go 33 = .ok (.lconst 1, 1) := by decide +kernel
theorem dX4_go_34 : decode cX4_go 34 = .ok (.ladd, 1) := by decide +kernel
theorem dX4_go_35 : decode cX4_go 35 = .ok (.putfield 193, 3) := by decide +kernel
theorem dX4_go_38 : decode cX4_go 38 = .ok (.iload_n 1, 1) := by decide +kernel
theorem dX4_go_39 : decode cX4_go 39 = .ok (.istore_n 3, 1) := by decide +kernel
theorem dX4_go_40 : decode cX4_go 40 = .ok (.iload_n 2, 1) := by decide +kernel
theorem dX4_go_41 : decode cX4_go 41 = .ok (.istore 4, 2) := by decide +kernel
theorem dX4_go_43 : decode cX4_go 43 = .ok (.aload_n 0, 1) := by decide +kernel
theorem dX4_go_44 : decode cX4_go 44 = .ok (.getfield 22, 3) := by decide +kernel
theorem dX4_go_47 : decode cX4_go 47 = .ok (.iconst (-1), 1) := by decide +kernel
theorem dX4_go_48 : decode cX4_go 48 = .ok (.iload_n 3, 1) := by decide +kernel
theorem dX4_go_49 : decode cX4_go 49 = .ok (.invokevirtual 168, 3) := by decide +kernel
theorem dX4_go_52 : decode cX4_go 52 = .ok (.istore 5, 2) := by decide +kernel
theorem dX4_go_54 : decode cX4_go 54 = .ok (.iconst 0, 1) := by decide +kernel
theorem dX4_go_55 : decode cX4_go 55 = .ok (.istore 6, 2) := by decide +kernel
theorem dX4_go_57 : decode cX4_go 57 = .ok (.iload 6, 2) := by decide +kernel
theorem dX4_go_59 : decode cX4_go 59 = .ok (.bipush 8, 2) := by decide +kernel
theorem dX4_go_61 : decode cX4_go 61 = .ok (.if_icmp .ge 60, 3) := by decide +kernel
theorem dX4_go_64 : decode cX4_go 64 = .ok (.aload_n 0, 1) := by decide +kernel
theorem dX4_go_65 : decode cX4_go 65 = .ok (.iload 5, 2) := by decide +kernel
theorem dX4_go_67 : decode cX4_go 67 = .ok (.invokevirtual 196, 3) := by decide +kernel
theorem dX4_go_70 : decode cX4_go 70 = .ok (.ifCond .ne 51, 3) := by decide +kernel
theorem dX4_go_73 : decode cX4_go 73 = .ok (.iload 4, 2) := by decide +kernel
theorem dX4_go_75 : decode cX4_go 75 = .ok (.aload_n 0, 1) := by decide +kernel
theorem dX4_go_76 : decode cX4_go 76 = .ok (.aload_n 0, 1) := by decide +kernel
theorem dX4_go_77 : decode cX4_go 77 = .ok (.getfield 10, 3) := by decide +kernel
theorem dX4_go_80 : decode cX4_go 80 = .ok (.iload 5, 2) := by decide +kernel
theorem dX4_go_82 : decode cX4_go 82 = .ok (.invokevirtual 199, 3) := by decide +kernel
theorem dX4_go_85 : decode cX4_go 85 = .ok (.checkcast 57, 3) := by decide +kernel
theorem dX4_go_88 : decode cX4_go 88 = .ok (.iload 4, 2) := by decide +kernel
theorem dX4_go_90 : decode cX4_go 90 = .ok (.invokevirtual 203, 3) := by decide +kernel
theorem dX4_go_93 : decode cX4_go 93 = .ok (.isub, 1) := by decide +kernel
theorem dX4_go_94 : decode cX4_go 94 = .ok (.istore 4, 2) := by decide +kernel
theorem dX4_go_96 : decode cX4_go 96 = .ok (.iload_n 3, 1) := by decide +kernel
theorem dX4_go_97 : decode cX4_go 97 = .ok (.iload 5, 2) := by decide +kernel
theorem dX4_go_99 : decode cX4_go 99 = .ok (.invokestatic 171, 3) := by decide +kernel
theorem dX4_go_102 : decode cX4_go 102 = .ok (.istore_n 3, 1) := by decide +kernel
theorem dX4_go_103 : decode cX4_go 103 = .ok (.aload_n 0, 1) := by decide +kernel
theorem dX4_go_104 : decode cX4_go 104 = .ok (.getfield 22, 3) := by decide +kernel
theorem dX4_go_107 : decode cX4_go 107 = .ok (.iload 5, 2) := by decide +kernel
theorem dX4_go_109 : decode cX4_go 109 = .ok (.iload_n 3, 1) := by decide +kernel
theorem dX4_go_110 : decode cX4_go 110 = .ok (.invokevirtual 168, 3) := by decide +kernel
theorem dX4_go_113 : decode cX4_go 113 = .ok (.istore 5, 2) := by decide +kernel
theorem dX4_go_115 : decode cX4_go 115 = .ok (.iinc 6 1, 3) := by decide +kernel
theorem dX4_go_118 : decode cX4_go 118 = .ok (.goto (-61), 3) := by decide +kernel
theorem dX4_go_121 : decode cX4_go 121 = .ok (.iload 4, 2) := by decide +kernel
theorem dX4_go_123 : decode cX4_go 123 = .ok (.ireturn, 1) := by decide +kernel
theorem dX4_total_0 : decode cX4_total 0 = .ok (.iload_n 1, 1) := by decide +kernel
theorem dX4_total_1 : decode cX4_total 1 = .ok (.iconst 0, 1) := by decide +kernel
theorem dX4_total_2 : decode cX4_total 2 = .ok (.iconst 3, 1) := by decide +kernel
theorem dX4_total_3 : decode cX4_total 3 = .ok (.invokestatic 37, 3) := by decide +kernel
theorem dX4_total_6 : decode cX4_total 6 = .ok (.ifCond .eq 13, 3) := by decide +kernel
theorem dX4_total_9 : decode cX4_total 9 = .ok (.new 73, 3) := by decide +kernel
theorem dX4_total_12 : decode cX4_total 12 = .ok (.dup, 1) := by decide +kernel
theorem dX4_total_13 : decode cX4_total 13 = .ok (.ldc 207, 2) := by decide +kernel
theorem dX4_total_15 : decode cX4_total 15 = .ok (.invokespecial 77, 3) := by decide +kernel
theorem dX4_total_18 : decode cX4_total 18 = .ok (.athrow, 1) := by decide +kernel
theorem dX4_total_19 : decode cX4_total 19 = .ok (.iload_n 1, 1) := by decide +kernel
theorem dX4_total_20 : decode cX4_total 20 = .ok (.tableswitch 43 0 2 #[28, 33, 38], 28) := by decide +kernel
theorem dX4_total_48 : decode cX4_total 48 = .ok (.aload_n 0, 1) := by decide +kernel
theorem dX4_total_49 : decode cX4_total 49 = .ok (.getfield 209, 3) := by decide +kernel
theorem dX4_total_52 : decode cX4_total 52 = .ok (.lreturn, 1) := by decide +kernel
theorem dX4_total_53 : decode cX4_total 53 = .ok (.aload_n 0, 1) := by decide +kernel
theorem dX4_total_54 : decode cX4_total 54 = .ok (.getfield 189, 3) := by decide +kernel
theorem dX4_total_57 : decode cX4_total 57 = .ok (.lreturn, 1) := by decide +kernel
theorem dX4_total_58 : decode cX4_total 58 = .ok (.aload_n 0, 1) := by decide +kernel
theorem dX4_total_59 : decode cX4_total 59 = .ok (.getfield 212, 3) := by decide +kernel
theorem dX4_total_62 : decode cX4_total 62 = .ok (.lreturn, 1) := by decide +kernel
theorem dX4_total_63 : decode cX4_total 63 = .ok (.aload_n 0, 1) := by decide +kernel
theorem dX4_total_64 : decode cX4_total 64 = .ok (.getfield 193, 3) := by decide +kernel
theorem dX4_total_67 : decode cX4_total 67 = .ok (.lreturn, 1) := by decide +kernel
theorem dX4_outside_0 : decode cX4_outside 0 = .ok (.iload_n 0, 1) := by decide +kernel
theorem dX4_outside_1 : decode cX4_outside 1 = .ok (.iload_n 1, 1) := by decide +kernel
theorem dX4_outside_2 : decode cX4_outside 2 = .ok (.if_icmp .lt 8, 3) := by decide +kernel
theorem dX4_outside_5 : decode cX4_outside 5 = .ok (.iload_n 0, 1) := by decide +kernel
theorem dX4_outside_6 : decode cX4_outside 6 = .ok (.iload_n 2, 1) := by decide +kernel
theorem dX4_outside_7 : decode cX4_outside 7 = .ok (.if_icmp .le 7, 3) := by decide +kernel
theorem dX4_outside_10 : decode cX4_outside 10 = .ok (.iconst 1, 1) := by decide +kernel
theorem dX4_outside_11 : decode cX4_outside 11 = .ok (.goto 4, 3) := by decide +kernel
theorem dX4_outside_14 : decode cX4_outside 14 = .ok (.iconst 0, 1) := by decide +kernel
theorem dX4_outside_15 : decode cX4_outside 15 = .ok (.ireturn, 1) := by decide +kernel
theorem dX4_contains_0 : decode cX4_contains 0 = .ok (.iload_n 0, 1) := by decide +kernel
theorem dX4_contains_1 : decode cX4_contains 1 = .ok (.iload_n 1, 1) := by decide +kernel
theorem dX4_contains_2 : decode cX4_contains 2 = .ok (.ishr, 1) := by decide +kernel
theorem dX4_contains_3 : decode cX4_contains 3 = .ok (.iconst 1, 1) := by decide +kernel
theorem dX4_contains_4 : decode cX4_contains 4 = .ok (.iand, 1) := by decide +kernel
theorem dX4_contains_5 : decode cX4_contains 5 = .ok (.ifCond .eq 7, 3) := by decide +kernel
theorem dX4_contains_8 : decode cX4_contains 8 = .ok (.iconst 1, 1) := by decide +kernel
theorem dX4_contains_9 : decode cX4_contains 9 = .ok (.goto 4, 3) := by decide +kernel
theorem dX4_contains_12 : decode cX4_contains 12 = .ok (.iconst 0, 1) := by decide +kernel
theorem dX4_contains_13 : decode cX4_contains 13 = .ok (.ireturn, 1) := by decide +kernel
theorem dX4_without_0 : decode cX4_without 0 = .ok (.iload_n 0, 1) := by decide +kernel
theorem dX4_without_1 : decode cX4_without 1 = .ok (.iconst 1, 1) := by decide +kernel
theorem dX4_without_2 : decode cX4_without 2 = .ok (.iload_n 1, 1) := by decide +kernel
theorem dX4_without_3 : decode cX4_without 3 = .ok (.ishl, 1) := by decide +kernel
theorem dX4_without_4 : decode cX4_without 4 = .ok (.iconst (-1), 1) := by decide +kernel
theorem dX4_without_5 : decode cX4_without 5 = .ok (.ixor, 1) := by decide +kernel
theorem dX4_without_6 : decode cX4_without 6 = .ok (.iand, 1) := by decide +kernel
theorem dX4_without_7 : decode cX4_without 7 = .ok (.ireturn, 1) := by decide +kernel
theorem dX4_sumOver_0 : decode cX4_sumOver 0 = .ok (.iconst 0, 1) := by decide +kernel
theorem dX4_sumOver_1 : decode cX4_sumOver 1 = .ok (.istore_n 2, 1) := by decide +kernel
theorem dX4_sumOver_2 : decode cX4_sumOver 2 = .ok (.iconst 0, 1) := by decide +kernel
theorem dX4_sumOver_3 : decode cX4_sumOver 3 = .ok (.istore_n 3, 1) := by decide +kernel
theorem dX4_sumOver_4 : decode cX4_sumOver 4 = .ok (.iload_n 3, 1) := by decide +kernel
theorem dX4_sumOver_5 : decode cX4_sumOver 5 = .ok (.aload_n 1, 1) := by decide +kernel
theorem dX4_sumOver_6 : decode cX4_sumOver 6 = .ok (.arraylength, 1) := by decide +kernel
theorem dX4_sumOver_7 : decode cX4_sumOver 7 = .ok (.if_icmp .ge 23, 3) := by decide +kernel
theorem dX4_sumOver_10 : decode cX4_sumOver 10 = .ok (.iload_n 0, 1) := by decide +kernel
theorem dX4_sumOver_11 : decode cX4_sumOver 11 = .ok (.iload_n 3, 1) := by decide +kernel
theorem dX4_sumOver_12 : decode cX4_sumOver 12 = .ok (.invokestatic 229, 3) := by decide +kernel
theorem dX4_sumOver_15 : decode cX4_sumOver 15 = .ok (.ifCond .eq 9, 3) := by decide +kernel
theorem dX4_sumOver_18 : decode cX4_sumOver 18 = .ok (.iload_n 2, 1) := by decide +kernel
theorem dX4_sumOver_19 : decode cX4_sumOver 19 = .ok (.aload_n 1, 1) := by decide +kernel
theorem dX4_sumOver_20 : decode cX4_sumOver 20 = .ok (.iload_n 3, 1) := by decide +kernel
theorem dX4_sumOver_21 : decode cX4_sumOver 21 = .ok (.iaload, 1) := by decide +kernel
theorem dX4_sumOver_22 : decode cX4_sumOver 22 = .ok (.iadd, 1) := by decide +kernel
theorem dX4_sumOver_23 : decode cX4_sumOver 23 = .ok (.istore_n 2, 1) := by decide +kernel
theorem dX4_sumOver_24 : decode cX4_sumOver 24 = .ok (.iinc 3 1, 3) := by decide +kernel
theorem dX4_sumOver_27 : decode cX4_sumOver 27 = .ok (.goto (-23), 3) := by decide +kernel
theorem dX4_sumOver_30 : decode cX4_sumOver 30 = .ok (.iload_n 2, 1) := by decide +kernel
theorem dX4_sumOver_31 : decode cX4_sumOver 31 = .ok (.ireturn, 1) := by decide +kernel
theorem dX4_isNoMachine_0 : decode cX4_isNoMachine 0 = .ok (.iload_n 1, 1) := by decide +kernel
theorem dX4_isNoMachine_1 : decode cX4_isNoMachine 1 = .ok (.iconst 0, 1) := by decide +kernel
theorem dX4_isNoMachine_2 : decode cX4_isNoMachine 2 = .ok (.aload_n 0, 1) := by decide +kernel
theorem dX4_isNoMachine_3 : decode cX4_isNoMachine 3 = .ok (.getfield 10, 3) := by decide +kernel
theorem dX4_isNoMachine_6 : decode cX4_isNoMachine 6 = .ok (.invokevirtual 48, 3) := by decide +kernel
theorem dX4_isNoMachine_9 : decode cX4_isNoMachine 9 = .ok (.iconst 1, 1) := by decide +kernel
theorem dX4_isNoMachine_10 : decode cX4_isNoMachine 10 = .ok (.isub, 1) := by decide +kernel
theorem dX4_isNoMachine_11 : decode cX4_isNoMachine 11 = .ok (.invokestatic 37, 3) := by decide +kernel
theorem dX4_isNoMachine_14 : decode cX4_isNoMachine 14 = .ok (.ireturn, 1) := by decide +kernel
theorem dX4_isNoPlace_0 : decode cX4_isNoPlace 0 = .ok (.iload_n 1, 1) := by decide +kernel
theorem dX4_isNoPlace_1 : decode cX4_isNoPlace 1 = .ok (.iconst (-1), 1) := by decide +kernel
theorem dX4_isNoPlace_2 : decode cX4_isNoPlace 2 = .ok (.if_icmp .eq 15, 3) := by decide +kernel
theorem dX4_isNoPlace_5 : decode cX4_isNoPlace 5 = .ok (.aload_n 0, 1) := by decide +kernel
theorem dX4_isNoPlace_6 : decode cX4_isNoPlace 6 = .ok (.iload_n 1, 1) := by decide +kernel
theorem dX4_isNoPlace_7 : decode cX4_isNoPlace 7 = .ok (.invokevirtual 196, 3) := by decide +kernel
theorem dX4_isNoPlace_10 : decode cX4_isNoPlace 10 = .ok (.ifCond .eq 7, 3) := by decide +kernel
theorem dX4_isNoPlace_13 : decode cX4_isNoPlace 13 = .ok (.iconst 1, 1) := by decide +kernel
theorem dX4_isNoPlace_14 : decode cX4_isNoPlace 14 = .ok (.goto 4, 3) := by decide +kernel
theorem dX4_isNoPlace_17 : decode cX4_isNoPlace 17 = .ok (.iconst 0, 1) := by decide +kernel
theorem dX4_isNoPlace_18 : decode cX4_isNoPlace 18 = .ok (.ireturn, 1) := by decide +kernel
theorem dX4_machineAt_0 : decode cX4_machineAt 0 = .ok (.aload_n 0, 1) := by decide +kernel
theorem dX4_machineAt_1 : decode cX4_machineAt 1 = .ok (.iload_n 1, 1) := by decide +kernel
theorem dX4_machineAt_2 : decode cX4_machineAt 2 = .ok (.invokevirtual 196, 3) := by decide +kernel
theorem dX4_machineAt_5 : decode cX4_machineAt 5 = .ok (.ifCond .eq 13, 3) := by decide +kernel
theorem dX4_machineAt_8 : decode cX4_machineAt 8 = .ok (.new 73, 3) := by decide +kernel
theorem dX4_machineAt_11 : decode cX4_machineAt 11 = .ok (.dup, 1) := by decide +kernel
theorem dX4_machineAt_12 : decode cX4_machineAt 12 = .ok (.ldc 75, 2) := by decide +kernel
theorem dX4_machineAt_14 : decode cX4_machineAt 14 = .ok (.invokespecial 77, 3) := by decide +kernel
theorem dX4_machineAt_17 : decode cX4_machineAt 17 = .ok (.athrow, 1) := by decide +kernel
theorem dX4_machineAt_18 : decode cX4_machineAt 18 = .ok (.aload_n 0, 1) := by decide +kernel
theorem dX4_machineAt_19 : decode cX4_machineAt 19 = .ok (.getfield 10, 3) := by decide +kernel
theorem dX4_machineAt_22 : decode cX4_machineAt 22 = .ok (.iload_n 1, 1) := by decide +kernel
theorem dX4_machineAt_23 : decode cX4_machineAt 23 = .ok (.invokevirtual 199, 3) := by decide +kernel
theorem dX4_machineAt_26 : decode cX4_machineAt 26 = .ok (.checkcast 57, 3) := by decide +kernel
theorem dX4_machineAt_29 : decode cX4_machineAt 29 = .ok (.areturn, 1) := by decide +kernel
theorem dX4_slotAt_0 : decode cX4_slotAt 0 = .ok (.aload_n 0, 1) := by decide +kernel
theorem dX4_slotAt_1 : decode cX4_slotAt 1 = .ok (.iload_n 1, 1) := by decide +kernel
theorem dX4_slotAt_2 : decode cX4_slotAt 2 = .ok (.invokevirtual 138, 3) := by decide +kernel
theorem dX4_slotAt_5 : decode cX4_slotAt 5 = .ok (.astore_n 3, 1) := by decide +kernel
theorem dX4_slotAt_6 : decode cX4_slotAt 6 = .ok (.iload_n 2, 1) := by decide +kernel
theorem dX4_slotAt_7 : decode cX4_slotAt 7 = .ok (.iconst 0, 1) := by decide +kernel
theorem dX4_slotAt_8 : decode cX4_slotAt 8 = .ok (.iconst 5, 1) := by decide +kernel
theorem dX4_slotAt_9 : decode cX4_slotAt 9 = .ok (.invokestatic 37, 3) := by decide +kernel
theorem dX4_slotAt_12 : decode cX4_slotAt 12 = .ok (.ifCond .eq 13, 3) := by decide +kernel
theorem dX4_slotAt_15 : decode cX4_slotAt 15 = .ok (.new 73, 3) := by decide +kernel
theorem dX4_slotAt_18 : decode cX4_slotAt 18 = .ok (.dup, 1) := by decide +kernel
theorem dX4_slotAt_19 : decode cX4_slotAt 19 = .ok (.ldc 235, 2) := by decide +kernel
theorem dX4_slotAt_21 : decode cX4_slotAt 21 = .ok (.invokespecial 77, 3) := by decide +kernel
theorem dX4_slotAt_24 : decode cX4_slotAt 24 = .ok (.athrow, 1) := by decide +kernel
theorem dX4_slotAt_25 : decode cX4_slotAt 25 = .ok (.aload_n 3, 1) := by decide +kernel
theorem dX4_slotAt_26 : decode cX4_slotAt 26 = .ok (.getfield 215, 3) := by decide +kernel
theorem dX4_slotAt_29 : decode cX4_slotAt 29 = .ok (.iload_n 2, 1) := by decide +kernel
theorem dX4_slotAt_30 : decode cX4_slotAt 30 = .ok (.aaload, 1) := by decide +kernel
theorem dX4_slotAt_31 : decode cX4_slotAt 31 = .ok (.areturn, 1) := by decide +kernel
theorem dX4_requireSet_0 : decode cX4_requireSet 0 = .ok (.iload_n 1, 1) := by decide +kernel
theorem dX4_requireSet_1 : decode cX4_requireSet 1 = .ok (.aload_n 0, 1) := by decide +kernel
theorem dX4_requireSet_2 : decode cX4_requireSet 2 = .ok (.getfield 10, 3) := by decide +kernel
theorem dX4_requireSet_5 : decode cX4_requireSet 5 = .ok (.invokevirtual 48, 3) := by decide +kernel
theorem dX4_requireSet_8 : decode cX4_requireSet 8 = .ok (.iushr, 1) := by decide +kernel
theorem dX4_requireSet_9 : decode cX4_requireSet 9 = .ok (.ifCond .eq 13, 3) := by decide +kernel
theorem dX4_requireSet_12 : decode cX4_requireSet 12 = .ok (.new 41, 3) := by decide +kernel
theorem dX4_requireSet_15 : decode cX4_requireSet 15 = .ok (.dup, 1) := by decide +kernel
theorem dX4_requireSet_16 : decode cX4_requireSet 16 = .ok (.ldc 237, 2) := by decide +kernel
theorem dX4_requireSet_18 : decode cX4_requireSet 18 = .ok (.invokespecial 45, 3) := by decide +kernel
theorem dX4_requireSet_21 : decode cX4_requireSet 21 = .ok (.athrow, 1) := by decide +kernel
theorem dX4_requireSet_22 : decode cX4_requireSet 22 = .ok (.return_, 1) := by decide +kernel
theorem dX4_requireLoad_0 : decode cX4_requireLoad 0 = .ok (.iload_n 0, 1) := by decide +kernel
theorem dX4_requireLoad_1 : decode cX4_requireLoad 1 = .ok (.iconst 0, 1) := by decide +kernel
theorem dX4_requireLoad_2 : decode cX4_requireLoad 2 = .ok (.sipush 2000, 3) := by decide +kernel
theorem dX4_requireLoad_5 : decode cX4_requireLoad 5 = .ok (.invokestatic 37, 3) := by decide +kernel
theorem dX4_requireLoad_8 : decode cX4_requireLoad 8 = .ok (.ifCond .eq 13, 3) := by decide +kernel
theorem dX4_requireLoad_11 : decode cX4_requireLoad 11 = .ok (.new 41, 3) := by decide +kernel
theorem dX4_requireLoad_14 : decode cX4_requireLoad 14 = .ok (.dup, 1) := by decide +kernel
theorem dX4_requireLoad_15 : decode cX4_requireLoad 15 = .ok (.ldc 239, 2) := by decide +kernel
theorem dX4_requireLoad_17 : decode cX4_requireLoad 17 = .ok (.invokespecial 45, 3) := by decide +kernel
theorem dX4_requireLoad_20 : decode cX4_requireLoad 20 = .ok (.athrow, 1) := by decide +kernel
theorem dX4_requireLoad_21 : decode cX4_requireLoad 21 = .ok (.return_, 1) := by decide +kernel
theorem dX4_sellEverywhere_0 : decode cX4_sellEverywhere 0 = .ok (.iconst 0, 1) := by decide +kernel
theorem dX4_sellEverywhere_1 : decode cX4_sellEverywhere 1 = .ok (.istore_n 1, 1) := by decide +kernel
theorem dX4_sellEverywhere_2 : decode cX4_sellEverywhere 2 = .ok (.iconst 0, 1) := by decide +kernel
theorem dX4_sellEverywhere_3 : decode cX4_sellEverywhere 3 = .ok (.istore_n 2, 1) := by decide +kernel
theorem dX4_sellEverywhere_4 : decode cX4_sellEverywhere 4 = .ok (.iload_n 2, 1) := by decide +kernel
theorem dX4_sellEverywhere_5 : decode cX4_sellEverywhere 5 = .ok (.aload_n 0, 1) := by decide +kernel
theorem dX4_sellEverywhere_6 : decode cX4_sellEverywhere 6 = .ok (.getfield 10, 3) := by decide +kernel
theorem dX4_sellEverywhere_9 : decode cX4_sellEverywhere 9 = .ok (.invokevirtual 48, 3) := by decide +kernel
theorem dX4_sellEverywhere_12 : decode cX4_sellEverywhere 12 = .ok (.if_icmp .ge 26, 3) := by decide +kernel
theorem dX4_sellEverywhere_15 : decode cX4_sellEverywhere 15 = .ok (.iload_n 1, 1) := by decide +kernel
theorem dX4_sellEverywhere_16 : decode cX4_sellEverywhere 16 = .ok (.aload_n 0, 1) := by decide +kernel
theorem dX4_sellEverywhere_17 : decode cX4_sellEverywhere 17 = .ok (.getfield 10, 3) := by decide +kernel
theorem dX4_sellEverywhere_20 : decode cX4_sellEverywhere 20 = .ok (.iload_n 2, 1) := by decide +kernel
theorem dX4_sellEverywhere_21 : decode cX4_sellEverywhere 21 = .ok (.invokevirtual 199, 3) := by decide +kernel
theorem dX4_sellEverywhere_24 : decode cX4_sellEverywhere 24 = .ok (.checkcast 57, 3) := by decide +kernel
theorem dX4_sellEverywhere_27 : decode cX4_sellEverywhere 27 = .ok (.invokevirtual 241, 3) := by decide +kernel
theorem dX4_sellEverywhere_30 : decode cX4_sellEverywhere 30 = .ok (.iadd, 1) := by decide +kernel
theorem dX4_sellEverywhere_31 : decode cX4_sellEverywhere 31 = .ok (.istore_n 1, 1) := by decide +kernel
theorem dX4_sellEverywhere_32 : decode cX4_sellEverywhere 32 = .ok (.iinc 2 1, 3) := by decide +kernel
theorem dX4_sellEverywhere_35 : decode cX4_sellEverywhere 35 = .ok (.goto (-31), 3) := by decide +kernel
theorem dX4_sellEverywhere_38 : decode cX4_sellEverywhere 38 = .ok (.iload_n 1, 1) := by decide +kernel
theorem dX4_sellEverywhere_39 : decode cX4_sellEverywhere 39 = .ok (.ireturn, 1) := by decide +kernel
theorem dX4_changePrices_0 : decode cX4_changePrices 0 = .ok (.iconst 0, 1) := by decide +kernel
theorem dX4_changePrices_1 : decode cX4_changePrices 1 = .ok (.istore_n 1, 1) := by decide +kernel
theorem dX4_changePrices_2 : decode cX4_changePrices 2 = .ok (.iload_n 1, 1) := by decide +kernel
theorem dX4_changePrices_3 : decode cX4_changePrices 3 = .ok (.aload_n 0, 1) := by decide +kernel
theorem dX4_changePrices_4 : decode cX4_changePrices 4 = .ok (.getfield 16, 3) := by decide +kernel
theorem dX4_changePrices_7 : decode cX4_changePrices 7 = .ok (.invokevirtual 48, 3) := by decide +kernel
theorem dX4_changePrices_10 : decode cX4_changePrices 10 = .ok (.if_icmp .ge 43, 3) := by decide +kernel
theorem dX4_changePrices_13 : decode cX4_changePrices 13 = .ok (.aload_n 0, 1) := by decide +kernel
theorem dX4_changePrices_14 : decode cX4_changePrices 14 = .ok (.getfield 16, 3) := by decide +kernel
theorem dX4_changePrices_17 : decode cX4_changePrices 17 = .ok (.iload_n 1, 1) := by decide +kernel
theorem dX4_changePrices_18 : decode cX4_changePrices 18 = .ok (.invokevirtual 199, 3) := by decide +kernel
theorem dX4_changePrices_21 : decode cX4_changePrices 21 = .ok (.checkcast 127, 3) := by decide +kernel
theorem dX4_changePrices_24 : decode cX4_changePrices 24 = .ok (.astore_n 2, 1) := by decide +kernel
theorem dX4_changePrices_25 : decode cX4_changePrices 25 = .ok (.aload_n 2, 1) := by decide +kernel
theorem dX4_changePrices_26 : decode cX4_changePrices 26 = .ok (.getfield 244, 3) := by decide +kernel
theorem dX4_changePrices_29 : decode cX4_changePrices 29 = .ok (.aload_n 0, 1) := by decide +kernel
theorem dX4_changePrices_30 : decode cX4_changePrices 30 = .ok (.getfield 115, 3) := by decide +kernel
theorem dX4_changePrices_33 : decode cX4_changePrices 33 = .ok (.if_icmp .ne 14, 3) := by decide +kernel
theorem dX4_changePrices_36 : decode cX4_changePrices 36 = .ok (.aload_n 2, 1) := by decide +kernel
theorem dX4_changePrices_37 : decode cX4_changePrices 37 = .ok (.getfield 245, 3) := by decide +kernel
theorem dX4_changePrices_40 : decode cX4_changePrices 40 = .ok (.aload_n 2, 1) := by decide +kernel
theorem dX4_changePrices_41 : decode cX4_changePrices 41 = .ok (.getfield 249, 3) := by decide +kernel
theorem dX4_changePrices_44 : decode cX4_changePrices 44 = .ok (.putfield 122, 3) := by decide +kernel
theorem dX4_changePrices_47 : decode cX4_changePrices 47 = .ok (.iinc 1 1, 3) := by decide +kernel
theorem dX4_changePrices_50 : decode cX4_changePrices 50 = .ok (.goto (-48), 3) := by decide +kernel
theorem dX4_changePrices_53 : decode cX4_changePrices 53 = .ok (.aload_n 0, 1) := by decide +kernel
theorem dX4_changePrices_54 : decode cX4_changePrices 54 = .ok (.getfield 16, 3) := by decide +kernel
theorem dX4_changePrices_57 : decode cX4_changePrices 57 = .ok (.invokevirtual 48, 3) := by decide +kernel
theorem dX4_changePrices_60 : decode cX4_changePrices 60 = .ok (.iconst 1, 1) := by decide +kernel
theorem dX4_changePrices_61 : decode cX4_changePrices 61 = .ok (.isub, 1) := by decide +kernel
theorem dX4_changePrices_62 : decode cX4_changePrices 62 = .ok (.istore_n 1, 1) := by decide +kernel
theorem dX4_changePrices_63 : decode cX4_changePrices 63 = .ok (.iload_n 1, 1) := by decide +kernel
theorem dX4_changePrices_64 : decode cX4_changePrices 64 = .ok (.ifCond .lt 39, 3) := by decide +kernel
theorem dX4_changePrices_67 : decode cX4_changePrices 67 = .ok (.aload_n 0, 1) := by decide +kernel
theorem dX4_changePrices_68 : decode cX4_changePrices 68 = .ok (.getfield 16, 3) := by decide +kernel
theorem dX4_changePrices_71 : decode cX4_changePrices 71 = .ok (.iload_n 1, 1) := by decide +kernel
theorem dX4_changePrices_72 : decode cX4_changePrices 72 = .ok (.invokevirtual 199, 3) := by decide +kernel
theorem dX4_changePrices_75 : decode cX4_changePrices 75 = .ok (.checkcast 127, 3) := by decide +kernel
theorem dX4_changePrices_78 : decode cX4_changePrices 78 = .ok (.getfield 244, 3) := by decide +kernel
theorem dX4_changePrices_81 : decode cX4_changePrices 81 = .ok (.aload_n 0, 1) := by decide +kernel
theorem dX4_changePrices_82 : decode cX4_changePrices 82 = .ok (.getfield 115, 3) := by decide +kernel
theorem dX4_changePrices_85 : decode cX4_changePrices 85 = .ok (.if_icmp .ne 12, 3) := by decide +kernel
theorem dX4_changePrices_88 : decode cX4_changePrices 88 = .ok (.aload_n 0, 1) := by decide +kernel
theorem dX4_changePrices_89 : decode cX4_changePrices 89 = .ok (.getfield 16, 3) := by decide +kernel
theorem dX4_changePrices_92 : decode cX4_changePrices 92 = .ok (.iload_n 1, 1) := by decide +kernel
theorem dX4_changePrices_93 : decode cX4_changePrices 93 = .ok (.invokevirtual 250, 3) := by decide +kernel
theorem dX4_changePrices_96 : decode cX4_changePrices 96 = .ok (.pop, 1) := by decide +kernel
theorem dX4_changePrices_97 : decode cX4_changePrices 97 = .ok (.iinc 1 (-1), 3) := by decide +kernel
theorem dX4_changePrices_100 : decode cX4_changePrices 100 = .ok (.goto (-37), 3) := by decide +kernel
theorem dX4_changePrices_103 : decode cX4_changePrices 103 = .ok (.return_, 1) := by decide +kernel
theorem dX4_survey_0 : decode cX4_survey 0 = .ok (.iconst 0, 1) := by decide +kernel
theorem dX4_survey_1 : decode cX4_survey 1 = .ok (.istore_n 1, 1) := by decide +kernel
theorem dX4_survey_2 : decode cX4_survey 2 = .ok (.iload_n 1, 1) := by decide +kernel
theorem dX4_survey_3 : decode cX4_survey 3 = .ok (.aload_n 0, 1) := by decide +kernel
theorem dX4_survey_4 : decode cX4_survey 4 = .ok (.getfield 10, 3) := by decide +kernel
theorem dX4_survey_7 : decode cX4_survey 7 = .ok (.invokevirtual 48, 3) := by decide +kernel
theorem dX4_survey_10 : decode cX4_survey 10 = .ok (.if_icmp .ge 51, 3) := by decide +kernel
theorem dX4_survey_13 : decode cX4_survey 13 = .ok (.aload_n 0, 1) := by decide +kernel
theorem dX4_survey_14 : decode cX4_survey 14 = .ok (.getfield 10, 3) := by decide +kernel
theorem dX4_survey_17 : decode cX4_survey 17 = .ok (.iload_n 1, 1) := by decide +kernel
theorem dX4_survey_18 : decode cX4_survey 18 = .ok (.invokevirtual 199, 3) := by decide +kernel
theorem dX4_survey_21 : decode cX4_survey 21 = .ok (.checkcast 57, 3) := by decide +kernel
theorem dX4_survey_24 : decode cX4_survey 24 = .ok (.astore_n 2, 1) := by decide +kernel
theorem dX4_survey_25 : decode cX4_survey 25 = .ok (.aload_n 0, 1) := by decide +kernel
theorem dX4_survey_26 : decode cX4_survey 26 = .ok (.getfield 30, 3) := by decide +kernel
theorem dX4_survey_29 : decode cX4_survey 29 = .ok (.iload_n 1, 1) := by decide +kernel
theorem dX4_survey_30 : decode cX4_survey 30 = .ok (.aload_n 2, 1) := by decide +kernel
theorem dX4_survey_31 : decode cX4_survey 31 = .ok (.invokevirtual 253, 3) := by decide +kernel
theorem dX4_survey_34 : decode cX4_survey 34 = .ok (.iastore, 1) := by decide +kernel
theorem dX4_survey_35 : decode cX4_survey 35 = .ok (.aload_n 0, 1) := by decide +kernel
theorem dX4_survey_36 : decode cX4_survey 36 = .ok (.getfield 33, 3) := by decide +kernel
theorem dX4_survey_39 : decode cX4_survey 39 = .ok (.iload_n 1, 1) := by decide +kernel
theorem dX4_survey_40 : decode cX4_survey 40 = .ok (.aload_n 2, 1) := by decide +kernel
theorem dX4_survey_41 : decode cX4_survey 41 = .ok (.invokevirtual 256, 3) := by decide +kernel
theorem dX4_survey_44 : decode cX4_survey 44 = .ok (.iastore, 1) := by decide +kernel
theorem dX4_survey_45 : decode cX4_survey 45 = .ok (.aload_n 0, 1) := by decide +kernel
theorem dX4_survey_46 : decode cX4_survey 46 = .ok (.getfield 26, 3) := by decide +kernel
theorem dX4_survey_49 : decode cX4_survey 49 = .ok (.iload_n 1, 1) := by decide +kernel
theorem dX4_survey_50 : decode cX4_survey 50 = .ok (.aload_n 2, 1) := by decide +kernel
theorem dX4_survey_51 : decode cX4_survey 51 = .ok (.invokevirtual 259, 3) := by decide +kernel
theorem dX4_survey_54 : decode cX4_survey 54 = .ok (.iastore, 1) := by decide +kernel
theorem dX4_survey_55 : decode cX4_survey 55 = .ok (.iinc 1 1, 3) := by decide +kernel
theorem dX4_survey_58 : decode cX4_survey 58 = .ok (.goto (-56), 3) := by decide +kernel
theorem dX4_survey_61 : decode cX4_survey 61 = .ok (.return_, 1) := by decide +kernel
theorem dX4_roundTime_0 : decode cX4_roundTime 0 = .ok (.aload_n 0, 1) := by decide +kernel
theorem dX4_roundTime_1 : decode cX4_roundTime 1 = .ok (.getfield 22, 3) := by decide +kernel
theorem dX4_roundTime_4 : decode cX4_roundTime 4 = .ok (.iconst (-1), 1) := by decide +kernel
theorem dX4_roundTime_5 : decode cX4_roundTime 5 = .ok (.iload_n 1, 1) := by decide +kernel
theorem dX4_roundTime_6 : decode cX4_roundTime 6 = .ok (.invokevirtual 158, 3) := by decide +kernel
theorem dX4_roundTime_9 : decode cX4_roundTime 9 = .ok (.iload_n 1, 1) := by decide +kernel
theorem dX4_roundTime_10 : decode cX4_roundTime 10 = .ok (.aload_n 0, 1) := by decide +kernel
theorem dX4_roundTime_11 : decode cX4_roundTime 11 = .ok (.getfield 26, 3) := by decide +kernel
theorem dX4_roundTime_14 : decode cX4_roundTime 14 = .ok (.invokestatic 185, 3) := by decide +kernel
theorem dX4_roundTime_17 : decode cX4_roundTime 17 = .ok (.iadd, 1) := by decide +kernel
theorem dX4_roundTime_18 : decode cX4_roundTime 18 = .ok (.ireturn, 1) := by decide +kernel
theorem dX4_serve_0 : decode cX4_serve 0 = .ok (.aload_n 0, 1) := by decide +kernel
theorem dX4_serve_1 : decode cX4_serve 1 = .ok (.dup, 1) := by decide +kernel
theorem dX4_serve_2 : decode cX4_serve 2 = .ok (.getfield 209, 3) := by decide +kernel
theorem dX4_serve_5 : decode cX4_serve 5 = .ok (.aload_n 1, 1) := by decide +kernel
theorem dX4_serve_6 : decode cX4_serve 6 = .ok (.invokevirtual 262, 3) := by decide +kernel
theorem dX4_serve_9 : decode cX4_serve 9 = .ok (.i2l, 1) := by decide +kernel
theorem dX4_serve_10 : decode cX4_serve 10 = .ok (.ladd, 1) := by decide +kernel
theorem dX4_serve_11 : decode cX4_serve 11 = .ok (.putfield 209, 3) := by decide +kernel
theorem dX4_serve_14 : decode cX4_serve 14 = .ok (.aload_n 1, 1) := by decide +kernel
theorem dX4_serve_15 : decode cX4_serve 15 = .ok (.dup, 1) := by decide +kernel
theorem dX4_serve_16 : decode cX4_serve 16 = .ok (.getfield 265, 3) := by decide +kernel
theorem dX4_serve_19 : decode cX4_serve 19 = .ok (.iconst 1, 1) := by decide +kernel
theorem dX4_serve_20 : decode cX4_serve 20 = .ok (.iadd, 1) := by decide +kernel
theorem dX4_serve_21 : decode cX4_serve 21 = .ok (.putfield 265, 3) := by decide +kernel
theorem dX4_serve_24 : decode cX4_serve 24 = .ok (.aload_n 1, 1) := by decide +kernel
theorem dX4_serve_25 : decode cX4_serve 25 = .ok (.iload_n 2, 1) := by decide +kernel
theorem dX4_serve_26 : decode cX4_serve 26 = .ok (.invokevirtual 268, 3) := by decide +kernel
theorem dX4_serve_29 : decode cX4_serve 29 = .ok (.istore_n 3, 1) := by decide +kernel
theorem dX4_serve_30 : decode cX4_serve 30 = .ok (.aload_n 0, 1) := by decide +kernel
theorem dX4_serve_31 : decode cX4_serve 31 = .ok (.dup, 1) := by decide +kernel
theorem dX4_serve_32 : decode cX4_serve 32 = .ok (.getfield 212, 3) := by decide +kernel
theorem dX4_serve_35 : decode cX4_serve 35 = .ok (.iload_n 3, 1) := by decide +kernel
theorem dX4_serve_36 : decode cX4_serve 36 = .ok (.i2l, 1) := by decide +kernel
theorem dX4_serve_37 : decode cX4_serve 37 = .ok (.ladd, 1) := by decide +kernel
theorem dX4_serve_38 : decode cX4_serve 38 = .ok (.putfield 212, 3) := by decide +kernel
theorem dX4_serve_41 : decode cX4_serve 41 = .ok (.iload_n 3, 1) := by decide +kernel
theorem dX4_serve_42 : decode cX4_serve 42 = .ok (.ireturn, 1) := by decide +kernel
theorem dJ6_bitCount_0f7a4_0 : decode cJ6_bitCount_0f7a4 0 = .ok (.iload_n 0, 1) := by decide +kernel
theorem dJ6_bitCount_0f7a4_1 : decode cJ6_bitCount_0f7a4 1 = .ok (.iload_n 0, 1) := by decide +kernel
theorem dJ6_bitCount_0f7a4_2 : decode cJ6_bitCount_0f7a4 2 = .ok (.iconst 1, 1) := by decide +kernel
theorem dJ6_bitCount_0f7a4_3 : decode cJ6_bitCount_0f7a4 3 = .ok (.iushr, 1) := by decide +kernel
theorem dJ6_bitCount_0f7a4_4 : decode cJ6_bitCount_0f7a4 4 = .ok (.ldc_w 265, 3) := by decide +kernel
theorem dJ6_bitCount_0f7a4_7 : decode cJ6_bitCount_0f7a4 7 = .ok (.iand, 1) := by decide +kernel
theorem dJ6_bitCount_0f7a4_8 : decode cJ6_bitCount_0f7a4 8 = .ok (.isub, 1) := by decide +kernel
theorem dJ6_bitCount_0f7a4_9 : decode cJ6_bitCount_0f7a4 9 = .ok (.istore_n 0, 1) := by decide +kernel
theorem dJ6_bitCount_0f7a4_10 : decode cJ6_bitCount_0f7a4 10 = .ok (.iload_n 0, 1) := by decide +kernel
theorem dJ6_bitCount_0f7a4_11 : decode cJ6_bitCount_0f7a4 11 = .ok (.ldc_w 266, 3) := by decide +kernel
theorem dJ6_bitCount_0f7a4_14 : decode cJ6_bitCount_0f7a4 14 = .ok (.iand, 1) := by decide +kernel
theorem dJ6_bitCount_0f7a4_15 : decode cJ6_bitCount_0f7a4 15 = .ok (.iload_n 0, 1) := by decide +kernel
theorem dJ6_bitCount_0f7a4_16 : decode cJ6_bitCount_0f7a4 16 = .ok (.iconst 2, 1) := by decide +kernel
theorem dJ6_bitCount_0f7a4_17 : decode cJ6_bitCount_0f7a4 17 = .ok (.iushr, 1) := by decide +kernel
theorem dJ6_bitCount_0f7a4_18 : decode cJ6_bitCount_0f7a4 18 = .ok (.ldc_w 266, 3) := by decide +kernel
theorem dJ6_bitCount_0f7a4_21 : decode cJ6_bitCount_0f7a4 21 = .ok (.iand, 1) := by decide +kernel
theorem dJ6_bitCount_0f7a4_22 : decode cJ6_bitCount_0f7a4 22 = .ok (.iadd, 1) := by decide +kernel
theorem dJ6_bitCount_0f7a4_23 : decode cJ6_bitCount_0f7a4 23 = .ok (.istore_n 0, 1) := by decide +kernel
theorem dJ6_bitCount_0f7a4_24 : decode cJ6_bitCount_0f7a4 24 = .ok (.iload_n 0, 1) := by decide +kernel
theorem dJ6_bitCount_0f7a4_25 : decode cJ6_bitCount_0f7a4 25 = .ok (.iload_n 0, 1) := by decide +kernel
theorem dJ6_bitCount_0f7a4_26 : decode cJ6_bitCount_0f7a4 26 = .ok (.iconst 4, 1) := by decide +kernel
theorem dJ6_bitCount_0f7a4_27 : decode cJ6_bitCount_0f7a4 27 = .ok (.iushr, 1) := by decide +kernel
theorem dJ6_bitCount_0f7a4_28 : decode cJ6_bitCount_0f7a4 28 = .ok (.iadd, 1) := by decide +kernel
theorem dJ6_bitCount_0f7a4_29 : decode cJ6_bitCount_0f7a4 29 = .ok (.ldc_w 267, 3) := by decide +kernel
theorem dJ6_bitCount_0f7a4_32 : decode cJ6_bitCount_0f7a4 32 = .ok (.iand, 1) := by decide +kernel
theorem dJ6_bitCount_0f7a4_33 : decode cJ6_bitCount_0f7a4 33 = .ok (.istore_n 0, 1) := by decide +kernel
theorem dJ6_bitCount_0f7a4_34 : decode cJ6_bitCount_0f7a4 34 = .ok (.iload_n 0, 1) := by decide +kernel
theorem dJ6_bitCount_0f7a4_35 : decode cJ6_bitCount_0f7a4 35 = .ok (.iload_n 0, 1) := by decide +kernel
theorem dJ6_bitCount_0f7a4_36 : decode cJ6_bitCount_0f7a4 36 = .ok (.bipush 8, 2) := by decide +kernel
theorem dJ6_bitCount_0f7a4_38 : decode cJ6_bitCount_0f7a4 38 = .ok (.iushr, 1) := by decide +kernel
theorem dJ6_bitCount_0f7a4_39 : decode cJ6_bitCount_0f7a4 39 = .ok (.iadd, 1) := by decide +kernel
theorem dJ6_bitCount_0f7a4_40 : decode cJ6_bitCount_0f7a4 40 = .ok (.istore_n 0, 1) := by decide +kernel
theorem dJ6_bitCount_0f7a4_41 : decode cJ6_bitCount_0f7a4 41 = .ok (.iload_n 0, 1) := by decide +kernel
theorem dJ6_bitCount_0f7a4_42 : decode cJ6_bitCount_0f7a4 42 = .ok (.iload_n 0, 1) := by decide +kernel
theorem dJ6_bitCount_0f7a4_43 : decode cJ6_bitCount_0f7a4 43 = .ok (.bipush 16, 2) := by decide +kernel
theorem dJ6_bitCount_0f7a4_45 : decode cJ6_bitCount_0f7a4 45 = .ok (.iushr, 1) := by decide +kernel
theorem dJ6_bitCount_0f7a4_46 : decode cJ6_bitCount_0f7a4 46 = .ok (.iadd, 1) := by decide +kernel
theorem dJ6_bitCount_0f7a4_47 : decode cJ6_bitCount_0f7a4 47 = .ok (.istore_n 0, 1) := by decide +kernel
theorem dJ6_bitCount_0f7a4_48 : decode cJ6_bitCount_0f7a4 48 = .ok (.iload_n 0, 1) := by decide +kernel
theorem dJ6_bitCount_0f7a4_49 : decode cJ6_bitCount_0f7a4 49 = .ok (.bipush 63, 2) := by decide +kernel
theorem dJ6_bitCount_0f7a4_51 : decode cJ6_bitCount_0f7a4 51 = .ok (.iand, 1) := by decide +kernel
theorem dJ6_bitCount_0f7a4_52 : decode cJ6_bitCount_0f7a4 52 = .ok (.ireturn, 1) := by decide +kernel
theorem dJ9_max_7cf53_0 : decode cJ9_max_7cf53 0 = .ok (.iload_n 0, 1) := by decide +kernel
theorem dJ9_max_7cf53_1 : decode cJ9_max_7cf53 1 = .ok (.iload_n 1, 1) := by decide +kernel
theorem dJ9_max_7cf53_2 : decode cJ9_max_7cf53 2 = .ok (.if_icmp .lt 7, 3) := by decide +kernel
theorem dJ9_max_7cf53_5 : decode cJ9_max_7cf53 5 = .ok (.iload_n 0, 1) := by decide +kernel
theorem dJ9_max_7cf53_6 : decode cJ9_max_7cf53 6 = .ok (.goto 4, 3) := by decide +kernel
theorem dJ9_max_7cf53_9 : decode cJ9_max_7cf53 9 = .ok (.iload_n 1, 1) := by decide +kernel
theorem dJ9_max_7cf53_10 : decode cJ9_max_7cf53 10 = .ok (.ireturn, 1) := by decide +kernel
theorem dJ9_min_7cf53_0 : decode cJ9_min_7cf53 0 = .ok (.iload_n 0, 1) := by decide +kernel
theorem dJ9_min_7cf53_1 : decode cJ9_min_7cf53 1 = .ok (.iload_n 1, 1) := by decide +kernel
theorem dJ9_min_7cf53_2 : decode cJ9_min_7cf53 2 = .ok (.if_icmp .gt 7, 3) := by decide +kernel
theorem dJ9_min_7cf53_5 : decode cJ9_min_7cf53 5 = .ok (.iload_n 0, 1) := by decide +kernel
theorem dJ9_min_7cf53_6 : decode cJ9_min_7cf53 6 = .ok (.goto 4, 3) := by decide +kernel
theorem dJ9_min_7cf53_9 : decode cJ9_min_7cf53 9 = .ok (.iload_n 1, 1) := by decide +kernel
theorem dJ9_min_7cf53_10 : decode cJ9_min_7cf53 10 = .ok (.ireturn, 1) := by decide +kernel
theorem dJxa1e45_init_da8c8_0 : decode cJxa1e45_init_da8c8 0 = .ok (.aload_n 0, 1) := by decide +kernel
theorem dJxa1e45_init_da8c8_1 : decode cJxa1e45_init_da8c8 1 = .ok (.invokespecial 1, 3) := by decide +kernel
theorem dJxa1e45_init_da8c8_4 : decode cJxa1e45_init_da8c8 4 = .ok (.return_, 1) := by decide +kernel
theorem dJxc12de_init_da8c8_0 : decode cJxc12de_init_da8c8 0 = .ok (.aload_n 0, 1) := by decide +kernel
theorem dJxc12de_init_da8c8_1 : decode cJxc12de_init_da8c8 1 = .ok (.invokespecial 1, 3) := by decide +kernel
theorem dJxc12de_init_da8c8_4 : decode cJxc12de_init_da8c8 4 = .ok (.aload_n 0, 1) := by decide +kernel
theorem dJxc12de_init_da8c8_5 : decode cJxc12de_init_da8c8 5 = .ok (.iconst 0, 1) := by decide +kernel
theorem dJxc12de_init_da8c8_6 : decode cJxc12de_init_da8c8 6 = .ok (.putfield 7, 3) := by decide +kernel
theorem dJxc12de_init_da8c8_9 : decode cJxc12de_init_da8c8 9 = .ok (.return_, 1) := by decide +kernel
theorem dJx4a65c_init_da8c8_0 : decode cJx4a65c_init_da8c8 0 = .ok (.aload_n 0, 1) := by decide +kernel
theorem dJx4a65c_init_da8c8_1 : decode cJx4a65c_init_da8c8 1 = .ok (.invokespecial 1, 3) := by decide +kernel
theorem dJx4a65c_init_da8c8_4 : decode cJx4a65c_init_da8c8 4 = .ok (.aload_n 0, 1) := by decide +kernel
theorem dJx4a65c_init_da8c8_5 : decode cJx4a65c_init_da8c8 5 = .ok (.getstatic 39, 3) := by decide +kernel
theorem dJx4a65c_init_da8c8_8 : decode cJx4a65c_init_da8c8 8 = .ok (.putfield 9, 3) := by decide +kernel
theorem dJx4a65c_init_da8c8_11 : decode cJx4a65c_init_da8c8 11 = .ok (.return_, 1) := by decide +kernel
theorem dJx4a65c_grow_92f84_0 : decode cJx4a65c_grow_92f84 0 = .ok (.aload_n 0, 1) := by decide +kernel
theorem dJx4a65c_grow_92f84_1 : decode cJx4a65c_grow_92f84 1 = .ok (.getfield 9, 3) := by decide +kernel
theorem dJx4a65c_grow_92f84_4 : decode cJx4a65c_grow_92f84 4 = .ok (.arraylength, 1) := by decide +kernel
theorem dJx4a65c_grow_92f84_5 : decode cJx4a65c_grow_92f84 5 = .ok (.istore_n 2, 1) := by decide +kernel
theorem dJx4a65c_grow_92f84_6 : decode cJx4a65c_grow_92f84 6 = .ok (.iload_n 2, 1) := by decide +kernel
theorem dJx4a65c_grow_92f84_7 : decode cJx4a65c_grow_92f84 7 = .ok (.ifCond .gt 13, 3) := by decide +kernel
theorem dJx4a65c_grow_92f84_10 : decode cJx4a65c_grow_92f84 10 = .ok (.aload_n 0, 1) := by decide +kernel
theorem dJx4a65c_grow_92f84_11 : decode cJx4a65c_grow_92f84 11 = .ok (.getfield 9, 3) := by decide +kernel
theorem dJx4a65c_grow_92f84_14 : decode cJx4a65c_grow_92f84 14 = .ok (.getstatic 39, 3) := by decide +kernel
theorem dJx4a65c_grow_92f84_17 : decode cJx4a65c_grow_92f84 17 = .ok (.if_acmp .eq 28, 3) := by decide +kernel
theorem dJx4a65c_grow_92f84_20 : decode cJx4a65c_grow_92f84 20 = .ok (.iload_n 2, 1) := by decide +kernel
theorem dJx4a65c_grow_92f84_21 : decode cJx4a65c_grow_92f84 21 = .ok (.iload_n 1, 1) := by decide +kernel
theorem dJx4a65c_grow_92f84_22 : decode cJx4a65c_grow_92f84 22 = .ok (.iload_n 2, 1) := by decide +kernel
theorem dJx4a65c_grow_92f84_23 : decode cJx4a65c_grow_92f84 23 = .ok (.isub, 1) := by decide +kernel
theorem dJx4a65c_grow_92f84_24 : decode cJx4a65c_grow_92f84 24 = .ok (.iload_n 2, 1) := by decide +kernel
theorem dJx4a65c_grow_92f84_25 : decode cJx4a65c_grow_92f84 25 = .ok (.iconst 1, 1) := by decide +kernel
theorem dJx4a65c_grow_92f84_26 : decode cJx4a65c_grow_92f84 26 = .ok (.ishr, 1) := by decide +kernel
theorem dJx4a65c_grow_92f84_27 : decode cJx4a65c_grow_92f84 27 = .ok (.invokestatic 73, 3) := by decide +kernel
theorem dJx4a65c_grow_92f84_30 : decode cJx4a65c_grow_92f84 30 = .ok (.istore_n 3, 1) := by decide +kernel
theorem dJx4a65c_grow_92f84_31 : decode cJx4a65c_grow_92f84 31 = .ok (.aload_n 0, 1) := by decide +kernel
theorem dJx4a65c_grow_92f84_32 : decode cJx4a65c_grow_92f84 32 = .ok (.aload_n 0, 1) := by decide +kernel
theorem dJx4a65c_grow_92f84_33 : decode cJx4a65c_grow_92f84 33 = .ok (.getfield 9, 3) := by decide +kernel
theorem dJx4a65c_grow_92f84_36 : decode cJx4a65c_grow_92f84 36 = .ok (.iload_n 3, 1) := by decide +kernel
theorem dJx4a65c_grow_92f84_37 : decode cJx4a65c_grow_92f84 37 = .ok (.invokestatic 66, 3) := by decide +kernel
theorem dJx4a65c_grow_92f84_40 : decode cJx4a65c_grow_92f84 40 = .ok (.dup_x1, 1) := by decide +kernel
theorem dJx4a65c_grow_92f84_41 : decode cJx4a65c_grow_92f84 41 = .ok (.putfield 9, 3) := by decide +kernel
theorem dJx4a65c_grow_92f84_44 : decode cJx4a65c_grow_92f84 44 = .ok (.areturn, 1) := by decide +kernel
theorem dJx4a65c_grow_92f84_45 : decode cJx4a65c_grow_92f84 45 = .ok (.aload_n 0, 1) := by decide +kernel
theorem dJx4a65c_grow_92f84_46 : decode cJx4a65c_grow_92f84 46 = .ok (.bipush 10, 2) := by decide +kernel
theorem dJx4a65c_grow_92f84_48 : decode cJx4a65c_grow_92f84 48 = .ok (.iload_n 1, 1) := by decide +kernel
theorem dJx4a65c_grow_92f84_49 : decode cJx4a65c_grow_92f84 49 = .ok (.invokestatic 79, 3) := by decide +kernel
theorem dJx4a65c_grow_92f84_52 : decode cJx4a65c_grow_92f84 52 = .ok (.anewarray 7, 3) := by decide +kernel
theorem dJx4a65c_grow_92f84_55 : decode cJx4a65c_grow_92f84 55 = .ok (.dup_x1, 1) := by decide +kernel
theorem dJx4a65c_grow_92f84_56 : decode cJx4a65c_grow_92f84 56 = .ok (.putfield 9, 3) := by decide +kernel
theorem dJx4a65c_grow_92f84_59 : decode cJx4a65c_grow_92f84 59 = .ok (.areturn, 1) := by decide +kernel
theorem dJx4a65c_grow_d5877_0 : decode cJx4a65c_grow_d5877 0 = .ok (.aload_n 0, 1) := by decide +kernel
theorem dJx4a65c_grow_d5877_1 : decode cJx4a65c_grow_d5877 1 = .ok (.aload_n 0, 1) := by decide +kernel
theorem dJx4a65c_grow_d5877_2 : decode cJx4a65c_grow_d5877 2 = .ok (.getfield 48, 3) := by decide +kernel
theorem dJx4a65c_grow_d5877_5 : decode cJx4a65c_grow_d5877 5 = .ok (.iconst 1, 1) := by decide +kernel
theorem dJx4a65c_grow_d5877_6 : decode cJx4a65c_grow_d5877 6 = .ok (.iadd, 1) := by decide +kernel
theorem dJx4a65c_grow_d5877_7 : decode cJx4a65c_grow_d5877 7 = .ok (.invokevirtual 69, 3) := by decide +kernel
theorem dJx4a65c_grow_d5877_10 : decode cJx4a65c_grow_d5877 10 = .ok (.areturn, 1) := by decide +kernel
theorem dJx4a65c_size_8abf5_0 : decode cJx4a65c_size_8abf5 0 = .ok (.aload_n 0, 1) := by decide +kernel
theorem dJx4a65c_size_8abf5_1 : decode cJx4a65c_size_8abf5 1 = .ok (.getfield 48, 3) := by decide +kernel
theorem dJx4a65c_size_8abf5_4 : decode cJx4a65c_size_8abf5 4 = .ok (.ireturn, 1) := by decide +kernel
theorem dJx4a65c_elementData_915e3_0 : decode cJx4a65c_elementData_915e3 0 = .ok (.aload_n 0, 1) := by decide +kernel
theorem dJx4a65c_elementData_915e3_1 : decode cJx4a65c_elementData_915e3 1 = .ok (.getfield 9, 3) := by decide +kernel
theorem dJx4a65c_elementData_915e3_4 : decode cJx4a65c_elementData_915e3 4 = .ok (.iload_n 1, 1) := by decide +kernel
theorem dJx4a65c_elementData_915e3_5 : decode cJx4a65c_elementData_915e3 5 = .ok (.aaload, 1) := by decide +kernel
theorem dJx4a65c_elementData_915e3_6 : decode cJx4a65c_elementData_915e3 6 = .ok (.areturn, 1) := by decide +kernel
theorem dJx4a65c_get_915e3_0 : decode cJx4a65c_get_915e3 0 = .ok (.iload_n 1, 1) := by decide +kernel
theorem dJx4a65c_get_915e3_1 : decode cJx4a65c_get_915e3 1 = .ok (.aload_n 0, 1) := by decide +kernel
theorem dJx4a65c_get_915e3_2 : decode cJx4a65c_get_915e3 2 = .ok (.getfield 48, 3) := by decide +kernel
theorem dJx4a65c_get_915e3_5 : decode cJx4a65c_get_915e3 5 = .ok (.invokestatic 118, 3) := by decide +kernel
theorem dJx4a65c_get_915e3_8 : decode cJx4a65c_get_915e3 8 = .ok (.pop, 1) := by decide +kernel
theorem dJx4a65c_get_915e3_9 : decode cJx4a65c_get_915e3 9 = .ok (.aload_n 0, 1) := by decide +kernel
theorem dJx4a65c_get_915e3_10 : decode cJx4a65c_get_915e3 10 = .ok (.iload_n 1, 1) := by decide +kernel
theorem dJx4a65c_get_915e3_11 : decode cJx4a65c_get_915e3 11 = .ok (.invokevirtual 123, 3) := by decide +kernel
theorem dJx4a65c_get_915e3_14 : decode cJx4a65c_get_915e3 14 = .ok (.areturn, 1) := by decide +kernel
theorem dJx4a65c_add_72be8_0 : decode cJx4a65c_add_72be8 0 = .ok (.iload_n 3, 1) := by decide +kernel
theorem dJx4a65c_add_72be8_1 : decode cJx4a65c_add_72be8 1 = .ok (.aload_n 2, 1) := by decide +kernel
theorem dJx4a65c_add_72be8_2 : decode cJx4a65c_add_72be8 2 = .ok (.arraylength, 1) := by decide +kernel
theorem dJx4a65c_add_72be8_3 : decode cJx4a65c_add_72be8 3 = .ok (.if_icmp .ne 8, 3) := by decide +kernel
theorem dJx4a65c_add_72be8_6 : decode cJx4a65c_add_72be8 6 = .ok (.aload_n 0, 1) := by decide +kernel
theorem dJx4a65c_add_72be8_7 : decode cJx4a65c_add_72be8 7 = .ok (.invokevirtual 129, 3) := by decide +kernel
theorem dJx4a65c_add_72be8_10 : decode cJx4a65c_add_72be8 10 = .ok (.astore_n 2, 1) := by decide +kernel
theorem dJx4a65c_add_72be8_11 : decode cJx4a65c_add_72be8 11 = .ok (.aload_n 2, 1) := by decide +kernel
theorem dJx4a65c_add_72be8_12 : decode cJx4a65c_add_72be8 12 = .ok (.iload_n 3, 1) := by decide +kernel
theorem dJx4a65c_add_72be8_13 : decode cJx4a65c_add_72be8 13 = .ok (.aload_n 1, 1) := by decide +kernel
theorem dJx4a65c_add_72be8_14 : decode cJx4a65c_add_72be8 14 = .ok (.aastore, 1) := by decide +kernel
theorem dJx4a65c_add_72be8_15 : decode cJx4a65c_add_72be8 15 = .ok (.aload_n 0, 1) := by decide +kernel
theorem dJx4a65c_add_72be8_16 : decode cJx4a65c_add_72be8 16 = .ok (.iload_n 3, 1) := by decide +kernel
theorem dJx4a65c_add_72be8_17 : decode cJx4a65c_add_72be8 17 = .ok (.iconst 1, 1) := by decide +kernel
theorem dJx4a65c_add_72be8_18 : decode cJx4a65c_add_72be8 18 = .ok (.iadd, 1) := by decide +kernel
theorem dJx4a65c_add_72be8_19 : decode cJx4a65c_add_72be8 19 = .ok (.putfield 48, 3) := by decide +kernel
theorem dJx4a65c_add_72be8_22 : decode cJx4a65c_add_72be8 22 = .ok (.return_, 1) := by decide +kernel
theorem dJx4a65c_add_9ea2d_0 : decode cJx4a65c_add_9ea2d 0 = .ok (.aload_n 0, 1) := by decide +kernel
theorem dJx4a65c_add_9ea2d_1 : decode cJx4a65c_add_9ea2d 1 = .ok (.dup, 1) := by decide +kernel
theorem dJx4a65c_add_9ea2d_2 : decode cJx4a65c_add_9ea2d 2 = .ok (.getfield 63, 3) := by decide +kernel
theorem dJx4a65c_add_9ea2d_5 : decode cJx4a65c_add_9ea2d 5 = .ok (.iconst 1, 1) := by decide +kernel
theorem dJx4a65c_add_9ea2d_6 : decode cJx4a65c_add_9ea2d 6 = .ok (.iadd, 1) := by decide +kernel
theorem dJx4a65c_add_9ea2d_7 : decode cJx4a65c_add_9ea2d 7 = .ok (.putfield 63, 3) := by decide +kernel
theorem dJx4a65c_add_9ea2d_10 : decode cJx4a65c_add_9ea2d 10 = .ok (.aload_n 0, 1) := by decide +kernel
theorem dJx4a65c_add_9ea2d_11 : decode cJx4a65c_add_9ea2d 11 = .ok (.aload_n 1, 1) := by decide +kernel
theorem dJx4a65c_add_9ea2d_12 : decode cJx4a65c_add_9ea2d 12 = .ok (.aload_n 0, 1) := by decide +kernel
theorem dJx4a65c_add_9ea2d_13 : decode cJx4a65c_add_9ea2d 13 = .ok (.getfield 9, 3) := by decide +kernel
theorem dJx4a65c_add_9ea2d_16 : decode cJx4a65c_add_9ea2d 16 = .ok (.aload_n 0, 1) := by decide +kernel
theorem dJx4a65c_add_9ea2d_17 : decode cJx4a65c_add_9ea2d 17 = .ok (.getfield 48, 3) := by decide +kernel
theorem dJx4a65c_add_9ea2d_20 : decode cJx4a65c_add_9ea2d 20 = .ok (.invokevirtual 131, 3) := by decide +kernel
theorem dJx4a65c_add_9ea2d_23 : decode cJx4a65c_add_9ea2d 23 = .ok (.iconst 1, 1) := by decide +kernel
theorem dJx4a65c_add_9ea2d_24 : decode cJx4a65c_add_9ea2d 24 = .ok (.ireturn, 1) := by decide +kernel
theorem dJx4a65c_remove_915e3_0 : decode cJx4a65c_remove_915e3 0 = .ok (.iload_n 1, 1) := by decide +kernel
theorem dJx4a65c_remove_915e3_1 : decode cJx4a65c_remove_915e3 1 = .ok (.aload_n 0, 1) := by decide +kernel
theorem dJx4a65c_remove_915e3_2 : decode cJx4a65c_remove_915e3 2 = .ok (.getfield 48, 3) := by decide +kernel
theorem dJx4a65c_remove_915e3_5 : decode cJx4a65c_remove_915e3 5 = .ok (.invokestatic 118, 3) := by decide +kernel
theorem dJx4a65c_remove_915e3_8 : decode cJx4a65c_remove_915e3 8 = .ok (.pop, 1) := by decide +kernel
theorem dJx4a65c_remove_915e3_9 : decode cJx4a65c_remove_915e3 9 = .ok (.aload_n 0, 1) := by decide +kernel
theorem dJx4a65c_remove_915e3_10 : decode cJx4a65c_remove_915e3 10 = .ok (.getfield 9, 3) := by decide +kernel
theorem dJx4a65c_remove_915e3_13 : decode cJx4a65c_remove_915e3 13 = .ok (.astore_n 2, 1) := by decide +kernel
theorem dJx4a65c_remove_915e3_14 : decode cJx4a65c_remove_915e3 14 = .ok (.aload_n 2, 1) := by decide +kernel
theorem dJx4a65c_remove_915e3_15 : decode cJx4a65c_remove_915e3 15 = .ok (.iload_n 1, 1) := by decide +kernel
theorem dJx4a65c_remove_915e3_16 : decode cJx4a65c_remove_915e3 16 = .ok (.aaload, 1) := by decide +kernel
theorem dJx4a65c_remove_915e3_17 : decode cJx4a65c_remove_915e3 17 = .ok (.astore_n 3, 1) := by decide +kernel
theorem dJx4a65c_remove_915e3_18 : decode cJx4a65c_remove_915e3 18 = .ok (.aload_n 0, 1) := by decide +kernel
theorem dJx4a65c_remove_915e3_19 : decode cJx4a65c_remove_915e3 19 = .ok (.aload_n 2, 1) := by decide +kernel
theorem dJx4a65c_remove_915e3_20 : decode cJx4a65c_remove_915e3 20 = .ok (.iload_n 1, 1) := by decide +kernel
theorem dJx4a65c_remove_915e3_21 : decode cJx4a65c_remove_915e3 21 = .ok (.invokevirtual 144, 3) := by decide +kernel
theorem dJx4a65c_remove_915e3_24 : decode cJx4a65c_remove_915e3 24 = .ok (.aload_n 3, 1) := by decide +kernel
theorem dJx4a65c_remove_915e3_25 : decode cJx4a65c_remove_915e3 25 = .ok (.areturn, 1) := by decide +kernel
theorem dJx4a65c_fastRemove_b59b0_0 : decode cJx4a65c_fastRemove_b59b0 0 = .ok (.aload_n 0, 1) := by decide +kernel
theorem dJx4a65c_fastRemove_b59b0_1 : decode cJx4a65c_fastRemove_b59b0 1 = .ok (.dup, 1) := by decide +kernel
theorem dJx4a65c_fastRemove_b59b0_2 : decode cJx4a65c_fastRemove_b59b0 2 = .ok (.getfield 63, 3) := by decide +kernel
theorem dJx4a65c_fastRemove_b59b0_5 : decode cJx4a65c_fastRemove_b59b0 5 = .ok (.iconst 1, 1) := by decide +kernel
theorem dJx4a65c_fastRemove_b59b0_6 : decode cJx4a65c_fastRemove_b59b0 6 = .ok (.iadd, 1) := by decide +kernel
theorem dJx4a65c_fastRemove_b59b0_7 : decode cJx4a65c_fastRemove_b59b0 7 = .ok (.putfield 63, 3) := by decide +kernel
theorem dJx4a65c_fastRemove_b59b0_10 : decode cJx4a65c_fastRemove_b59b0 10 = .ok (.aload_n 0, 1) := by decide +kernel
theorem dJx4a65c_fastRemove_b59b0_11 : decode cJx4a65c_fastRemove_b59b0 11 = .ok (.getfield 48, 3) := by decide +kernel
theorem dJx4a65c_fastRemove_b59b0_14 : decode cJx4a65c_fastRemove_b59b0 14 = .ok (.iconst 1, 1) := by decide +kernel
theorem dJx4a65c_fastRemove_b59b0_15 : decode cJx4a65c_fastRemove_b59b0 15 = .ok (.isub, 1) := by decide +kernel
theorem dJx4a65c_fastRemove_b59b0_16 : decode cJx4a65c_fastRemove_b59b0 16 = .ok (.dup, 1) := by decide +kernel
theorem dJx4a65c_fastRemove_b59b0_17 : decode cJx4a65c_fastRemove_b59b0 17 = .ok (.istore_n 3, 1) := by decide +kernel
theorem dJx4a65c_fastRemove_b59b0_18 : decode cJx4a65c_fastRemove_b59b0 18 = .ok (.iload_n 2, 1) := by decide +kernel
theorem dJx4a65c_fastRemove_b59b0_19 : decode cJx4a65c_fastRemove_b59b0 19 = .ok (.if_icmp .le 15, 3) := by decide +kernel
theorem dJx4a65c_fastRemove_b59b0_22 : decode cJx4a65c_fastRemove_b59b0 22 = .ok (.aload_n 1, 1) := by decide +kernel
theorem dJx4a65c_fastRemove_b59b0_23 : decode cJx4a65c_fastRemove_b59b0 23 = .ok (.iload_n 2, 1) := by decide +kernel
theorem dJx4a65c_fastRemove_b59b0_24 : decode cJx4a65c_fastRemove_b59b0 24 = .ok (.iconst 1, 1) := by decide +kernel
theorem dJx4a65c_fastRemove_b59b0_25 : decode cJx4a65c_fastRemove_b59b0 25 = .ok (.iadd, 1) := by decide +kernel
theorem dJx4a65c_fastRemove_b59b0_26 : decode cJx4a65c_fastRemove_b59b0 26 = .ok (.aload_n 1, 1) := by decide +kernel
theorem dJx4a65c_fastRemove_b59b0_27 : decode cJx4a65c_fastRemove_b59b0 27 = .ok (.iload_n 2, 1) := by decide +kernel
theorem dJx4a65c_fastRemove_b59b0_28 : decode cJx4a65c_fastRemove_b59b0 28 = .ok (.iload_n 3, 1) := by decide +kernel
theorem dJx4a65c_fastRemove_b59b0_29 : decode cJx4a65c_fastRemove_b59b0 29 = .ok (.iload_n 2, 1) := by decide +kernel
theorem dJx4a65c_fastRemove_b59b0_30 : decode cJx4a65c_fastRemove_b59b0 30 = .ok (.isub, 1) := by decide +kernel
theorem dJx4a65c_fastRemove_b59b0_31 : decode cJx4a65c_fastRemove_b59b0 31 = .ok (.invokestatic 112, 3) := by decide +kernel
theorem dJx4a65c_fastRemove_b59b0_34 : decode cJx4a65c_fastRemove_b59b0 34 = .ok (.aload_n 1, 1) := by decide +kernel
theorem dJx4a65c_fastRemove_b59b0_35 : decode cJx4a65c_fastRemove_b59b0 35 = .ok (.aload_n 0, 1) := by decide +kernel
theorem dJx4a65c_fastRemove_b59b0_36 : decode cJx4a65c_fastRemove_b59b0 36 = .ok (.iload_n 3, 1) := by decide +kernel
theorem dJx4a65c_fastRemove_b59b0_37 : decode cJx4a65c_fastRemove_b59b0 37 = .ok (.dup_x1, 1) := by decide +kernel
theorem dJx4a65c_fastRemove_b59b0_38 : decode cJx4a65c_fastRemove_b59b0 38 = .ok (.putfield 48, 3) := by decide +kernel
theorem dJx4a65c_fastRemove_b59b0_41 : decode cJx4a65c_fastRemove_b59b0 41 = .ok (.aconst_null, 1) := by decide +kernel
theorem dJx4a65c_fastRemove_b59b0_42 : decode cJx4a65c_fastRemove_b59b0 42 = .ok (.aastore, 1) := by decide +kernel
theorem dJx4a65c_fastRemove_b59b0_43 : decode cJx4a65c_fastRemove_b59b0 43 = .ok (.return_, 1) := by decide +kernel
theorem dJ7_copyOf_1904c_0 : decode cJ7_copyOf_1904c 0 = .ok (.aload_n 0, 1) := by decide +kernel
theorem dJ7_copyOf_1904c_1 : decode cJ7_copyOf_1904c 1 = .ok (.iload_n 1, 1) := by decide +kernel
theorem dJ7_copyOf_1904c_2 : decode cJ7_copyOf_1904c 2 = .ok (.aload_n 0, 1) := by decide +kernel
theorem dJ7_copyOf_1904c_3 : decode cJ7_copyOf_1904c 3 = .ok (.invokevirtual 86, 3) := by decide +kernel
theorem dJ7_copyOf_1904c_6 : decode cJ7_copyOf_1904c 6 = .ok (.invokestatic 300, 3) := by decide +kernel
theorem dJ7_copyOf_1904c_9 : decode cJ7_copyOf_1904c 9 = .ok (.areturn, 1) := by decide +kernel
theorem dJ7_copyOf_6403c_0 : decode cJ7_copyOf_6403c 0 = .ok (.aload_n 2, 1) := by decide +kernel
theorem dJ7_copyOf_6403c_1 : decode cJ7_copyOf_6403c 1 = .ok (.ldc 110, 2) := by decide +kernel
theorem dJ7_copyOf_6403c_3 : decode cJ7_copyOf_6403c 3 = .ok (.if_acmp .ne 10, 3) := by decide +kernel
theorem dJ7_copyOf_6403c_6 : decode cJ7_copyOf_6403c 6 = .ok (.iload_n 1, 1) := by decide +kernel
theorem dJ7_copyOf_6403c_7 : decode cJ7_copyOf_6403c 7 = .ok (.anewarray 2, 3) := by decide +kernel
theorem dJ7_copyOf_6403c_10 : decode cJ7_copyOf_6403c 10 = .ok (.goto 14, 3) := by decide +kernel
theorem dJ7_copyOf_6403c_13 : decode cJ7_copyOf_6403c 13 = .ok (.aload_n 2, 1) := by decide +kernel
theorem dJ7_copyOf_6403c_14 : decode cJ7_copyOf_6403c 14 = .ok (.invokevirtual 90, 3) := by decide +kernel
theorem dJ7_copyOf_6403c_17 : decode cJ7_copyOf_6403c 17 = .ok (.iload_n 1, 1) := by decide +kernel
theorem dJ7_copyOf_6403c_18 : decode cJ7_copyOf_6403c 18 = .ok (.invokestatic 95, 3) := by decide +kernel
theorem dJ7_copyOf_6403c_21 : decode cJ7_copyOf_6403c 21 = .ok (.checkcast 110, 3) := by decide +kernel
theorem dJ7_copyOf_6403c_24 : decode cJ7_copyOf_6403c 24 = .ok (.astore_n 3, 1) := by decide +kernel
theorem dJ7_copyOf_6403c_25 : decode cJ7_copyOf_6403c 25 = .ok (.aload_n 0, 1) := by decide +kernel
theorem dJ7_copyOf_6403c_26 : decode cJ7_copyOf_6403c 26 = .ok (.iconst 0, 1) := by decide +kernel
theorem dJ7_copyOf_6403c_27 : decode cJ7_copyOf_6403c 27 = .ok (.aload_n 3, 1) := by decide +kernel
theorem dJ7_copyOf_6403c_28 : decode cJ7_copyOf_6403c 28 = .ok (.iconst 0, 1) := by decide +kernel
theorem dJ7_copyOf_6403c_29 : decode cJ7_copyOf_6403c 29 = .ok (.aload_n 0, 1) := by decide +kernel
theorem dJ7_copyOf_6403c_30 : decode cJ7_copyOf_6403c 30 = .ok (.arraylength, 1) := by decide +kernel
theorem dJ7_copyOf_6403c_31 : decode cJ7_copyOf_6403c 31 = .ok (.iload_n 1, 1) := by decide +kernel
theorem dJ7_copyOf_6403c_32 : decode cJ7_copyOf_6403c 32 = .ok (.invokestatic 304, 3) := by decide +kernel
theorem dJ7_copyOf_6403c_35 : decode cJ7_copyOf_6403c 35 = .ok (.invokestatic 150, 3) := by decide +kernel
theorem dJ7_copyOf_6403c_38 : decode cJ7_copyOf_6403c 38 = .ok (.aload_n 3, 1) := by decide +kernel
theorem dJ7_copyOf_6403c_39 : decode cJ7_copyOf_6403c 39 = .ok (.areturn, 1) := by decide +kernel
theorem dJ15_checkIndex_7cf53_0 : decode cJ15_checkIndex_7cf53 0 = .ok (.iload_n 0, 1) := by decide +kernel
theorem dJ15_checkIndex_7cf53_1 : decode cJ15_checkIndex_7cf53 1 = .ok (.iload_n 1, 1) := by decide +kernel
theorem dJ15_checkIndex_7cf53_2 : decode cJ15_checkIndex_7cf53 2 = .ok (.aconst_null, 1) := by decide +kernel
theorem dJ15_checkIndex_7cf53_3 : decode cJ15_checkIndex_7cf53 3 = .ok (.invokestatic 105, 3) := by decide +kernel
theorem dJ15_checkIndex_7cf53_6 : decode cJ15_checkIndex_7cf53 6 = .ok (.ireturn, 1) := by decide +kernel
theorem dJ8_newLength_cabcc_0 : decode cJ8_newLength_cabcc 0 = .ok (.iload_n 0, 1) := by decide +kernel
theorem dJ8_newLength_cabcc_1 : decode cJ8_newLength_cabcc 1 = .ok (.iload_n 1, 1) := by decide +kernel
theorem dJ8_newLength_cabcc_2 : decode cJ8_newLength_cabcc 2 = .ok (.iload_n 2, 1) := by decide +kernel
theorem dJ8_newLength_cabcc_3 : decode cJ8_newLength_cabcc 3 = .ok (.invokestatic 194, 3) := by decide +kernel
theorem dJ8_newLength_cabcc_6 : decode cJ8_newLength_cabcc 6 = .ok (.iadd, 1) := by decide +kernel
theorem dJ8_newLength_cabcc_7 : decode cJ8_newLength_cabcc 7 = .ok (.istore_n 3, 1) := by decide +kernel
theorem dJ8_newLength_cabcc_8 : decode cJ8_newLength_cabcc 8 = .ok (.iconst 0, 1) := by decide +kernel
theorem dJ8_newLength_cabcc_9 : decode cJ8_newLength_cabcc 9 = .ok (.iload_n 3, 1) := by decide +kernel
theorem dJ8_newLength_cabcc_10 : decode cJ8_newLength_cabcc 10 = .ok (.if_icmp .ge 11, 3) := by decide +kernel
theorem dJ8_newLength_cabcc_13 : decode cJ8_newLength_cabcc 13 = .ok (.iload_n 3, 1) := by decide +kernel
theorem dJ8_newLength_cabcc_14 : decode cJ8_newLength_cabcc 14 = .ok (.ldc 200, 2) := by decide +kernel
theorem dJ8_newLength_cabcc_16 : decode cJ8_newLength_cabcc 16 = .ok (.if_icmp .gt 5, 3) := by decide +kernel
theorem dJ8_newLength_cabcc_19 : decode cJ8_newLength_cabcc 19 = .ok (.iload_n 3, 1) := by decide +kernel
theorem dJ8_newLength_cabcc_20 : decode cJ8_newLength_cabcc 20 = .ok (.ireturn, 1) := by decide +kernel
theorem dJ8_newLength_cabcc_21 : decode cJ8_newLength_cabcc 21 = .ok (.iload_n 0, 1) := by decide +kernel
theorem dJ8_newLength_cabcc_22 : decode cJ8_newLength_cabcc 22 = .ok (.iload_n 1, 1) := by decide +kernel
theorem dJ8_newLength_cabcc_23 : decode cJ8_newLength_cabcc 23 = .ok (.invokestatic 201, 3) := by decide +kernel
theorem dJ8_newLength_cabcc_26 : decode cJ8_newLength_cabcc 26 = .ok (.ireturn, 1) := by decide +kernel
theorem dJ8_hugeLength_7cf53_0 : decode cJ8_hugeLength_7cf53 0 = .ok (.iload_n 0, 1) := by decide +kernel
theorem dJ8_hugeLength_7cf53_1 : decode cJ8_hugeLength_7cf53 1 = .ok (.iload_n 1, 1) := by decide +kernel
theorem dJ8_hugeLength_7cf53_2 : decode cJ8_hugeLength_7cf53 2 = .ok (.iadd, 1) := by decide +kernel
theorem dJ8_hugeLength_7cf53_3 : decode cJ8_hugeLength_7cf53 3 = .ok (.istore_n 2, 1) := by decide +kernel
theorem dJ8_hugeLength_7cf53_4 : decode cJ8_hugeLength_7cf53 4 = .ok (.iload_n 2, 1) := by decide +kernel
theorem dJ8_hugeLength_7cf53_5 : decode cJ8_hugeLength_7cf53 5 = .ok (.ifCond .ge 44, 3) := by decide +kernel
theorem dJ8_hugeLength_7cf53_8 : decode cJ8_hugeLength_7cf53 8 = .ok (.new 204, 3) := by decide +kernel
theorem dJ8_hugeLength_7cf53_11 : decode cJ8_hugeLength_7cf53 11 = .ok (.dup, 1) := by decide +kernel
theorem dJ8_hugeLength_7cf53_12 : decode cJ8_hugeLength_7cf53 12 = .ok (.new 89, 3) := by decide +kernel
theorem dJ8_hugeLength_7cf53_15 : decode cJ8_hugeLength_7cf53 15 = .ok (.dup, 1) := by decide +kernel
theorem dJ8_hugeLength_7cf53_16 : decode cJ8_hugeLength_7cf53 16 = .ok (.invokespecial 91, 3) := by decide +kernel
theorem dJ8_hugeLength_7cf53_19 : decode cJ8_hugeLength_7cf53 19 = .ok (.ldc 206, 2) := by decide +kernel
theorem dJ8_hugeLength_7cf53_21 : decode cJ8_hugeLength_7cf53 21 = .ok (.invokevirtual 94, 3) := by decide +kernel
theorem dJ8_hugeLength_7cf53_24 : decode cJ8_hugeLength_7cf53 24 = .ok (.iload_n 0, 1) := by decide +kernel
theorem dJ8_hugeLength_7cf53_25 : decode cJ8_hugeLength_7cf53 25 = .ok (.invokevirtual 98, 3) := by decide +kernel
theorem dJ8_hugeLength_7cf53_28 : decode cJ8_hugeLength_7cf53 28 = .ok (.ldc 208, 2) := by decide +kernel
theorem dJ8_hugeLength_7cf53_30 : decode cJ8_hugeLength_7cf53 30 = .ok (.invokevirtual 94, 3) := by decide +kernel
theorem dJ8_hugeLength_7cf53_33 : decode cJ8_hugeLength_7cf53 33 = .ok (.iload_n 1, 1) := by decide +kernel
theorem dJ8_hugeLength_7cf53_34 : decode cJ8_hugeLength_7cf53 34 = .ok (.invokevirtual 98, 3) := by decide +kernel
theorem dJ8_hugeLength_7cf53_37 : decode cJ8_hugeLength_7cf53 37 = .ok (.ldc 210, 2) := by decide +kernel
theorem dJ8_hugeLength_7cf53_39 : decode cJ8_hugeLength_7cf53 39 = .ok (.invokevirtual 94, 3) := by decide +kernel
theorem dJ8_hugeLength_7cf53_42 : decode cJ8_hugeLength_7cf53 42 = .ok (.invokevirtual 101, 3) := by decide +kernel
theorem dJ8_hugeLength_7cf53_45 : decode cJ8_hugeLength_7cf53 45 = .ok (.invokespecial 212, 3) := by decide +kernel
theorem dJ8_hugeLength_7cf53_48 : decode cJ8_hugeLength_7cf53 48 = .ok (.athrow, 1) := by decide +kernel
theorem dJ8_hugeLength_7cf53_49 : decode cJ8_hugeLength_7cf53 49 = .ok (.iload_n 2, 1) := by decide +kernel
theorem dJ8_hugeLength_7cf53_50 : decode cJ8_hugeLength_7cf53 50 = .ok (.ldc 200, 2) := by decide +kernel
theorem dJ8_hugeLength_7cf53_52 : decode cJ8_hugeLength_7cf53 52 = .ok (.if_icmp .gt 6, 3) := by decide +kernel
theorem dJ8_hugeLength_7cf53_55 : decode cJ8_hugeLength_7cf53 55 = .ok (.ldc 200, 2) := by decide +kernel
theorem dJ8_hugeLength_7cf53_57 : decode cJ8_hugeLength_7cf53 57 = .ok (.ireturn, 1) := by decide +kernel
theorem dJ8_hugeLength_7cf53_58 : decode cJ8_hugeLength_7cf53 58 = .ok (.iload_n 2, 1) := by decide +kernel
theorem dJ8_hugeLength_7cf53_59 : decode cJ8_hugeLength_7cf53 59 = .ok (.ireturn, 1) := by decide +kernel
theorem dJ3_checkIndex_8e157_0 : decode cJ3_checkIndex_8e157 0 = .ok (.iload_n 0, 1) := by decide +kernel
theorem dJ3_checkIndex_8e157_1 : decode cJ3_checkIndex_8e157 1 = .ok (.ifCond .lt 8, 3) := by decide +kernel
theorem dJ3_checkIndex_8e157_4 : decode cJ3_checkIndex_8e157 4 = .ok (.iload_n 0, 1) := by decide +kernel
theorem dJ3_checkIndex_8e157_5 : decode cJ3_checkIndex_8e157 5 = .ok (.iload_n 1, 1) := by decide +kernel
theorem dJ3_checkIndex_8e157_6 : decode cJ3_checkIndex_8e157 6 = .ok (.if_icmp .lt 10, 3) := by decide +kernel
theorem dJ3_checkIndex_8e157_9 : decode cJ3_checkIndex_8e157 9 = .ok (.aload_n 2, 1) := by decide +kernel
theorem dJ3_checkIndex_8e157_10 : decode cJ3_checkIndex_8e157 10 = .ok (.iload_n 0, 1) := by decide +kernel
theorem dJ3_checkIndex_8e157_11 : decode cJ3_checkIndex_8e157 11 = .ok (.iload_n 1, 1) := by decide +kernel
theorem dJ3_checkIndex_8e157_12 : decode cJ3_checkIndex_8e157 12 = .ok (.invokestatic 95, 3) := by decide +kernel
theorem dJ3_checkIndex_8e157_15 : decode cJ3_checkIndex_8e157 15 = .ok (.athrow, 1) := by decide +kernel
theorem dJ3_checkIndex_8e157_16 : decode cJ3_checkIndex_8e157 16 = .ok (.iload_n 0, 1) := by decide +kernel
theorem dJ3_checkIndex_8e157_17 : decode cJ3_checkIndex_8e157 17 = .ok (.ireturn, 1) := by decide +kernel
theorem dL_below_0 : decode cL_below 0 = .ok (.iload_n 0, 1) := by decide +kernel
theorem dL_below_1 : decode cL_below 1 = .ok (.ldc 7, 2) := by decide +kernel
theorem dL_below_3 : decode cL_below 3 = .ok (.iand, 1) := by decide +kernel
theorem dL_below_4 : decode cL_below 4 = .ok (.iload_n 1, 1) := by decide +kernel
theorem dL_below_5 : decode cL_below 5 = .ok (.irem, 1) := by decide +kernel
theorem dL_below_6 : decode cL_below 6 = .ok (.ireturn, 1) := by decide +kernel
theorem dL_cell_0 : decode cL_cell 0 = .ok (.iload_n 1, 1) := by decide +kernel
theorem dL_cell_1 : decode cL_cell 1 = .ok (.aload_n 0, 1) := by decide +kernel
theorem dL_cell_2 : decode cL_cell 2 = .ok (.arraylength, 1) := by decide +kernel
theorem dL_cell_3 : decode cL_cell 3 = .ok (.if_icmp .ge 9, 3) := by decide +kernel
theorem dL_cell_6 : decode cL_cell 6 = .ok (.aload_n 0, 1) := by decide +kernel
theorem dL_cell_7 : decode cL_cell 7 = .ok (.iload_n 1, 1) := by decide +kernel
theorem dL_cell_8 : decode cL_cell 8 = .ok (.iaload, 1) := by decide +kernel
theorem dL_cell_9 : decode cL_cell 9 = .ok (.goto 9, 3) := by decide +kernel
theorem dL_cell_12 : decode cL_cell 12 = .ok (.ldc 8, 2) := by decide +kernel
theorem dL_cell_14 : decode cL_cell 14 = .ok (.iload_n 1, 1) := by decide +kernel
theorem dL_cell_15 : decode cL_cell 15 = .ok (.iconst 3, 1) := by decide +kernel
theorem dL_cell_16 : decode cL_cell 16 = .ok (.iadd, 1) := by decide +kernel
theorem dL_cell_17 : decode cL_cell 17 = .ok (.imul, 1) := by decide +kernel
theorem dL_cell_18 : decode cL_cell 18 = .ok (.ireturn, 1) := by decide +kernel
theorem dL_build_0 : decode cL_build 0 = .ok (.iconst 1, 1) := by decide +kernel
theorem dL_build_1 : decode cL_build 1 = .ok (.aload_n 1, 1) := by decide +kernel
theorem dL_build_2 : decode cL_build 2 = .ok (.iload_n 2, 1) := by decide +kernel
theorem dL_build_3 : decode cL_build 3 = .ok (.invokestatic 9, 3) := by decide +kernel
theorem dL_build_6 : decode cL_build 6 = .ok (.iload_n 3, 1) := by decide +kernel
theorem dL_build_7 : decode cL_build 7 = .ok (.invokestatic 15, 3) := by decide +kernel
theorem dL_build_10 : decode cL_build 10 = .ok (.iadd, 1) := by decide +kernel
theorem dL_build_11 : decode cL_build 11 = .ok (.istore 7, 2) := by decide +kernel
theorem dL_build_13 : decode cL_build 13 = .ok (.iconst 0, 1) := by decide +kernel
theorem dL_build_14 : decode cL_build 14 = .ok (.istore 8, 2) := by decide +kernel
theorem dL_build_16 : decode cL_build 16 = .ok (.iload 8, 2) := by decide +kernel
theorem dL_build_18 : decode cL_build 18 = .ok (.bipush 81, 2) := by decide +kernel
theorem dL_build_20 : decode cL_build 20 = .ok (.if_icmp .ge 33, 3) := by decide +kernel
theorem dL_build_23 : decode cL_build 23 = .ok (.aload 4, 2) := by decide +kernel
theorem dL_build_25 : decode cL_build 25 = .ok (.iload 8, 2) := by decide +kernel
theorem dL_build_27 : decode cL_build 27 = .ok (.iload 8, 2) := by decide +kernel
theorem dL_build_29 : decode cL_build 29 = .ok (.bipush 9, 2) := by decide +kernel
theorem dL_build_31 : decode cL_build 31 = .ok (.idiv, 1) := by decide +kernel
theorem dL_build_32 : decode cL_build 32 = .ok (.iload 8, 2) := by decide +kernel
theorem dL_build_34 : decode cL_build 34 = .ok (.bipush 9, 2) := by decide +kernel
theorem dL_build_36 : decode cL_build 36 = .ok (.irem, 1) := by decide +kernel
theorem dL_build_37 : decode cL_build 37 = .ok (.if_icmp .ne 7, 3) := by decide +kernel
theorem dL_build_40 : decode cL_build 40 = .ok (.iconst 0, 1) := by decide +kernel
theorem dL_build_41 : decode cL_build 41 = .ok (.goto 5, 3) := by decide +kernel
theorem dL_build_44 : decode cL_build 44 = .ok (.bipush 20, 2) := by decide +kernel
theorem dL_build_46 : decode cL_build 46 = .ok (.iastore, 1) := by decide +kernel
theorem dL_build_47 : decode cL_build 47 = .ok (.iinc 8 1, 3) := by decide +kernel
theorem dL_build_50 : decode cL_build 50 = .ok (.goto (-34), 3) := by decide +kernel
theorem dL_build_53 : decode cL_build 53 = .ok (.iconst 0, 1) := by decide +kernel
theorem dL_build_54 : decode cL_build 54 = .ok (.istore 8, 2) := by decide +kernel
theorem dL_build_56 : decode cL_build 56 = .ok (.iload 8, 2) := by decide +kernel
theorem dL_build_58 : decode cL_build 58 = .ok (.iload 7, 2) := by decide +kernel
theorem dL_build_60 : decode cL_build 60 = .ok (.if_icmp .ge 261, 3) := by decide +kernel
theorem dL_build_63 : decode cL_build 63 = .ok (.aload 5, 2) := by decide +kernel
theorem dL_build_65 : decode cL_build 65 = .ok (.iconst 3, 1) := by decide +kernel
theorem dL_build_66 : decode cL_build 66 = .ok (.iload 8, 2) := by decide +kernel
theorem dL_build_68 : decode cL_build 68 = .ok (.imul, 1) := by decide +kernel
theorem dL_build_69 : decode cL_build 69 = .ok (.aload_n 1, 1) := by decide +kernel
theorem dL_build_70 : decode cL_build 70 = .ok (.iload_n 2, 1) := by decide +kernel
theorem dL_build_71 : decode cL_build 71 = .ok (.invokestatic 9, 3) := by decide +kernel
theorem dL_build_74 : decode cL_build 74 = .ok (.iconst 4, 1) := by decide +kernel
theorem dL_build_75 : decode cL_build 75 = .ok (.iload 8, 2) := by decide +kernel
theorem dL_build_77 : decode cL_build 77 = .ok (.iadd, 1) := by decide +kernel
theorem dL_build_78 : decode cL_build 78 = .ok (.ishr, 1) := by decide +kernel
theorem dL_build_79 : decode cL_build 79 = .ok (.iconst 3, 1) := by decide +kernel
theorem dL_build_80 : decode cL_build 80 = .ok (.invokestatic 15, 3) := by decide +kernel
theorem dL_build_83 : decode cL_build 83 = .ok (.ifCond .ne 28, 3) := by decide +kernel
theorem dL_build_86 : decode cL_build 86 = .ok (.bipush 100, 2) := by decide +kernel
theorem dL_build_88 : decode cL_build 88 = .ok (.bipush 50, 2) := by decide +kernel
theorem dL_build_90 : decode cL_build 90 = .ok (.aload_n 1, 1) := by decide +kernel
theorem dL_build_91 : decode cL_build 91 = .ok (.iload_n 2, 1) := by decide +kernel
theorem dL_build_92 : decode cL_build 92 = .ok (.invokestatic 9, 3) := by decide +kernel
theorem dL_build_95 : decode cL_build 95 = .ok (.bipush 6, 2) := by decide +kernel
theorem dL_build_97 : decode cL_build 97 = .ok (.iload 8, 2) := by decide +kernel
theorem dL_build_99 : decode cL_build 99 = .ok (.iadd, 1) := by decide +kernel
theorem dL_build_100 : decode cL_build 100 = .ok (.ishr, 1) := by decide +kernel
theorem dL_build_101 : decode cL_build 101 = .ok (.bipush 10, 2) := by decide +kernel
theorem dL_build_103 : decode cL_build 103 = .ok (.invokestatic 15, 3) := by decide +kernel
theorem dL_build_106 : decode cL_build 106 = .ok (.imul, 1) := by decide +kernel
theorem dL_build_107 : decode cL_build 107 = .ok (.iadd, 1) := by decide +kernel
theorem dL_build_108 : decode cL_build 108 = .ok (.goto 5, 3) := by decide +kernel
theorem dL_build_111 : decode cL_build 111 = .ok (.ldc 19, 2) := by decide +kernel
theorem dL_build_113 : decode cL_build 113 = .ok (.iastore, 1) := by decide +kernel
theorem dL_build_114 : decode cL_build 114 = .ok (.aload_n 0, 1) := by decide +kernel
theorem dL_build_115 : decode cL_build 115 = .ok (.aload 5, 2) := by decide +kernel
theorem dL_build_117 : decode cL_build 117 = .ok (.iconst 3, 1) := by decide +kernel
theorem dL_build_118 : decode cL_build 118 = .ok (.iload 8, 2) := by decide +kernel
theorem dL_build_120 : decode cL_build 120 = .ok (.imul, 1) := by decide +kernel
theorem dL_build_121 : decode cL_build 121 = .ok (.iaload, 1) := by decide +kernel
theorem dL_build_122 : decode cL_build 122 = .ok (.invokevirtual 20, 3) := by decide +kernel
theorem dL_build_125 : decode cL_build 125 = .ok (.iload 8, 2) := by decide +kernel
theorem dL_build_127 : decode cL_build 127 = .ok (.if_icmp .eq 5, 3) := by decide +kernel
theorem dL_build_130 : decode cL_build 130 = .ok (.iconst (-1), 1) := by decide +kernel
theorem dL_build_131 : decode cL_build 131 = .ok (.ireturn, 1) := by decide +kernel
theorem dL_build_132 : decode cL_build 132 = .ok (.iconst 0, 1) := by decide +kernel
theorem dL_build_133 : decode cL_build 133 = .ok (.istore 9, 2) := by decide +kernel
theorem dL_build_135 : decode cL_build 135 = .ok (.iload 9, 2) := by decide +kernel
theorem dL_build_137 : decode cL_build 137 = .ok (.bipush 6, 2) := by decide +kernel
theorem dL_build_139 : decode cL_build 139 = .ok (.if_icmp .ge 176, 3) := by decide +kernel
theorem dL_build_142 : decode cL_build 142 = .ok (.bipush 36, 2) := by decide +kernel
theorem dL_build_144 : decode cL_build 144 = .ok (.iload 8, 2) := by decide +kernel
theorem dL_build_146 : decode cL_build 146 = .ok (.imul, 1) := by decide +kernel
theorem dL_build_147 : decode cL_build 147 = .ok (.bipush 6, 2) := by decide +kernel
theorem dL_build_149 : decode cL_build 149 = .ok (.iload 9, 2) := by decide +kernel
theorem dL_build_151 : decode cL_build 151 = .ok (.imul, 1) := by decide +kernel
theorem dL_build_152 : decode cL_build 152 = .ok (.iadd, 1) := by decide +kernel
theorem dL_build_153 : decode cL_build 153 = .ok (.istore 10, 2) := by decide +kernel
theorem dL_build_155 : decode cL_build 155 = .ok (.aload 6, 2) := by decide +kernel
theorem dL_build_157 : decode cL_build 157 = .ok (.iload 10, 2) := by decide +kernel
theorem dL_build_159 : decode cL_build 159 = .ok (.iconst 2, 1) := by decide +kernel
theorem dL_build_160 : decode cL_build 160 = .ok (.iadd, 1) := by decide +kernel
theorem dL_build_161 : decode cL_build 161 = .ok (.bipush 100, 2) := by decide +kernel
theorem dL_build_163 : decode cL_build 163 = .ok (.iastore, 1) := by decide +kernel
theorem dL_build_164 : decode cL_build 164 = .ok (.aload_n 1, 1) := by decide +kernel
theorem dL_build_165 : decode cL_build 165 = .ok (.iload_n 2, 1) := by decide +kernel
theorem dL_build_166 : decode cL_build 166 = .ok (.iconst 1, 1) := by decide +kernel
theorem dL_build_167 : decode cL_build 167 = .ok (.iadd, 1) := by decide +kernel
theorem dL_build_168 : decode cL_build 168 = .ok (.iload 8, 2) := by decide +kernel
theorem dL_build_170 : decode cL_build 170 = .ok (.iload 9, 2) := by decide +kernel
theorem dL_build_172 : decode cL_build 172 = .ok (.iadd, 1) := by decide +kernel
theorem dL_build_173 : decode cL_build 173 = .ok (.iconst 4, 1) := by decide +kernel
theorem dL_build_174 : decode cL_build 174 = .ok (.irem, 1) := by decide +kernel
theorem dL_build_175 : decode cL_build 175 = .ok (.iadd, 1) := by decide +kernel
theorem dL_build_176 : decode cL_build 176 = .ok (.invokestatic 9, 3) := by decide +kernel
theorem dL_build_179 : decode cL_build 179 = .ok (.iload 8, 2) := by decide +kernel
theorem dL_build_181 : decode cL_build 181 = .ok (.iconst 2, 1) := by decide +kernel
theorem dL_build_182 : decode cL_build 182 = .ok (.iload 9, 2) := by decide +kernel
theorem dL_build_184 : decode cL_build 184 = .ok (.imul, 1) := by decide +kernel
theorem dL_build_185 : decode cL_build 185 = .ok (.iadd, 1) := by decide +kernel
theorem dL_build_186 : decode cL_build 186 = .ok (.ishr, 1) := by decide +kernel
theorem dL_build_187 : decode cL_build 187 = .ok (.istore 11, 2) := by decide +kernel
theorem dL_build_189 : decode cL_build 189 = .ok (.iload 11, 2) := by decide +kernel
theorem dL_build_191 : decode cL_build 191 = .ok (.iconst 2, 1) := by decide +kernel
theorem dL_build_192 : decode cL_build 192 = .ok (.invokestatic 15, 3) := by decide +kernel
theorem dL_build_195 : decode cL_build 195 = .ok (.ifCond .ne 6, 3) := by decide +kernel
theorem dL_build_198 : decode cL_build 198 = .ok (.goto 111, 3) := by decide +kernel
theorem dL_build_201 : decode cL_build 201 = .ok (.aload 6, 2) := by decide +kernel
theorem dL_build_203 : decode cL_build 203 = .ok (.iload 10, 2) := by decide +kernel
theorem dL_build_205 : decode cL_build 205 = .ok (.iload 11, 2) := by decide +kernel
theorem dL_build_207 : decode cL_build 207 = .ok (.iconst 1, 1) := by decide +kernel
theorem dL_build_208 : decode cL_build 208 = .ok (.ishr, 1) := by decide +kernel
theorem dL_build_209 : decode cL_build 209 = .ok (.bipush 13, 2) := by decide +kernel
theorem dL_build_211 : decode cL_build 211 = .ok (.invokestatic 15, 3) := by decide +kernel
theorem dL_build_214 : decode cL_build 214 = .ok (.iastore, 1) := by decide +kernel
theorem dL_build_215 : decode cL_build 215 = .ok (.aload 6, 2) := by decide +kernel
theorem dL_build_217 : decode cL_build 217 = .ok (.iload 10, 2) := by decide +kernel
theorem dL_build_219 : decode cL_build 219 = .ok (.iconst 3, 1) := by decide +kernel
theorem dL_build_220 : decode cL_build 220 = .ok (.iadd, 1) := by decide +kernel
theorem dL_build_221 : decode cL_build 221 = .ok (.iload 11, 2) := by decide +kernel
theorem dL_build_223 : decode cL_build 223 = .ok (.iconst 4, 1) := by decide +kernel
theorem dL_build_224 : decode cL_build 224 = .ok (.ishr, 1) := by decide +kernel
theorem dL_build_225 : decode cL_build 225 = .ok (.iconst 5, 1) := by decide +kernel
theorem dL_build_226 : decode cL_build 226 = .ok (.invokestatic 15, 3) := by decide +kernel
theorem dL_build_229 : decode cL_build 229 = .ok (.iastore, 1) := by decide +kernel
theorem dL_build_230 : decode cL_build 230 = .ok (.aload_n 0, 1) := by decide +kernel
theorem dL_build_231 : decode cL_build 231 = .ok (.iload 8, 2) := by decide +kernel
theorem dL_build_233 : decode cL_build 233 = .ok (.iload 9, 2) := by decide +kernel
theorem dL_build_235 : decode cL_build 235 = .ok (.aload 6, 2) := by decide +kernel
theorem dL_build_237 : decode cL_build 237 = .ok (.iload 10, 2) := by decide +kernel
theorem dL_build_239 : decode cL_build 239 = .ok (.iaload, 1) := by decide +kernel
theorem dL_build_240 : decode cL_build 240 = .ok (.aload 6, 2) := by decide +kernel
theorem dL_build_242 : decode cL_build 242 = .ok (.iload 10, 2) := by decide +kernel
theorem dL_build_244 : decode cL_build 244 = .ok (.iconst 3, 1) := by decide +kernel
theorem dL_build_245 : decode cL_build 245 = .ok (.iadd, 1) := by decide +kernel
theorem dL_build_246 : decode cL_build 246 = .ok (.iaload, 1) := by decide +kernel
theorem dL_build_247 : decode cL_build 247 = .ok (.invokevirtual 26, 3) := by decide +kernel
theorem dL_build_250 : decode cL_build 250 = .ok (.ifCond .eq 5, 3) := by decide +kernel
theorem dL_build_253 : decode cL_build 253 = .ok (.iconst (-1), 1) := by decide +kernel
theorem dL_build_254 : decode cL_build 254 = .ok (.ireturn, 1) := by decide +kernel
theorem dL_build_255 : decode cL_build 255 = .ok (.iload 11, 2) := by decide +kernel
theorem dL_build_257 : decode cL_build 257 = .ok (.iconst 3, 1) := by decide +kernel
theorem dL_build_258 : decode cL_build 258 = .ok (.ishr, 1) := by decide +kernel
theorem dL_build_259 : decode cL_build 259 = .ok (.iconst 3, 1) := by decide +kernel
theorem dL_build_260 : decode cL_build 260 = .ok (.invokestatic 15, 3) := by decide +kernel
theorem dL_build_263 : decode cL_build 263 = .ok (.ifCond .le 6, 3) := by decide +kernel
theorem dL_build_266 : decode cL_build 266 = .ok (.goto 43, 3) := by decide +kernel
theorem dL_build_269 : decode cL_build 269 = .ok (.aload 6, 2) := by decide +kernel
theorem dL_build_271 : decode cL_build 271 = .ok (.iload 10, 2) := by decide +kernel
theorem dL_build_273 : decode cL_build 273 = .ok (.iconst 2, 1) := by decide +kernel
theorem dL_build_274 : decode cL_build 274 = .ok (.iadd, 1) := by decide +kernel
theorem dL_build_275 : decode cL_build 275 = .ok (.iconst 1, 1) := by decide +kernel
theorem dL_build_276 : decode cL_build 276 = .ok (.iload 11, 2) := by decide +kernel
theorem dL_build_278 : decode cL_build 278 = .ok (.iconst 5, 1) := by decide +kernel
theorem dL_build_279 : decode cL_build 279 = .ok (.ishr, 1) := by decide +kernel
theorem dL_build_280 : decode cL_build 280 = .ok (.sipush 300, 3) := by decide +kernel
theorem dL_build_283 : decode cL_build 283 = .ok (.invokestatic 15, 3) := by decide +kernel
theorem dL_build_286 : decode cL_build 286 = .ok (.iadd, 1) := by decide +kernel
theorem dL_build_287 : decode cL_build 287 = .ok (.iastore, 1) := by decide +kernel
theorem dL_build_288 : decode cL_build 288 = .ok (.aload_n 0, 1) := by decide +kernel
theorem dL_build_289 : decode cL_build 289 = .ok (.iload 8, 2) := by decide +kernel
theorem dL_build_291 : decode cL_build 291 = .ok (.iload 9, 2) := by decide +kernel
theorem dL_build_293 : decode cL_build 293 = .ok (.iconst 0, 1) := by decide +kernel
theorem dL_build_294 : decode cL_build 294 = .ok (.aload 6, 2) := by decide +kernel
theorem dL_build_296 : decode cL_build 296 = .ok (.iload 10, 2) := by decide +kernel
theorem dL_build_298 : decode cL_build 298 = .ok (.iconst 2, 1) := by decide +kernel
theorem dL_build_299 : decode cL_build 299 = .ok (.iadd, 1) := by decide +kernel
theorem dL_build_300 : decode cL_build 300 = .ok (.iaload, 1) := by decide +kernel
theorem dL_build_301 : decode cL_build 301 = .ok (.invokevirtual 30, 3) := by decide +kernel
theorem dL_build_304 : decode cL_build 304 = .ok (.ifCond .eq 5, 3) := by decide +kernel
theorem dL_build_307 : decode cL_build 307 = .ok (.iconst (-1), 1) := by decide +kernel
theorem dL_build_308 : decode cL_build 308 = .ok (.ireturn, 1) := by decide +kernel
theorem dL_build_309 : decode cL_build 309 = .ok (.iinc 9 1, 3) := by decide +kernel
theorem dL_build_312 : decode cL_build 312 = .ok (.goto (-177), 3) := by decide +kernel
theorem dL_build_315 : decode cL_build 315 = .ok (.iinc 8 1, 3) := by decide +kernel
theorem dL_build_318 : decode cL_build 318 = .ok (.goto (-262), 3) := by decide +kernel
theorem dL_build_321 : decode cL_build 321 = .ok (.iconst 0, 1) := by decide +kernel
theorem dL_build_322 : decode cL_build 322 = .ok (.istore 8, 2) := by decide +kernel
theorem dL_build_324 : decode cL_build 324 = .ok (.iload 8, 2) := by decide +kernel
theorem dL_build_326 : decode cL_build 326 = .ok (.iload 7, 2) := by decide +kernel
theorem dL_build_328 : decode cL_build 328 = .ok (.if_icmp .ge 148, 3) := by decide +kernel
theorem dL_build_331 : decode cL_build 331 = .ok (.iload 8, 2) := by decide +kernel
theorem dL_build_333 : decode cL_build 333 = .ok (.iconst 1, 1) := by decide +kernel
theorem dL_build_334 : decode cL_build 334 = .ok (.iadd, 1) := by decide +kernel
theorem dL_build_335 : decode cL_build 335 = .ok (.istore 9, 2) := by decide +kernel
theorem dL_build_337 : decode cL_build 337 = .ok (.iload 9, 2) := by decide +kernel
theorem dL_build_339 : decode cL_build 339 = .ok (.iload 7, 2) := by decide +kernel
theorem dL_build_341 : decode cL_build 341 = .ok (.if_icmp .gt 129, 3) := by decide +kernel
theorem dL_build_344 : decode cL_build 344 = .ok (.aload_n 1, 1) := by decide +kernel
theorem dL_build_345 : decode cL_build 345 = .ok (.iload_n 2, 1) := by decide +kernel
theorem dL_build_346 : decode cL_build 346 = .ok (.iconst 5, 1) := by decide +kernel
theorem dL_build_347 : decode cL_build 347 = .ok (.iadd, 1) := by decide +kernel
theorem dL_build_348 : decode cL_build 348 = .ok (.iload 8, 2) := by decide +kernel
theorem dL_build_350 : decode cL_build 350 = .ok (.iload 9, 2) := by decide +kernel
theorem dL_build_352 : decode cL_build 352 = .ok (.iadd, 1) := by decide +kernel
theorem dL_build_353 : decode cL_build 353 = .ok (.iconst 3, 1) := by decide +kernel
theorem dL_build_354 : decode cL_build 354 = .ok (.irem, 1) := by decide +kernel
theorem dL_build_355 : decode cL_build 355 = .ok (.iadd, 1) := by decide +kernel
theorem dL_build_356 : decode cL_build 356 = .ok (.invokestatic 9, 3) := by decide +kernel
theorem dL_build_359 : decode cL_build 359 = .ok (.iload 8, 2) := by decide +kernel
theorem dL_build_361 : decode cL_build 361 = .ok (.iconst 3, 1) := by decide +kernel
theorem dL_build_362 : decode cL_build 362 = .ok (.imul, 1) := by decide +kernel
theorem dL_build_363 : decode cL_build 363 = .ok (.iload 9, 2) := by decide +kernel
theorem dL_build_365 : decode cL_build 365 = .ok (.iadd, 1) := by decide +kernel
theorem dL_build_366 : decode cL_build 366 = .ok (.ishr, 1) := by decide +kernel
theorem dL_build_367 : decode cL_build 367 = .ok (.istore 10, 2) := by decide +kernel
theorem dL_build_369 : decode cL_build 369 = .ok (.iload 9, 2) := by decide +kernel
theorem dL_build_371 : decode cL_build 371 = .ok (.iload 7, 2) := by decide +kernel
theorem dL_build_373 : decode cL_build 373 = .ok (.if_icmp .ne 8, 3) := by decide +kernel
theorem dL_build_376 : decode cL_build 376 = .ok (.bipush 8, 2) := by decide +kernel
theorem dL_build_378 : decode cL_build 378 = .ok (.goto 5, 3) := by decide +kernel
theorem dL_build_381 : decode cL_build 381 = .ok (.iload 9, 2) := by decide +kernel
theorem dL_build_383 : decode cL_build 383 = .ok (.istore 11, 2) := by decide +kernel
theorem dL_build_385 : decode cL_build 385 = .ok (.iload 10, 2) := by decide +kernel
theorem dL_build_387 : decode cL_build 387 = .ok (.iconst 4, 1) := by decide +kernel
theorem dL_build_388 : decode cL_build 388 = .ok (.invokestatic 15, 3) := by decide +kernel
theorem dL_build_391 : decode cL_build 391 = .ok (.ifCond .ne 6, 3) := by decide +kernel
theorem dL_build_394 : decode cL_build 394 = .ok (.goto 70, 3) := by decide +kernel
theorem dL_build_397 : decode cL_build 397 = .ok (.iconst 1, 1) := by decide +kernel
theorem dL_build_398 : decode cL_build 398 = .ok (.iload 10, 2) := by decide +kernel
theorem dL_build_400 : decode cL_build 400 = .ok (.iconst 1, 1) := by decide +kernel
theorem dL_build_401 : decode cL_build 401 = .ok (.ishr, 1) := by decide +kernel
theorem dL_build_402 : decode cL_build 402 = .ok (.bipush 25, 2) := by decide +kernel
theorem dL_build_404 : decode cL_build 404 = .ok (.invokestatic 15, 3) := by decide +kernel
theorem dL_build_407 : decode cL_build 407 = .ok (.iadd, 1) := by decide +kernel
theorem dL_build_408 : decode cL_build 408 = .ok (.istore 12, 2) := by decide +kernel
theorem dL_build_410 : decode cL_build 410 = .ok (.aload_n 0, 1) := by decide +kernel
theorem dL_build_411 : decode cL_build 411 = .ok (.iload 9, 2) := by decide +kernel
theorem dL_build_413 : decode cL_build 413 = .ok (.iload 7, 2) := by decide +kernel
theorem dL_build_415 : decode cL_build 415 = .ok (.if_icmp .ne 7, 3) := by decide +kernel
theorem dL_build_418 : decode cL_build 418 = .ok (.iconst (-1), 1) := by decide +kernel
theorem dL_build_419 : decode cL_build 419 = .ok (.goto 5, 3) := by decide +kernel
theorem dL_build_422 : decode cL_build 422 = .ok (.iload 9, 2) := by decide +kernel
theorem dL_build_424 : decode cL_build 424 = .ok (.iload 8, 2) := by decide +kernel
theorem dL_build_426 : decode cL_build 426 = .ok (.iload 12, 2) := by decide +kernel
theorem dL_build_428 : decode cL_build 428 = .ok (.invokevirtual 33, 3) := by decide +kernel
theorem dL_build_431 : decode cL_build 431 = .ok (.bipush 20, 2) := by decide +kernel
theorem dL_build_433 : decode cL_build 433 = .ok (.if_icmp .eq 5, 3) := by decide +kernel
theorem dL_build_436 : decode cL_build 436 = .ok (.iconst (-1), 1) := by decide +kernel
theorem dL_build_437 : decode cL_build 437 = .ok (.ireturn, 1) := by decide +kernel
theorem dL_build_438 : decode cL_build 438 = .ok (.aload 4, 2) := by decide +kernel
theorem dL_build_440 : decode cL_build 440 = .ok (.bipush 9, 2) := by decide +kernel
theorem dL_build_442 : decode cL_build 442 = .ok (.iload 8, 2) := by decide +kernel
theorem dL_build_444 : decode cL_build 444 = .ok (.imul, 1) := by decide +kernel
theorem dL_build_445 : decode cL_build 445 = .ok (.iload 11, 2) := by decide +kernel
theorem dL_build_447 : decode cL_build 447 = .ok (.iadd, 1) := by decide +kernel
theorem dL_build_448 : decode cL_build 448 = .ok (.iload 12, 2) := by decide +kernel
theorem dL_build_450 : decode cL_build 450 = .ok (.iastore, 1) := by decide +kernel
theorem dL_build_451 : decode cL_build 451 = .ok (.aload 4, 2) := by decide +kernel
theorem dL_build_453 : decode cL_build 453 = .ok (.bipush 9, 2) := by decide +kernel
theorem dL_build_455 : decode cL_build 455 = .ok (.iload 11, 2) := by decide +kernel
theorem dL_build_457 : decode cL_build 457 = .ok (.imul, 1) := by decide +kernel
theorem dL_build_458 : decode cL_build 458 = .ok (.iload 8, 2) := by decide +kernel
theorem dL_build_460 : decode cL_build 460 = .ok (.iadd, 1) := by decide +kernel
theorem dL_build_461 : decode cL_build 461 = .ok (.iload 12, 2) := by decide +kernel
theorem dL_build_463 : decode cL_build 463 = .ok (.iastore, 1) := by decide +kernel
theorem dL_build_464 : decode cL_build 464 = .ok (.iinc 9 1, 3) := by decide +kernel
theorem dL_build_467 : decode cL_build 467 = .ok (.goto (-130), 3) := by decide +kernel
theorem dL_build_470 : decode cL_build 470 = .ok (.iinc 8 1, 3) := by decide +kernel
theorem dL_build_473 : decode cL_build 473 = .ok (.goto (-149), 3) := by decide +kernel
theorem dL_build_476 : decode cL_build 476 = .ok (.aload_n 0, 1) := by decide +kernel
theorem dL_build_477 : decode cL_build 477 = .ok (.invokevirtual 37, 3) := by decide +kernel
theorem dL_build_480 : decode cL_build 480 = .ok (.iload 7, 2) := by decide +kernel
theorem dL_build_482 : decode cL_build 482 = .ok (.if_icmp .ne 8, 3) := by decide +kernel
theorem dL_build_485 : decode cL_build 485 = .ok (.iload 7, 2) := by decide +kernel
theorem dL_build_487 : decode cL_build 487 = .ok (.goto 4, 3) := by decide +kernel
theorem dL_build_490 : decode cL_build 490 = .ok (.iconst (-1), 1) := by decide +kernel
theorem dL_build_491 : decode cL_build 491 = .ok (.ireturn, 1) := by decide +kernel
theorem dL_law_0 : decode cL_law 0 = .ok (.new 21, 3) := by decide +kernel
theorem dL_law_3 : decode cL_law 3 = .ok (.dup, 1) := by decide +kernel
theorem dL_law_4 : decode cL_law 4 = .ok (.invokespecial 74, 3) := by decide +kernel
theorem dL_law_7 : decode cL_law 7 = .ok (.astore_n 1, 1) := by decide +kernel
theorem dL_law_8 : decode cL_law 8 = .ok (.bipush 81, 2) := by decide +kernel
theorem dL_law_10 : decode cL_law 10 = .ok (.newarray .int, 2) := by decide +kernel
theorem dL_law_12 : decode cL_law 12 = .ok (.astore_n 2, 1) := by decide +kernel
theorem dL_law_13 : decode cL_law 13 = .ok (.aload_n 1, 1) := by decide +kernel
theorem dL_law_14 : decode cL_law 14 = .ok (.aload_n 0, 1) := by decide +kernel
theorem dL_law_15 : decode cL_law 15 = .ok (.iconst 0, 1) := by decide +kernel
theorem dL_law_16 : decode cL_law 16 = .ok (.bipush 6, 2) := by decide +kernel
theorem dL_law_18 : decode cL_law 18 = .ok (.aload_n 2, 1) := by decide +kernel
theorem dL_law_19 : decode cL_law 19 = .ok (.bipush 24, 2) := by decide +kernel
theorem dL_law_21 : decode cL_law 21 = .ok (.newarray .int, 2) := by decide +kernel
theorem dL_law_23 : decode cL_law 23 = .ok (.sipush 288, 3) := by decide +kernel
theorem dL_law_26 : decode cL_law 26 = .ok (.newarray .int, 2) := by decide +kernel
theorem dL_law_28 : decode cL_law 28 = .ok (.invokestatic 75, 3) := by decide +kernel
theorem dL_law_31 : decode cL_law 31 = .ok (.istore_n 3, 1) := by decide +kernel
theorem dL_law_32 : decode cL_law 32 = .ok (.iload_n 3, 1) := by decide +kernel
theorem dL_law_33 : decode cL_law 33 = .ok (.ifCond .ge 5, 3) := by decide +kernel
theorem dL_law_36 : decode cL_law 36 = .ok (.iconst 0, 1) := by decide +kernel
theorem dL_law_37 : decode cL_law 37 = .ok (.ireturn, 1) := by decide +kernel
theorem dL_law_38 : decode cL_law 38 = .ok (.iconst 0, 1) := by decide +kernel
theorem dL_law_39 : decode cL_law 39 = .ok (.istore 4, 2) := by decide +kernel
theorem dL_law_41 : decode cL_law 41 = .ok (.iload 4, 2) := by decide +kernel
theorem dL_law_43 : decode cL_law 43 = .ok (.iconst 5, 1) := by decide +kernel
theorem dL_law_44 : decode cL_law 44 = .ok (.if_icmp .ge 533, 3) := by decide +kernel
theorem dL_law_47 : decode cL_law 47 = .ok (.aload_n 0, 1) := by decide +kernel
theorem dL_law_48 : decode cL_law 48 = .ok (.bipush 9, 2) := by decide +kernel
theorem dL_law_50 : decode cL_law 50 = .ok (.iload 4, 2) := by decide +kernel
theorem dL_law_52 : decode cL_law 52 = .ok (.iadd, 1) := by decide +kernel
theorem dL_law_53 : decode cL_law 53 = .ok (.invokestatic 9, 3) := by decide +kernel
theorem dL_law_56 : decode cL_law 56 = .ok (.istore 5, 2) := by decide +kernel
theorem dL_law_58 : decode cL_law 58 = .ok (.iload 5, 2) := by decide +kernel
theorem dL_law_60 : decode cL_law 60 = .ok (.sipush 300, 3) := by decide +kernel
theorem dL_law_63 : decode cL_law 63 = .ok (.invokestatic 15, 3) := by decide +kernel
theorem dL_law_66 : decode cL_law 66 = .ok (.istore 6, 2) := by decide +kernel
theorem dL_law_68 : decode cL_law 68 = .ok (.iload 5, 2) := by decide +kernel
theorem dL_law_70 : decode cL_law 70 = .ok (.iconst 3, 1) := by decide +kernel
theorem dL_law_71 : decode cL_law 71 = .ok (.ishr, 1) := by decide +kernel
theorem dL_law_72 : decode cL_law 72 = .ok (.sipush 150, 3) := by decide +kernel
theorem dL_law_75 : decode cL_law 75 = .ok (.invokestatic 15, 3) := by decide +kernel
theorem dL_law_78 : decode cL_law 78 = .ok (.istore 7, 2) := by decide +kernel
theorem dL_law_80 : decode cL_law 80 = .ok (.aload_n 1, 1) := by decide +kernel
theorem dL_law_81 : decode cL_law 81 = .ok (.iload 6, 2) := by decide +kernel
theorem dL_law_83 : decode cL_law 83 = .ok (.iload 7, 2) := by decide +kernel
theorem dL_law_85 : decode cL_law 85 = .ok (.invokevirtual 79, 3) := by decide +kernel
theorem dL_law_88 : decode cL_law 88 = .ok (.istore 8, 2) := by decide +kernel
theorem dL_law_90 : decode cL_law 90 = .ok (.iconst 0, 1) := by decide +kernel
theorem dL_law_91 : decode cL_law 91 = .ok (.istore 9, 2) := by decide +kernel
theorem dL_law_93 : decode cL_law 93 = .ok (.iconst 0, 1) := by decide +kernel
theorem dL_law_94 : decode cL_law 94 = .ok (.istore 10, 2) := by decide +kernel
theorem dL_law_96 : decode cL_law 96 = .ok (.iconst 0, 1) := by decide +kernel
theorem dL_law_97 : decode cL_law 97 = .ok (.istore 11, 2) := by decide +kernel
theorem dL_law_99 : decode cL_law 99 = .ok (.iload 11, 2) := by decide +kernel
theorem dL_law_101 : decode cL_law 101 = .ok (.iload_n 3, 1) := by decide +kernel
theorem dL_law_102 : decode cL_law 102 = .ok (.if_icmp .ge 46, 3) := by decide +kernel
theorem dL_law_105 : decode cL_law 105 = .ok (.iload 8, 2) := by decide +kernel
theorem dL_law_107 : decode cL_law 107 = .ok (.iload 11, 2) := by decide +kernel
theorem dL_law_109 : decode cL_law 109 = .ok (.ishr, 1) := by decide +kernel
theorem dL_law_110 : decode cL_law 110 = .ok (.iconst 1, 1) := by decide +kernel
theorem dL_law_111 : decode cL_law 111 = .ok (.iand, 1) := by decide +kernel
theorem dL_law_112 : decode cL_law 112 = .ok (.ifCond .ne 6, 3) := by decide +kernel
theorem dL_law_115 : decode cL_law 115 = .ok (.goto 27, 3) := by decide +kernel
theorem dL_law_118 : decode cL_law 118 = .ok (.iload 9, 2) := by decide +kernel
theorem dL_law_120 : decode cL_law 120 = .ok (.aload_n 1, 1) := by decide +kernel
theorem dL_law_121 : decode cL_law 121 = .ok (.iload 11, 2) := by decide +kernel
theorem dL_law_123 : decode cL_law 123 = .ok (.iconst 3, 1) := by decide +kernel
theorem dL_law_124 : decode cL_law 124 = .ok (.invokevirtual 64, 3) := by decide +kernel
theorem dL_law_127 : decode cL_law 127 = .ok (.iadd, 1) := by decide +kernel
theorem dL_law_128 : decode cL_law 128 = .ok (.istore 9, 2) := by decide +kernel
theorem dL_law_130 : decode cL_law 130 = .ok (.iload 10, 2) := by decide +kernel
theorem dL_law_132 : decode cL_law 132 = .ok (.aload_n 1, 1) := by decide +kernel
theorem dL_law_133 : decode cL_law 133 = .ok (.iload 11, 2) := by decide +kernel
theorem dL_law_135 : decode cL_law 135 = .ok (.iconst 2, 1) := by decide +kernel
theorem dL_law_136 : decode cL_law 136 = .ok (.invokevirtual 64, 3) := by decide +kernel
theorem dL_law_139 : decode cL_law 139 = .ok (.iadd, 1) := by decide +kernel
theorem dL_law_140 : decode cL_law 140 = .ok (.istore 10, 2) := by decide +kernel
theorem dL_law_142 : decode cL_law 142 = .ok (.iinc 11 1, 3) := by decide +kernel
theorem dL_law_145 : decode cL_law 145 = .ok (.goto (-46), 3) := by decide +kernel
theorem dL_law_148 : decode cL_law 148 = .ok (.aload_n 1, 1) := by decide +kernel
theorem dL_law_149 : decode cL_law 149 = .ok (.iload 8, 2) := by decide +kernel
theorem dL_law_151 : decode cL_law 151 = .ok (.invokevirtual 82, 3) := by decide +kernel
theorem dL_law_154 : decode cL_law 154 = .ok (.iload 6, 2) := by decide +kernel
theorem dL_law_156 : decode cL_law 156 = .ok (.if_icmp .gt 10, 3) := by decide +kernel
theorem dL_law_159 : decode cL_law 159 = .ok (.iload 10, 2) := by decide +kernel
theorem dL_law_161 : decode cL_law 161 = .ok (.iload 7, 2) := by decide +kernel
theorem dL_law_163 : decode cL_law 163 = .ok (.if_icmp .le 5, 3) := by decide +kernel
theorem dL_law_166 : decode cL_law 166 = .ok (.iconst 0, 1) := by decide +kernel
theorem dL_law_167 : decode cL_law 167 = .ok (.ireturn, 1) := by decide +kernel
theorem dL_law_168 : decode cL_law 168 = .ok (.aload_n 1, 1) := by decide +kernel
theorem dL_law_169 : decode cL_law 169 = .ok (.iload 6, 2) := by decide +kernel
theorem dL_law_171 : decode cL_law 171 = .ok (.iload 5, 2) := by decide +kernel
theorem dL_law_173 : decode cL_law 173 = .ok (.iconst 5, 1) := by decide +kernel
theorem dL_law_174 : decode cL_law 174 = .ok (.ishr, 1) := by decide +kernel
theorem dL_law_175 : decode cL_law 175 = .ok (.bipush 100, 2) := by decide +kernel
theorem dL_law_177 : decode cL_law 177 = .ok (.invokestatic 15, 3) := by decide +kernel
theorem dL_law_180 : decode cL_law 180 = .ok (.iadd, 1) := by decide +kernel
theorem dL_law_181 : decode cL_law 181 = .ok (.iload 7, 2) := by decide +kernel
theorem dL_law_183 : decode cL_law 183 = .ok (.iload 5, 2) := by decide +kernel
theorem dL_law_185 : decode cL_law 185 = .ok (.bipush 7, 2) := by decide +kernel
theorem dL_law_187 : decode cL_law 187 = .ok (.ishr, 1) := by decide +kernel
theorem dL_law_188 : decode cL_law 188 = .ok (.bipush 100, 2) := by decide +kernel
theorem dL_law_190 : decode cL_law 190 = .ok (.invokestatic 15, 3) := by decide +kernel
theorem dL_law_193 : decode cL_law 193 = .ok (.iadd, 1) := by decide +kernel
theorem dL_law_194 : decode cL_law 194 = .ok (.invokevirtual 79, 3) := by decide +kernel
theorem dL_law_197 : decode cL_law 197 = .ok (.istore 11, 2) := by decide +kernel
theorem dL_law_199 : decode cL_law 199 = .ok (.iconst 0, 1) := by decide +kernel
theorem dL_law_200 : decode cL_law 200 = .ok (.istore 12, 2) := by decide +kernel
theorem dL_law_202 : decode cL_law 202 = .ok (.iconst 0, 1) := by decide +kernel
theorem dL_law_203 : decode cL_law 203 = .ok (.istore 13, 2) := by decide +kernel
theorem dL_law_205 : decode cL_law 205 = .ok (.iload 13, 2) := by decide +kernel
theorem dL_law_207 : decode cL_law 207 = .ok (.iload_n 3, 1) := by decide +kernel
theorem dL_law_208 : decode cL_law 208 = .ok (.if_icmp .ge 36, 3) := by decide +kernel
theorem dL_law_211 : decode cL_law 211 = .ok (.iload 12, 2) := by decide +kernel
theorem dL_law_213 : decode cL_law 213 = .ok (.iload 11, 2) := by decide +kernel
theorem dL_law_215 : decode cL_law 215 = .ok (.iload 13, 2) := by decide +kernel
theorem dL_law_217 : decode cL_law 217 = .ok (.ishr, 1) := by decide +kernel
theorem dL_law_218 : decode cL_law 218 = .ok (.iconst 1, 1) := by decide +kernel
theorem dL_law_219 : decode cL_law 219 = .ok (.iand, 1) := by decide +kernel
theorem dL_law_220 : decode cL_law 220 = .ok (.iconst 1, 1) := by decide +kernel
theorem dL_law_221 : decode cL_law 221 = .ok (.if_icmp .ne 13, 3) := by decide +kernel
theorem dL_law_224 : decode cL_law 224 = .ok (.aload_n 1, 1) := by decide +kernel
theorem dL_law_225 : decode cL_law 225 = .ok (.iload 13, 2) := by decide +kernel
theorem dL_law_227 : decode cL_law 227 = .ok (.iconst 3, 1) := by decide +kernel
theorem dL_law_228 : decode cL_law 228 = .ok (.invokevirtual 64, 3) := by decide +kernel
theorem dL_law_231 : decode cL_law 231 = .ok (.goto 4, 3) := by decide +kernel
theorem dL_law_234 : decode cL_law 234 = .ok (.iconst 0, 1) := by decide +kernel
theorem dL_law_235 : decode cL_law 235 = .ok (.iadd, 1) := by decide +kernel
theorem dL_law_236 : decode cL_law 236 = .ok (.istore 12, 2) := by decide +kernel
theorem dL_law_238 : decode cL_law 238 = .ok (.iinc 13 1, 3) := by decide +kernel
theorem dL_law_241 : decode cL_law 241 = .ok (.goto (-36), 3) := by decide +kernel
theorem dL_law_244 : decode cL_law 244 = .ok (.iload 12, 2) := by decide +kernel
theorem dL_law_246 : decode cL_law 246 = .ok (.iload 9, 2) := by decide +kernel
theorem dL_law_248 : decode cL_law 248 = .ok (.if_icmp .ge 5, 3) := by decide +kernel
theorem dL_law_251 : decode cL_law 251 = .ok (.iconst 0, 1) := by decide +kernel
theorem dL_law_252 : decode cL_law 252 = .ok (.ireturn, 1) := by decide +kernel
theorem dL_law_253 : decode cL_law 253 = .ok (.iload 5, 2) := by decide +kernel
theorem dL_law_255 : decode cL_law 255 = .ok (.bipush 9, 2) := by decide +kernel
theorem dL_law_257 : decode cL_law 257 = .ok (.ishr, 1) := by decide +kernel
theorem dL_law_258 : decode cL_law 258 = .ok (.iconst 1, 1) := by decide +kernel
theorem dL_law_259 : decode cL_law 259 = .ok (.iload_n 3, 1) := by decide +kernel
theorem dL_law_260 : decode cL_law 260 = .ok (.ishl, 1) := by decide +kernel
theorem dL_law_261 : decode cL_law 261 = .ok (.invokestatic 15, 3) := by decide +kernel
theorem dL_law_264 : decode cL_law 264 = .ok (.istore 13, 2) := by decide +kernel
theorem dL_law_266 : decode cL_law 266 = .ok (.bipush 8, 2) := by decide +kernel
theorem dL_law_268 : decode cL_law 268 = .ok (.istore 14, 2) := by decide +kernel
theorem dL_law_270 : decode cL_law 270 = .ok (.iconst 0, 1) := by decide +kernel
theorem dL_law_271 : decode cL_law 271 = .ok (.istore 15, 2) := by decide +kernel
theorem dL_law_273 : decode cL_law 273 = .ok (.iconst 0, 1) := by decide +kernel
theorem dL_law_274 : decode cL_law 274 = .ok (.istore 16, 2) := by decide +kernel
theorem dL_law_276 : decode cL_law 276 = .ok (.iconst 0, 1) := by decide +kernel
theorem dL_law_277 : decode cL_law 277 = .ok (.istore 17, 2) := by decide +kernel
theorem dL_law_279 : decode cL_law 279 = .ok (.iload 17, 2) := by decide +kernel
theorem dL_law_281 : decode cL_law 281 = .ok (.iload 13, 2) := by decide +kernel
theorem dL_law_283 : decode cL_law 283 = .ok (.invokestatic 59, 3) := by decide +kernel
theorem dL_law_286 : decode cL_law 286 = .ok (.if_icmp .ge 70, 3) := by decide +kernel
theorem dL_law_289 : decode cL_law 289 = .ok (.aload_n 1, 1) := by decide +kernel
theorem dL_law_290 : decode cL_law 290 = .ok (.iload 13, 2) := by decide +kernel
theorem dL_law_292 : decode cL_law 292 = .ok (.iload 17, 2) := by decide +kernel
theorem dL_law_294 : decode cL_law 294 = .ok (.invokevirtual 85, 3) := by decide +kernel
theorem dL_law_297 : decode cL_law 297 = .ok (.istore 18, 2) := by decide +kernel
theorem dL_law_299 : decode cL_law 299 = .ok (.iload 13, 2) := by decide +kernel
theorem dL_law_301 : decode cL_law 301 = .ok (.iload 18, 2) := by decide +kernel
theorem dL_law_303 : decode cL_law 303 = .ok (.ishr, 1) := by decide +kernel
theorem dL_law_304 : decode cL_law 304 = .ok (.iconst 1, 1) := by decide +kernel
theorem dL_law_305 : decode cL_law 305 = .ok (.iand, 1) := by decide +kernel
theorem dL_law_306 : decode cL_law 306 = .ok (.ifCond .eq 14, 3) := by decide +kernel
theorem dL_law_309 : decode cL_law 309 = .ok (.iload 16, 2) := by decide +kernel
theorem dL_law_311 : decode cL_law 311 = .ok (.iload 18, 2) := by decide +kernel
theorem dL_law_313 : decode cL_law 313 = .ok (.ishr, 1) := by decide +kernel
theorem dL_law_314 : decode cL_law 314 = .ok (.iconst 1, 1) := by decide +kernel
theorem dL_law_315 : decode cL_law 315 = .ok (.iand, 1) := by decide +kernel
theorem dL_law_316 : decode cL_law 316 = .ok (.iconst 1, 1) := by decide +kernel
theorem dL_law_317 : decode cL_law 317 = .ok (.if_icmp .ne 5, 3) := by decide +kernel
theorem dL_law_320 : decode cL_law 320 = .ok (.iconst 0, 1) := by decide +kernel
theorem dL_law_321 : decode cL_law 321 = .ok (.ireturn, 1) := by decide +kernel
theorem dL_law_322 : decode cL_law 322 = .ok (.iload 16, 2) := by decide +kernel
theorem dL_law_324 : decode cL_law 324 = .ok (.iconst 1, 1) := by decide +kernel
theorem dL_law_325 : decode cL_law 325 = .ok (.iload 18, 2) := by decide +kernel
theorem dL_law_327 : decode cL_law 327 = .ok (.ishl, 1) := by decide +kernel
theorem dL_law_328 : decode cL_law 328 = .ok (.ior, 1) := by decide +kernel
theorem dL_law_329 : decode cL_law 329 = .ok (.istore 16, 2) := by decide +kernel
theorem dL_law_331 : decode cL_law 331 = .ok (.iload 15, 2) := by decide +kernel
theorem dL_law_333 : decode cL_law 333 = .ok (.aload_n 2, 1) := by decide +kernel
theorem dL_law_334 : decode cL_law 334 = .ok (.bipush 9, 2) := by decide +kernel
theorem dL_law_336 : decode cL_law 336 = .ok (.iload 14, 2) := by decide +kernel
theorem dL_law_338 : decode cL_law 338 = .ok (.imul, 1) := by decide +kernel
theorem dL_law_339 : decode cL_law 339 = .ok (.iload 18, 2) := by decide +kernel
theorem dL_law_341 : decode cL_law 341 = .ok (.iadd, 1) := by decide +kernel
theorem dL_law_342 : decode cL_law 342 = .ok (.iaload, 1) := by decide +kernel
theorem dL_law_343 : decode cL_law 343 = .ok (.iadd, 1) := by decide +kernel
theorem dL_law_344 : decode cL_law 344 = .ok (.istore 15, 2) := by decide +kernel
theorem dL_law_346 : decode cL_law 346 = .ok (.iload 18, 2) := by decide +kernel
theorem dL_law_348 : decode cL_law 348 = .ok (.istore 14, 2) := by decide +kernel
theorem dL_law_350 : decode cL_law 350 = .ok (.iinc 17 1, 3) := by decide +kernel
theorem dL_law_353 : decode cL_law 353 = .ok (.goto (-74), 3) := by decide +kernel
theorem dL_law_356 : decode cL_law 356 = .ok (.iload 15, 2) := by decide +kernel
theorem dL_law_358 : decode cL_law 358 = .ok (.aload_n 2, 1) := by decide +kernel
theorem dL_law_359 : decode cL_law 359 = .ok (.bipush 9, 2) := by decide +kernel
theorem dL_law_361 : decode cL_law 361 = .ok (.iload 14, 2) := by decide +kernel
theorem dL_law_363 : decode cL_law 363 = .ok (.imul, 1) := by decide +kernel
theorem dL_law_364 : decode cL_law 364 = .ok (.bipush 8, 2) := by decide +kernel
theorem dL_law_366 : decode cL_law 366 = .ok (.iadd, 1) := by decide +kernel
theorem dL_law_367 : decode cL_law 367 = .ok (.iaload, 1) := by decide +kernel
theorem dL_law_368 : decode cL_law 368 = .ok (.iadd, 1) := by decide +kernel
theorem dL_law_369 : decode cL_law 369 = .ok (.aload_n 1, 1) := by decide +kernel
theorem dL_law_370 : decode cL_law 370 = .ok (.iload 13, 2) := by decide +kernel
theorem dL_law_372 : decode cL_law 372 = .ok (.invokevirtual 88, 3) := by decide +kernel
theorem dL_law_375 : decode cL_law 375 = .ok (.if_icmp .eq 5, 3) := by decide +kernel
theorem dL_law_378 : decode cL_law 378 = .ok (.iconst 0, 1) := by decide +kernel
theorem dL_law_379 : decode cL_law 379 = .ok (.ireturn, 1) := by decide +kernel
theorem dL_law_380 : decode cL_law 380 = .ok (.iconst 0, 1) := by decide +kernel
theorem dL_law_381 : decode cL_law 381 = .ok (.istore 17, 2) := by decide +kernel
theorem dL_law_383 : decode cL_law 383 = .ok (.iconst 0, 1) := by decide +kernel
theorem dL_law_384 : decode cL_law 384 = .ok (.istore 18, 2) := by decide +kernel
theorem dL_law_386 : decode cL_law 386 = .ok (.iconst 0, 1) := by decide +kernel
theorem dL_law_387 : decode cL_law 387 = .ok (.istore 19, 2) := by decide +kernel
theorem dL_law_389 : decode cL_law 389 = .ok (.iload 19, 2) := by decide +kernel
theorem dL_law_391 : decode cL_law 391 = .ok (.iload_n 3, 1) := by decide +kernel
theorem dL_law_392 : decode cL_law 392 = .ok (.if_icmp .ge 46, 3) := by decide +kernel
theorem dL_law_395 : decode cL_law 395 = .ok (.iload 13, 2) := by decide +kernel
theorem dL_law_397 : decode cL_law 397 = .ok (.iload 19, 2) := by decide +kernel
theorem dL_law_399 : decode cL_law 399 = .ok (.ishr, 1) := by decide +kernel
theorem dL_law_400 : decode cL_law 400 = .ok (.iconst 1, 1) := by decide +kernel
theorem dL_law_401 : decode cL_law 401 = .ok (.iand, 1) := by decide +kernel
theorem dL_law_402 : decode cL_law 402 = .ok (.ifCond .ne 6, 3) := by decide +kernel
theorem dL_law_405 : decode cL_law 405 = .ok (.goto 27, 3) := by decide +kernel
theorem dL_law_408 : decode cL_law 408 = .ok (.iload 17, 2) := by decide +kernel
theorem dL_law_410 : decode cL_law 410 = .ok (.aload_n 1, 1) := by decide +kernel
theorem dL_law_411 : decode cL_law 411 = .ok (.iload 19, 2) := by decide +kernel
theorem dL_law_413 : decode cL_law 413 = .ok (.iconst 2, 1) := by decide +kernel
theorem dL_law_414 : decode cL_law 414 = .ok (.invokevirtual 64, 3) := by decide +kernel
theorem dL_law_417 : decode cL_law 417 = .ok (.iadd, 1) := by decide +kernel
theorem dL_law_418 : decode cL_law 418 = .ok (.istore 17, 2) := by decide +kernel
theorem dL_law_420 : decode cL_law 420 = .ok (.iload 18, 2) := by decide +kernel
theorem dL_law_422 : decode cL_law 422 = .ok (.aload_n 1, 1) := by decide +kernel
theorem dL_law_423 : decode cL_law 423 = .ok (.iload 19, 2) := by decide +kernel
theorem dL_law_425 : decode cL_law 425 = .ok (.iconst 0, 1) := by decide +kernel
theorem dL_law_426 : decode cL_law 426 = .ok (.invokevirtual 64, 3) := by decide +kernel
theorem dL_law_429 : decode cL_law 429 = .ok (.iadd, 1) := by decide +kernel
theorem dL_law_430 : decode cL_law 430 = .ok (.istore 18, 2) := by decide +kernel
theorem dL_law_432 : decode cL_law 432 = .ok (.iinc 19 1, 3) := by decide +kernel
theorem dL_law_435 : decode cL_law 435 = .ok (.goto (-46), 3) := by decide +kernel
theorem dL_law_438 : decode cL_law 438 = .ok (.aload_n 1, 1) := by decide +kernel
theorem dL_law_439 : decode cL_law 439 = .ok (.iconst 0, 1) := by decide +kernel
theorem dL_law_440 : decode cL_law 440 = .ok (.invokevirtual 91, 3) := by decide +kernel
theorem dL_law_443 : decode cL_law 443 = .ok (.lstore 19, 2) := by decide +kernel
theorem dL_law_445 : decode cL_law 445 = .ok (.aload_n 1, 1) := by decide +kernel
theorem dL_law_446 : decode cL_law 446 = .ok (.iload 13, 2) := by decide +kernel
theorem dL_law_448 : decode cL_law 448 = .ok (.iload 17, 2) := by decide +kernel
theorem dL_law_450 : decode cL_law 450 = .ok (.iload 5, 2) := by decide +kernel
theorem dL_law_452 : decode cL_law 452 = .ok (.iconst 4, 1) := by decide +kernel
theorem dL_law_453 : decode cL_law 453 = .ok (.ishr, 1) := by decide +kernel
theorem dL_law_454 : decode cL_law 454 = .ok (.bipush 9, 2) := by decide +kernel
theorem dL_law_456 : decode cL_law 456 = .ok (.invokestatic 15, 3) := by decide +kernel
theorem dL_law_459 : decode cL_law 459 = .ok (.iadd, 1) := by decide +kernel
theorem dL_law_460 : decode cL_law 460 = .ok (.invokevirtual 95, 3) := by decide +kernel
theorem dL_law_463 : decode cL_law 463 = .ok (.istore 21, 2) := by decide +kernel
theorem dL_law_465 : decode cL_law 465 = .ok (.iload 21, 2) := by decide +kernel
theorem dL_law_467 : decode cL_law 467 = .ok (.iload 5, 2) := by decide +kernel
theorem dL_law_469 : decode cL_law 469 = .ok (.iconst 4, 1) := by decide +kernel
theorem dL_law_470 : decode cL_law 470 = .ok (.ishr, 1) := by decide +kernel
theorem dL_law_471 : decode cL_law 471 = .ok (.bipush 9, 2) := by decide +kernel
theorem dL_law_473 : decode cL_law 473 = .ok (.invokestatic 15, 3) := by decide +kernel
theorem dL_law_476 : decode cL_law 476 = .ok (.if_icmp .ne 18, 3) := by decide +kernel
theorem dL_law_479 : decode cL_law 479 = .ok (.aload_n 1, 1) := by decide +kernel
theorem dL_law_480 : decode cL_law 480 = .ok (.iconst 0, 1) := by decide +kernel
theorem dL_law_481 : decode cL_law 481 = .ok (.invokevirtual 91, 3) := by decide +kernel
theorem dL_law_484 : decode cL_law 484 = .ok (.lload 19, 2) := by decide +kernel
theorem dL_law_486 : decode cL_law 486 = .ok (.iload 18, 2) := by decide +kernel
theorem dL_law_488 : decode cL_law 488 = .ok (.i2l, 1) := by decide +kernel
theorem dL_law_489 : decode cL_law 489 = .ok (.ladd, 1) := by decide +kernel
theorem dL_law_490 : decode cL_law 490 = .ok (.lcmp, 1) := by decide +kernel
theorem dL_law_491 : decode cL_law 491 = .ok (.ifCond .eq 5, 3) := by decide +kernel
theorem dL_law_494 : decode cL_law 494 = .ok (.iconst 0, 1) := by decide +kernel
theorem dL_law_495 : decode cL_law 495 = .ok (.ireturn, 1) := by decide +kernel
theorem dL_law_496 : decode cL_law 496 = .ok (.iconst 0, 1) := by decide +kernel
theorem dL_law_497 : decode cL_law 497 = .ok (.istore 22, 2) := by decide +kernel
theorem dL_law_499 : decode cL_law 499 = .ok (.iload 22, 2) := by decide +kernel
theorem dL_law_501 : decode cL_law 501 = .ok (.iload_n 3, 1) := by decide +kernel
theorem dL_law_502 : decode cL_law 502 = .ok (.if_icmp .ge 52, 3) := by decide +kernel
theorem dL_law_505 : decode cL_law 505 = .ok (.iload 13, 2) := by decide +kernel
theorem dL_law_507 : decode cL_law 507 = .ok (.iload 22, 2) := by decide +kernel
theorem dL_law_509 : decode cL_law 509 = .ok (.ishr, 1) := by decide +kernel
theorem dL_law_510 : decode cL_law 510 = .ok (.iconst 1, 1) := by decide +kernel
theorem dL_law_511 : decode cL_law 511 = .ok (.iand, 1) := by decide +kernel
theorem dL_law_512 : decode cL_law 512 = .ok (.iconst 1, 1) := by decide +kernel
theorem dL_law_513 : decode cL_law 513 = .ok (.if_icmp .ne 35, 3) := by decide +kernel
theorem dL_law_516 : decode cL_law 516 = .ok (.aload_n 1, 1) := by decide +kernel
theorem dL_law_517 : decode cL_law 517 = .ok (.iload 22, 2) := by decide +kernel
theorem dL_law_519 : decode cL_law 519 = .ok (.iconst 2, 1) := by decide +kernel
theorem dL_law_520 : decode cL_law 520 = .ok (.invokevirtual 64, 3) := by decide +kernel
theorem dL_law_523 : decode cL_law 523 = .ok (.ifCond .ne 23, 3) := by decide +kernel
theorem dL_law_526 : decode cL_law 526 = .ok (.aload_n 1, 1) := by decide +kernel
theorem dL_law_527 : decode cL_law 527 = .ok (.iload 22, 2) := by decide +kernel
theorem dL_law_529 : decode cL_law 529 = .ok (.iconst 0, 1) := by decide +kernel
theorem dL_law_530 : decode cL_law 530 = .ok (.invokevirtual 64, 3) := by decide +kernel
theorem dL_law_533 : decode cL_law 533 = .ok (.ifCond .ne 13, 3) := by decide +kernel
theorem dL_law_536 : decode cL_law 536 = .ok (.aload_n 1, 1) := by decide +kernel
theorem dL_law_537 : decode cL_law 537 = .ok (.iload 22, 2) := by decide +kernel
theorem dL_law_539 : decode cL_law 539 = .ok (.iconst 3, 1) := by decide +kernel
theorem dL_law_540 : decode cL_law 540 = .ok (.invokevirtual 64, 3) := by decide +kernel
theorem dL_law_543 : decode cL_law 543 = .ok (.ifCond .eq 5, 3) := by decide +kernel
theorem dL_law_546 : decode cL_law 546 = .ok (.iconst 0, 1) := by decide +kernel
theorem dL_law_547 : decode cL_law 547 = .ok (.ireturn, 1) := by decide +kernel
theorem dL_law_548 : decode cL_law 548 = .ok (.iinc 22 1, 3) := by decide +kernel
theorem dL_law_551 : decode cL_law 551 = .ok (.goto (-52), 3) := by decide +kernel
theorem dL_law_554 : decode cL_law 554 = .ok (.aload_n 1, 1) := by decide +kernel
theorem dL_law_555 : decode cL_law 555 = .ok (.iconst 1, 1) := by decide +kernel
theorem dL_law_556 : decode cL_law 556 = .ok (.iload 5, 2) := by decide +kernel
theorem dL_law_558 : decode cL_law 558 = .ok (.bipush 6, 2) := by decide +kernel
theorem dL_law_560 : decode cL_law 560 = .ok (.ishr, 1) := by decide +kernel
theorem dL_law_561 : decode cL_law 561 = .ok (.bipush 6, 2) := by decide +kernel
theorem dL_law_563 : decode cL_law 563 = .ok (.invokestatic 15, 3) := by decide +kernel
theorem dL_law_566 : decode cL_law 566 = .ok (.iadd, 1) := by decide +kernel
theorem dL_law_567 : decode cL_law 567 = .ok (.invokevirtual 98, 3) := by decide +kernel
theorem dL_law_570 : decode cL_law 570 = .ok (.pop, 1) := by decide +kernel
theorem dL_law_571 : decode cL_law 571 = .ok (.iinc 4 1, 3) := by decide +kernel
theorem dL_law_574 : decode cL_law 574 = .ok (.goto (-533), 3) := by decide +kernel
theorem dL_law_577 : decode cL_law 577 = .ok (.aload_n 1, 1) := by decide +kernel
theorem dL_law_578 : decode cL_law 578 = .ok (.invokevirtual 101, 3) := by decide +kernel
theorem dL_law_581 : decode cL_law 581 = .ok (.iconst 5, 1) := by decide +kernel
theorem dL_law_582 : decode cL_law 582 = .ok (.if_icmp .lt 7, 3) := by decide +kernel
theorem dL_law_585 : decode cL_law 585 = .ok (.iconst 1, 1) := by decide +kernel
theorem dL_law_586 : decode cL_law 586 = .ok (.goto 4, 3) := by decide +kernel
theorem dL_law_589 : decode cL_law 589 = .ok (.iconst 0, 1) := by decide +kernel
theorem dL_law_590 : decode cL_law 590 = .ok (.ireturn, 1) := by decide +kernel
abbrev vwCl : List vw_C := [(RJx4a65c, TJx4a65c, 3), (RX0, TX0, 4), (RX1, TX1, 3), (RX2, TX2, 2), (RX3, TX3, 6), (RX4, TX4, 11)]
