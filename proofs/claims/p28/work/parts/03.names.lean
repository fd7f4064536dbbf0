/-! ===== BEGIN printed: names, fields, word lists, decode rows ===== -/
def RX0 : String := "PhoneRater$Account"
def TX0 : u_T := fun k => match k with
  | 0 => ("PhoneRater$Account", "threshold", "I", true)
  | 1 => ("PhoneRater$Account", "percent", "I", true)
  | 2 => ("PhoneRater$Account", "bundle", "I", false)
  | 3 => ("PhoneRater$Account", "unused", "I", false)
  | 4 => ("PhoneRater$Account", "emptier", "I", false)
  | _ => ("PhoneRater$Account", "prices", "I", false)
def tyX0 : Nat → FieldType := fun k => match k with
  | 0 => .int
  | 1 => .int
  | 2 => .int
  | 3 => .int
  | 4 => .int
  | _ => .int
abbrev wsX00 : List Cond := u_ws RX0 TX0 6
theorem nmX0 : ∀ a, a < 6 → ∀ b, b < 6 → a ≠ b → (TX0 a).2.1 ≠ (TX0 b).2.1 := by decide +kernel
theorem tyX0_ok : ∀ k, k < 6 → parseFieldDescriptor (TX0 k).2.2.1 = some (tyX0 k) := by decide +kernel
abbrev cX0_init : ByteArray := prog_2_method_1_code
def yX0_init : MethodName := ⟨RX0, "<init>", "(III)V"⟩
abbrev cX0_forgetRating : ByteArray := prog_2_method_2_code
def yX0_forgetRating : MethodName := ⟨RX0, "forgetRating", "()V"⟩
abbrev cX0_takeFromBundle : ByteArray := prog_2_method_3_code
def yX0_takeFromBundle : MethodName := ⟨RX0, "takeFromBundle", "(LPhoneRater$Call;)I"⟩
abbrev cX0_cents : ByteArray := prog_2_method_4_code
def yX0_cents : MethodName := ⟨RX0, "cents", "()I"⟩
def RX1 : String := "PhoneRater$Call"
def TX1 : u_T := fun k => match k with
  | 0 => ("PhoneRater$Call", "number", "I", true)
  | 1 => ("PhoneRater$Call", "line", "LPhoneRater$Line;", true)
  | 2 => ("PhoneRater$Call", "minute", "I", true)
  | 3 => ("PhoneRater$Call", "zone", "I", true)
  | 4 => ("PhoneRater$Call", "seconds", "I", false)
  | 5 => ("PhoneRater$Call", "billed", "I", false)
  | 6 => ("PhoneRater$Call", "free", "I", false)
  | 7 => ("PhoneRater$Call", "price", "I", false)
  | _ => ("PhoneRater$Call", "dayFee", "I", false)
def tyX1 : Nat → FieldType := fun k => match k with
  | 0 => .int
  | 1 => .object "PhoneRater$Line"
  | 2 => .int
  | 3 => .int
  | 4 => .int
  | 5 => .int
  | 6 => .int
  | 7 => .int
  | _ => .int
abbrev wsX10 : List Cond := u_ws RX1 TX1 9
theorem nmX1 : ∀ a, a < 9 → ∀ b, b < 9 → a ≠ b → (TX1 a).2.1 ≠ (TX1 b).2.1 := by decide +kernel
theorem tyX1_ok : ∀ k, k < 9 → parseFieldDescriptor (TX1 k).2.2.1 = some (tyX1 k) := by decide +kernel
abbrev cX1_init : ByteArray := prog_3_method_1_code
def yX1_init : MethodName := ⟨RX1, "<init>", "(ILPhoneRater$Line;III)V"⟩
abbrev cX1_day : ByteArray := prog_3_method_2_code
def yX1_day : MethodName := ⟨RX1, "day", "()I"⟩
abbrev cX1_forgetRating : ByteArray := prog_3_method_3_code
def yX1_forgetRating : MethodName := ⟨RX1, "forgetRating", "()V"⟩
abbrev cX1_tell : ByteArray := prog_3_method_4_code
def yX1_tell : MethodName := ⟨RX1, "tell", "(I)I"⟩
def RX2 : String := "PhoneRater$Line"
def TX2 : u_T := fun k => match k with
  | 0 => ("PhoneRater$Line", "account", "LPhoneRater$Account;", true)
  | 1 => ("PhoneRater$Line", "tariff", "LPhoneRater$Tariff;", false)
  | 2 => ("PhoneRater$Line", "prices", "I", false)
  | 3 => ("PhoneRater$Line", "feesPaid", "[I", true)
  | 4 => ("PhoneRater$Line", "lastFeeDay", "[I", true)
  | _ => ("PhoneRater$Line", "freeOfDay", "[I", true)
def tyX2 : Nat → FieldType := fun k => match k with
  | 0 => .object "PhoneRater$Account"
  | 1 => .object "PhoneRater$Tariff"
  | 2 => .int
  | 3 => .array .int
  | 4 => .array .int
  | _ => .array .int
abbrev wsX20 : List Cond := u_ws RX2 TX2 6
theorem nmX2 : ∀ a, a < 6 → ∀ b, b < 6 → a ≠ b → (TX2 a).2.1 ≠ (TX2 b).2.1 := by decide +kernel
theorem tyX2_ok : ∀ k, k < 6 → parseFieldDescriptor (TX2 k).2.2.1 = some (tyX2 k) := by decide +kernel
abbrev cX2_init : ByteArray := prog_4_method_1_code
def yX2_init : MethodName := ⟨RX2, "<init>", "(LPhoneRater$Account;LPhoneRater$Tariff;)V"⟩
abbrev cX2_forgetRating : ByteArray := prog_4_method_2_code
def yX2_forgetRating : MethodName := ⟨RX2, "forgetRating", "()V"⟩
abbrev cX2_beginsFeeDay : ByteArray := prog_4_method_3_code
def yX2_beginsFeeDay : MethodName := ⟨RX2, "beginsFeeDay", "(II)Z"⟩
abbrev cX2_takeFreeOfDay : ByteArray := prog_4_method_4_code
def yX2_takeFreeOfDay : MethodName := ⟨RX2, "takeFreeOfDay", "(II)I"⟩
def RX3 : String := "PhoneRater$Tariff"
def TX3 : u_T := fun k => match k with
  | 0 => ("PhoneRater$Tariff", "number", "I", true)
  | 1 => ("PhoneRater$Tariff", "connection", "I", true)
  | 2 => ("PhoneRater$Tariff", "peak", "I", true)
  | 3 => ("PhoneRater$Tariff", "other", "I", true)
  | 4 => ("PhoneRater$Tariff", "first", "I", true)
  | 5 => ("PhoneRater$Tariff", "next", "I", true)
  | 6 => ("PhoneRater$Tariff", "zoneRate", "[I", true)
  | _ => ("PhoneRater$Tariff", "zoneDayFee", "[I", true)
def tyX3 : Nat → FieldType := fun k => match k with
  | 0 => .int
  | 1 => .int
  | 2 => .int
  | 3 => .int
  | 4 => .int
  | 5 => .int
  | 6 => .array .int
  | _ => .array .int
abbrev wsX30 : List Cond := u_ws RX3 TX3 8
theorem nmX3 : ∀ a, a < 8 → ∀ b, b < 8 → a ≠ b → (TX3 a).2.1 ≠ (TX3 b).2.1 := by decide +kernel
theorem tyX3_ok : ∀ k, k < 8 → parseFieldDescriptor (TX3 k).2.2.1 = some (tyX3 k) := by decide +kernel
abbrev cX3_init : ByteArray := prog_5_method_1_code
def yX3_init : MethodName := ⟨RX3, "<init>", "(IIIIII)V"⟩
abbrev cX3_billedFor : ByteArray := prog_5_method_2_code
def yX3_billedFor : MethodName := ⟨RX3, "billedFor", "(I)I"⟩
abbrev cX3_chargeFor : ByteArray := prog_5_method_3_code
def yX3_chargeFor : MethodName := ⟨RX3, "chargeFor", "(II)I"⟩
def RX4 : String := "PhoneRater"
def TX4 : u_T := fun k => match k with
  | 0 => ("PhoneRater", "tariffs", "Ljava/util/ArrayList;", true)
  | 1 => ("PhoneRater", "accounts", "Ljava/util/ArrayList;", true)
  | 2 => ("PhoneRater", "lines", "Ljava/util/ArrayList;", true)
  | 3 => ("PhoneRater", "calls", "Ljava/util/ArrayList;", true)
  | 4 => ("PhoneRater", "ordered", "Ljava/util/ArrayList;", true)
  | 5 => ("PhoneRater", "firstOfPeak", "I", false)
  | _ => ("PhoneRater", "lastOfPeak", "I", false)
def tyX4 : Nat → FieldType := fun k => match k with
  | 0 => .object "java/util/ArrayList"
  | 1 => .object "java/util/ArrayList"
  | 2 => .object "java/util/ArrayList"
  | 3 => .object "java/util/ArrayList"
  | 4 => .object "java/util/ArrayList"
  | 5 => .int
  | _ => .int
abbrev wsX40 : List Cond := u_ws RX4 TX4 7
theorem nmX4 : ∀ a, a < 7 → ∀ b, b < 7 → a ≠ b → (TX4 a).2.1 ≠ (TX4 b).2.1 := by decide +kernel
theorem tyX4_ok : ∀ k, k < 7 → parseFieldDescriptor (TX4 k).2.2.1 = some (tyX4 k) := by decide +kernel
abbrev cX4_init : ByteArray := prog_1_method_1_code
def yX4_init : MethodName := ⟨RX4, "<init>", "()V"⟩
abbrev cX4_addTariff : ByteArray := prog_1_method_2_code
def yX4_addTariff : MethodName := ⟨RX4, "addTariff", "(IIIII)I"⟩
abbrev cX4_setZone : ByteArray := prog_1_method_3_code
def yX4_setZone : MethodName := ⟨RX4, "setZone", "(IIII)I"⟩
abbrev cX4_addAccount : ByteArray := prog_1_method_5_code
def yX4_addAccount : MethodName := ⟨RX4, "addAccount", "(III)I"⟩
abbrev cX4_addLine : ByteArray := prog_1_method_6_code
def yX4_addLine : MethodName := ⟨RX4, "addLine", "(II)I"⟩
abbrev cX4_addCall : ByteArray := prog_1_method_9_code
def yX4_addCall : MethodName := ⟨RX4, "addCall", "(IIII)I"⟩
abbrev cX4_callCount : ByteArray := prog_1_method_11_code
def yX4_callCount : MethodName := ⟨RX4, "callCount", "()I"⟩
abbrev cX4_callAt : ByteArray := prog_1_method_12_code
def yX4_callAt : MethodName := ⟨RX4, "callAt", "(I)I"⟩
abbrev cX4_told : ByteArray := prog_1_method_14_code
def yX4_told : MethodName := ⟨RX4, "told", "(II)I"⟩
abbrev cX4_dearest : ByteArray := prog_1_method_15_code
def yX4_dearest : MethodName := ⟨RX4, "dearest", "()I"⟩
abbrev cX4_lineSum : ByteArray := prog_1_method_16_code
def yX4_lineSum : MethodName := ⟨RX4, "lineSum", "(I)I"⟩
abbrev cX4_daySum : ByteArray := prog_1_method_17_code
def yX4_daySum : MethodName := ⟨RX4, "daySum", "(I)I"⟩
abbrev cX4_sum : ByteArray := prog_1_method_18_code
def yX4_sum : MethodName := ⟨RX4, "sum", "(I)I"⟩
abbrev cX4_total : ByteArray := prog_1_method_19_code
def yX4_total : MethodName := ⟨RX4, "total", "(I)I"⟩
abbrev cX4_freeShare : ByteArray := prog_1_method_25_code
def yX4_freeShare : MethodName := ⟨RX4, "freeShare", "()D"⟩
abbrev cX4_putInOrder : ByteArray := prog_1_method_31_code
def yX4_putInOrder : MethodName := ⟨RX4, "putInOrder", "(LPhoneRater$Call;)V"⟩
abbrev cX4_rateAll : ByteArray := prog_1_method_33_code
def yX4_rateAll : MethodName := ⟨RX4, "rateAll", "()V"⟩
abbrev cX4_rate : ByteArray := prog_1_method_34_code
def yX4_rate : MethodName := ⟨RX4, "rate", "(LPhoneRater$Call;)V"⟩
abbrev cX4_rateDayFee : ByteArray := prog_1_method_35_code
def yX4_rateDayFee : MethodName := ⟨RX4, "rateDayFee", "(LPhoneRater$Call;)V"⟩
abbrev cX4_beginsInPeak : ByteArray := prog_1_method_36_code
def yX4_beginsInPeak : MethodName := ⟨RX4, "beginsInPeak", "(LPhoneRater$Call;)Z"⟩
abbrev cX4_findTariff : ByteArray := prog_1_method_37_code
def yX4_findTariff : MethodName := ⟨RX4, "findTariff", "(I)LPhoneRater$Tariff;"⟩
abbrev cX4_findAccount : ByteArray := prog_1_method_38_code
def yX4_findAccount : MethodName := ⟨RX4, "findAccount", "(I)LPhoneRater$Account;"⟩
abbrev cX4_findLine : ByteArray := prog_1_method_39_code
def yX4_findLine : MethodName := ⟨RX4, "findLine", "(I)LPhoneRater$Line;"⟩
abbrev cX4_findCall : ByteArray := prog_1_method_40_code
def yX4_findCall : MethodName := ⟨RX4, "findCall", "(I)LPhoneRater$Call;"⟩
abbrev cX4_checkAbroad : ByteArray := prog_1_method_41_code
def yX4_checkAbroad : MethodName := ⟨RX4, "checkAbroad", "(I)V"⟩
abbrev cX4_checkBundle : ByteArray := prog_1_method_42_code
def yX4_checkBundle : MethodName := ⟨RX4, "checkBundle", "(I)V"⟩
abbrev cX4_isMoney : ByteArray := prog_1_method_44_code
def yX4_isMoney : MethodName := ⟨RX4, "isMoney", "(I)Z"⟩
abbrev cX4_isWithin : ByteArray := prog_1_method_45_code
def yX4_isWithin : MethodName := ⟨RX4, "isWithin", "(III)Z"⟩
def RX5 : String := "PhoneRaterModel"
def TX5 : u_T := fun k => match k with
  | _ => ("", "", "", false)
def tyX5 : Nat → FieldType := fun k => match k with
  | _ => .int
abbrev wsX50 : List Cond := u_ws RX5 TX5 0
theorem nmX5 : ∀ a, a < 0 → ∀ b, b < 0 → a ≠ b → (TX5 a).2.1 ≠ (TX5 b).2.1 := by decide +kernel
theorem tyX5_ok : ∀ k, k < 0 → parseFieldDescriptor (TX5 k).2.2.1 = some (tyX5 k) := by decide +kernel
def RJx145de : String := "java/io/Serializable"
def TJx145de : u_T := fun k => match k with
  | _ => ("", "", "", false)
def tyJx145de : Nat → FieldType := fun k => match k with
  | _ => .int
abbrev wsJx145de0 : List Cond := u_ws RJx145de TJx145de 0
theorem nmJx145de : ∀ a, a < 0 → ∀ b, b < 0 → a ≠ b → (TJx145de a).2.1 ≠ (TJx145de b).2.1 := by decide +kernel
theorem tyJx145de_ok : ∀ k, k < 0 → parseFieldDescriptor (TJx145de k).2.2.1 = some (tyJx145de k) := by decide +kernel
def RJx8e188 : String := "java/lang/Cloneable"
def TJx8e188 : u_T := fun k => match k with
  | _ => ("", "", "", false)
def tyJx8e188 : Nat → FieldType := fun k => match k with
  | _ => .int
abbrev wsJx8e1880 : List Cond := u_ws RJx8e188 TJx8e188 0
theorem nmJx8e188 : ∀ a, a < 0 → ∀ b, b < 0 → a ≠ b → (TJx8e188 a).2.1 ≠ (TJx8e188 b).2.1 := by decide +kernel
theorem tyJx8e188_ok : ∀ k, k < 0 → parseFieldDescriptor (TJx8e188 k).2.2.1 = some (tyJx8e188 k) := by decide +kernel
def RJxab1ab : String := "java/lang/Iterable"
def TJxab1ab : u_T := fun k => match k with
  | _ => ("", "", "", false)
def tyJxab1ab : Nat → FieldType := fun k => match k with
  | _ => .int
abbrev wsJxab1ab0 : List Cond := u_ws RJxab1ab TJxab1ab 0
theorem nmJxab1ab : ∀ a, a < 0 → ∀ b, b < 0 → a ≠ b → (TJxab1ab a).2.1 ≠ (TJxab1ab b).2.1 := by decide +kernel
theorem tyJxab1ab_ok : ∀ k, k < 0 → parseFieldDescriptor (TJxab1ab k).2.2.1 = some (tyJxab1ab k) := by decide +kernel
def RJ9 : String := "java/lang/Math"
def TJ9 : u_T := fun k => match k with
  | _ => ("", "", "", false)
def tyJ9 : Nat → FieldType := fun k => match k with
  | _ => .int
abbrev wsJ90 : List Cond := u_ws RJ9 TJ9 0
theorem nmJ9 : ∀ a, a < 0 → ∀ b, b < 0 → a ≠ b → (TJ9 a).2.1 ≠ (TJ9 b).2.1 := by decide +kernel
theorem tyJ9_ok : ∀ k, k < 0 → parseFieldDescriptor (TJ9 k).2.2.1 = some (tyJ9 k) := by decide +kernel
abbrev cJ9_max_7cf53 : ByteArray := prog_15_method_65_code
def yJ9_max_7cf53 : MethodName := ⟨RJ9, "max", "(II)I"⟩
abbrev cJ9_min_7cf53 : ByteArray := prog_15_method_69_code
def yJ9_min_7cf53 : MethodName := ⟨RJ9, "min", "(II)I"⟩
def RJ0 : String := "java/lang/String"
def TJ0 : u_T := fun k => match k with
  | _ => ("", "", "", false)
def tyJ0 : Nat → FieldType := fun k => match k with
  | _ => .int
abbrev wsJ00 : List Cond := u_ws RJ0 TJ0 0
theorem nmJ0 : ∀ a, a < 0 → ∀ b, b < 0 → a ≠ b → (TJ0 a).2.1 ≠ (TJ0 b).2.1 := by decide +kernel
theorem tyJ0_ok : ∀ k, k < 0 → parseFieldDescriptor (TJ0 k).2.2.1 = some (tyJ0 k) := by decide +kernel
def RJ10 : String := "java/lang/System"
def TJ10 : u_T := fun k => match k with
  | _ => ("", "", "", false)
def tyJ10 : Nat → FieldType := fun k => match k with
  | _ => .int
abbrev wsJ100 : List Cond := u_ws RJ10 TJ10 0
theorem nmJ10 : ∀ a, a < 0 → ∀ b, b < 0 → a ≠ b → (TJ10 a).2.1 ≠ (TJ10 b).2.1 := by decide +kernel
theorem tyJ10_ok : ∀ k, k < 0 → parseFieldDescriptor (TJ10 k).2.2.1 = some (tyJ10 k) := by decide +kernel
def RJxa1e45 : String := "java/util/AbstractCollection"
def TJxa1e45 : u_T := fun k => match k with
  | _ => ("", "", "", false)
def tyJxa1e45 : Nat → FieldType := fun k => match k with
  | _ => .int
abbrev wsJxa1e450 : List Cond := u_ws RJxa1e45 TJxa1e45 0
theorem nmJxa1e45 : ∀ a, a < 0 → ∀ b, b < 0 → a ≠ b → (TJxa1e45 a).2.1 ≠ (TJxa1e45 b).2.1 := by decide +kernel
theorem tyJxa1e45_ok : ∀ k, k < 0 → parseFieldDescriptor (TJxa1e45 k).2.2.1 = some (tyJxa1e45 k) := by decide +kernel
abbrev cJxa1e45_init_da8c8 : ByteArray := prog_20_method_1_code
def yJxa1e45_init_da8c8 : MethodName := ⟨RJxa1e45, "<init>", "()V"⟩
def RJxc12de : String := "java/util/AbstractList"
def TJxc12de : u_T := fun k => match k with
  | _ => ("", "", "", false)
def tyJxc12de : Nat → FieldType := fun k => match k with
  | _ => .int
abbrev wsJxc12de0 : List Cond := u_ws RJxc12de TJxc12de 0
theorem nmJxc12de : ∀ a, a < 0 → ∀ b, b < 0 → a ≠ b → (TJxc12de a).2.1 ≠ (TJxc12de b).2.1 := by decide +kernel
theorem tyJxc12de_ok : ∀ k, k < 0 → parseFieldDescriptor (TJxc12de k).2.2.1 = some (tyJxc12de k) := by decide +kernel
abbrev cJxc12de_init_da8c8 : ByteArray := prog_21_method_1_code
def yJxc12de_init_da8c8 : MethodName := ⟨RJxc12de, "<init>", "()V"⟩
def RJx4a65c : String := "java/util/ArrayList"
def TJx4a65c : u_T := fun k => match k with
  | 0 => ("java/util/AbstractList", "modCount", "I", false)
  | 1 => ("java/util/ArrayList", "elementData", "[Ljava/lang/Object;", false)
  | _ => ("java/util/ArrayList", "size", "I", false)
def tyJx4a65c : Nat → FieldType := fun k => match k with
  | 0 => .int
  | 1 => .array (.object "java/lang/Object")
  | _ => .int
abbrev wsJx4a65c0 : List Cond := u_ws RJx4a65c TJx4a65c 3
theorem nmJx4a65c : ∀ a, a < 3 → ∀ b, b < 3 → a ≠ b → (TJx4a65c a).2.1 ≠ (TJx4a65c b).2.1 := by decide +kernel
theorem tyJx4a65c_ok : ∀ k, k < 3 → parseFieldDescriptor (TJx4a65c k).2.2.1 = some (tyJx4a65c k) := by decide +kernel
abbrev cJx4a65c_init_da8c8 : ByteArray := prog_22_method_2_code
def yJx4a65c_init_da8c8 : MethodName := ⟨RJx4a65c, "<init>", "()V"⟩
abbrev cJx4a65c_grow_92f84 : ByteArray := prog_22_method_6_code
def yJx4a65c_grow_92f84 : MethodName := ⟨RJx4a65c, "grow", "(I)[Ljava/lang/Object;"⟩
abbrev cJx4a65c_grow_d5877 : ByteArray := prog_22_method_7_code
def yJx4a65c_grow_d5877 : MethodName := ⟨RJx4a65c, "grow", "()[Ljava/lang/Object;"⟩
abbrev cJx4a65c_size_8abf5 : ByteArray := prog_22_method_8_code
def yJx4a65c_size_8abf5 : MethodName := ⟨RJx4a65c, "size", "()I"⟩
abbrev cJx4a65c_elementData_915e3 : ByteArray := prog_22_method_18_code
def yJx4a65c_elementData_915e3 : MethodName := ⟨RJx4a65c, "elementData", "(I)Ljava/lang/Object;"⟩
abbrev cJx4a65c_get_915e3 : ByteArray := prog_22_method_20_code
def yJx4a65c_get_915e3 : MethodName := ⟨RJx4a65c, "get", "(I)Ljava/lang/Object;"⟩
abbrev cJx4a65c_add_72be8 : ByteArray := prog_22_method_24_code
def yJx4a65c_add_72be8 : MethodName := ⟨RJx4a65c, "add", "(Ljava/lang/Object;[Ljava/lang/Object;I)V"⟩
abbrev cJx4a65c_add_9ea2d : ByteArray := prog_22_method_25_code
def yJx4a65c_add_9ea2d : MethodName := ⟨RJx4a65c, "add", "(Ljava/lang/Object;)Z"⟩
abbrev cJx4a65c_add_7a177 : ByteArray := prog_22_method_26_code
def yJx4a65c_add_7a177 : MethodName := ⟨RJx4a65c, "add", "(ILjava/lang/Object;)V"⟩
abbrev cJx4a65c_rangeCheckForAdd_d00df : ByteArray := prog_22_method_45_code
def yJx4a65c_rangeCheckForAdd_d00df : MethodName := ⟨RJx4a65c, "rangeCheckForAdd", "(I)V"⟩
def RJ7 : String := "java/util/Arrays"
def TJ7 : u_T := fun k => match k with
  | _ => ("", "", "", false)
def tyJ7 : Nat → FieldType := fun k => match k with
  | _ => .int
abbrev wsJ70 : List Cond := u_ws RJ7 TJ7 0
theorem nmJ7 : ∀ a, a < 0 → ∀ b, b < 0 → a ≠ b → (TJ7 a).2.1 ≠ (TJ7 b).2.1 := by decide +kernel
theorem tyJ7_ok : ∀ k, k < 0 → parseFieldDescriptor (TJ7 k).2.2.1 = some (tyJ7 k) := by decide +kernel
abbrev cJ7_copyOf_1904c : ByteArray := prog_23_method_119_code
def yJ7_copyOf_1904c : MethodName := ⟨RJ7, "copyOf", "([Ljava/lang/Object;I)[Ljava/lang/Object;"⟩
abbrev cJ7_copyOf_6403c : ByteArray := prog_23_method_120_code
def yJ7_copyOf_6403c : MethodName := ⟨RJ7, "copyOf", "([Ljava/lang/Object;ILjava/lang/Class;)[Ljava/lang/Object;"⟩
def RJx5ef63 : String := "java/util/Collection"
def TJx5ef63 : u_T := fun k => match k with
  | _ => ("", "", "", false)
def tyJx5ef63 : Nat → FieldType := fun k => match k with
  | _ => .int
abbrev wsJx5ef630 : List Cond := u_ws RJx5ef63 TJx5ef63 0
theorem nmJx5ef63 : ∀ a, a < 0 → ∀ b, b < 0 → a ≠ b → (TJx5ef63 a).2.1 ≠ (TJx5ef63 b).2.1 := by decide +kernel
theorem tyJx5ef63_ok : ∀ k, k < 0 → parseFieldDescriptor (TJx5ef63 k).2.2.1 = some (tyJx5ef63 k) := by decide +kernel
def RJxbd725 : String := "java/util/List"
def TJxbd725 : u_T := fun k => match k with
  | _ => ("", "", "", false)
def tyJxbd725 : Nat → FieldType := fun k => match k with
  | _ => .int
abbrev wsJxbd7250 : List Cond := u_ws RJxbd725 TJxbd725 0
theorem nmJxbd725 : ∀ a, a < 0 → ∀ b, b < 0 → a ≠ b → (TJxbd725 a).2.1 ≠ (TJxbd725 b).2.1 := by decide +kernel
theorem tyJxbd725_ok : ∀ k, k < 0 → parseFieldDescriptor (TJxbd725 k).2.2.1 = some (tyJxbd725 k) := by decide +kernel
def RJ15 : String := "java/util/Objects"
def TJ15 : u_T := fun k => match k with
  | _ => ("", "", "", false)
def tyJ15 : Nat → FieldType := fun k => match k with
  | _ => .int
abbrev wsJ150 : List Cond := u_ws RJ15 TJ15 0
theorem nmJ15 : ∀ a, a < 0 → ∀ b, b < 0 → a ≠ b → (TJ15 a).2.1 ≠ (TJ15 b).2.1 := by decide +kernel
theorem tyJ15_ok : ∀ k, k < 0 → parseFieldDescriptor (TJ15 k).2.2.1 = some (tyJ15 k) := by decide +kernel
abbrev cJ15_checkIndex_7cf53 : ByteArray := prog_26_method_17_code
def yJ15_checkIndex_7cf53 : MethodName := ⟨RJ15, "checkIndex", "(II)I"⟩
def RJxf0a74 : String := "java/util/RandomAccess"
def TJxf0a74 : u_T := fun k => match k with
  | _ => ("", "", "", false)
def tyJxf0a74 : Nat → FieldType := fun k => match k with
  | _ => .int
abbrev wsJxf0a740 : List Cond := u_ws RJxf0a74 TJxf0a74 0
theorem nmJxf0a74 : ∀ a, a < 0 → ∀ b, b < 0 → a ≠ b → (TJxf0a74 a).2.1 ≠ (TJxf0a74 b).2.1 := by decide +kernel
theorem tyJxf0a74_ok : ∀ k, k < 0 → parseFieldDescriptor (TJxf0a74 k).2.2.1 = some (tyJxf0a74 k) := by decide +kernel
def RJxa66e6 : String := "java/util/SequencedCollection"
def TJxa66e6 : u_T := fun k => match k with
  | _ => ("", "", "", false)
def tyJxa66e6 : Nat → FieldType := fun k => match k with
  | _ => .int
abbrev wsJxa66e60 : List Cond := u_ws RJxa66e6 TJxa66e6 0
theorem nmJxa66e6 : ∀ a, a < 0 → ∀ b, b < 0 → a ≠ b → (TJxa66e6 a).2.1 ≠ (TJxa66e6 b).2.1 := by decide +kernel
theorem tyJxa66e6_ok : ∀ k, k < 0 → parseFieldDescriptor (TJxa66e6 k).2.2.1 = some (tyJxa66e6 k) := by decide +kernel
def RJ8 : String := "jdk/internal/util/ArraysSupport"
def TJ8 : u_T := fun k => match k with
  | _ => ("", "", "", false)
def tyJ8 : Nat → FieldType := fun k => match k with
  | _ => .int
abbrev wsJ80 : List Cond := u_ws RJ8 TJ8 0
theorem nmJ8 : ∀ a, a < 0 → ∀ b, b < 0 → a ≠ b → (TJ8 a).2.1 ≠ (TJ8 b).2.1 := by decide +kernel
theorem tyJ8_ok : ∀ k, k < 0 → parseFieldDescriptor (TJ8 k).2.2.1 = some (tyJ8 k) := by decide +kernel
abbrev cJ8_newLength_cabcc : ByteArray := prog_29_method_27_code
def yJ8_newLength_cabcc : MethodName := ⟨RJ8, "newLength", "(III)I"⟩
abbrev cJ8_hugeLength_7cf53 : ByteArray := prog_29_method_28_code
def yJ8_hugeLength_7cf53 : MethodName := ⟨RJ8, "hugeLength", "(II)I"⟩
def RJ3 : String := "jdk/internal/util/Preconditions"
def TJ3 : u_T := fun k => match k with
  | _ => ("", "", "", false)
def tyJ3 : Nat → FieldType := fun k => match k with
  | _ => .int
abbrev wsJ30 : List Cond := u_ws RJ3 TJ3 0
theorem nmJ3 : ∀ a, a < 0 → ∀ b, b < 0 → a ≠ b → (TJ3 a).2.1 ≠ (TJ3 b).2.1 := by decide +kernel
theorem tyJ3_ok : ∀ k, k < 0 → parseFieldDescriptor (TJ3 k).2.2.1 = some (tyJ3 k) := by decide +kernel
abbrev cJ3_checkIndex_8e157 : ByteArray := prog_30_method_11_code
def yJ3_checkIndex_8e157 : MethodName := ⟨RJ3, "checkIndex", "(IILjava/util/function/BiFunction;)I"⟩
def RL : String := "PhoneRaterLaw"
abbrev cL_below : ByteArray := method_2_code
def yL_below : MethodName := ⟨RL, "below", "(II)I"⟩
abbrev cL_cell : ByteArray := method_3_code
def yL_cell : MethodName := ⟨RL, "cell", "([II)I"⟩
abbrev cL_build : ByteArray := method_4_code
def yL_build : MethodName := ⟨RL, "build", "(LPhoneRater;[II[I[I[I[I)Z"⟩
abbrev cL_call : ByteArray := method_5_code
def yL_call : MethodName := ⟨RL, "call", "(LPhoneRater;[IIII[I)I"⟩
abbrev cL_law : ByteArray := code
def yL_law : MethodName := ⟨RL, "law", "([I)Z"⟩
def wsL_law0_r1 : List Cond := [Cond.classLink RL 20 RX4, Cond.instantiable RX4 7, Cond.initialized RX4, Cond.arrayClass .int, Cond.methodLink RL 80 Lib.Math.min.name, Cond.static Lib.Math.min.name, Cond.initialized "java/lang/Math", Cond.code Lib.Math.min.name Lib.Math.min.code 2 (some .int), Cond.methodLink RL 52 yX4_init, Cond.instanceMethod yX4_init, Cond.code yX4_init cX4_init 1 none, Cond.methodLink RX4 1 objectInit, Cond.instanceMethod objectInit, Cond.code objectInit ⟨#[0xb1]⟩ 1 none, Cond.classLink RX4 7 RJx4a65c, Cond.instantiable RJx4a65c 3, Cond.initialized RJx4a65c, Cond.fieldLink RX4 10 "PhoneRater" "tariffs" "Ljava/util/ArrayList;", Cond.fieldLink RX4 16 "PhoneRater" "accounts" "Ljava/util/ArrayList;", Cond.fieldLink RX4 19 "PhoneRater" "lines" "Ljava/util/ArrayList;", Cond.fieldLink RX4 22 "PhoneRater" "calls" "Ljava/util/ArrayList;", Cond.fieldLink RX4 25 "PhoneRater" "ordered" "Ljava/util/ArrayList;", Cond.fieldLink RX4 28 "PhoneRater" "firstOfPeak" "I", Cond.fieldLink RX4 32 "PhoneRater" "lastOfPeak" "I"]
def wsL_law0_r2 : List Cond := [Cond.methodLink RX4 9 yJx4a65c_init_da8c8, Cond.instanceMethod yJx4a65c_init_da8c8, Cond.code yJx4a65c_init_da8c8 cJx4a65c_init_da8c8 1 none, Cond.fieldLink RJx4a65c 39 "java/util/ArrayList" "DEFAULTCAPACITY_EMPTY_ELEMENTDATA" "[Ljava/lang/Object;", Cond.fieldLink RJx4a65c 9 "java/util/ArrayList" "elementData" "[Ljava/lang/Object;", Cond.methodLink RJx4a65c 1 yJxc12de_init_da8c8, Cond.instanceMethod yJxc12de_init_da8c8, Cond.initialized RJxc12de, Cond.code yJxc12de_init_da8c8 cJxc12de_init_da8c8 1 none, Cond.fieldLink RJxc12de 7 "java/util/AbstractList" "modCount" "I", Cond.methodLink RJxc12de 1 yJxa1e45_init_da8c8, Cond.instanceMethod yJxa1e45_init_da8c8, Cond.initialized RJxa1e45, Cond.code yJxa1e45_init_da8c8 cJxa1e45_init_da8c8 1 none, Cond.methodLink RJxa1e45 1 objectInit, Cond.methodLink RL 53 yL_build, Cond.static yL_build, Cond.initialized RL, Cond.code yL_build cL_build 11 (some .boolean), Cond.methodLink RL 9 yL_cell, Cond.static yL_cell, Cond.code yL_cell cL_cell 2 (some .int), Cond.constant RL 8 (790386105), Cond.methodLink RL 15 yL_below]
def wsL_law0_r3 : List Cond := [Cond.static yL_below, Cond.code yL_below cL_below 2 (some .int), Cond.constant RL 7 (2147483647), Cond.methodLink RL 19 yX4_addTariff, Cond.instanceMethod yX4_addTariff, Cond.selects RX4 yX4_addTariff yX4_addTariff, Cond.code yX4_addTariff cX4_addTariff 7 (some .int), Cond.classLink RX4 39 "java/lang/IllegalArgumentException", Cond.initialized "java/lang/IllegalArgumentException", Cond.classLink RX4 56 "java/lang/IllegalStateException", Cond.initialized "java/lang/IllegalStateException", Cond.classLink RX4 61 RX3, Cond.instantiable RX3 8, Cond.initialized RX3, Cond.methodLink RX4 35 yX4_isMoney, Cond.static yX4_isMoney, Cond.code yX4_isMoney cX4_isMoney 1 (some .boolean), Cond.methodLink RX4 46 yX4_isWithin, Cond.static yX4_isWithin, Cond.code yX4_isWithin cX4_isWithin 3 (some .boolean), Cond.methodLink RX4 52 yJx4a65c_size_8abf5, Cond.instanceMethod yJx4a65c_size_8abf5, Cond.selects RJx4a65c yJx4a65c_size_8abf5 yJx4a65c_size_8abf5, Cond.code yJx4a65c_size_8abf5 cJx4a65c_size_8abf5 1 (some .int)]
def wsL_law0_r4 : List Cond := [Cond.fieldLink RJx4a65c 48 "java/util/ArrayList" "size" "I", Cond.methodLink RX4 63 yX3_init, Cond.instanceMethod yX3_init, Cond.code yX3_init cX3_init 7 none, Cond.methodLink RX3 3 objectInit, Cond.fieldLink RX3 9 "PhoneRater$Tariff" "zoneRate" "[I", Cond.fieldLink RX3 15 "PhoneRater$Tariff" "zoneDayFee" "[I", Cond.fieldLink RX3 18 "PhoneRater$Tariff" "number" "I", Cond.fieldLink RX3 22 "PhoneRater$Tariff" "connection" "I", Cond.fieldLink RX3 25 "PhoneRater$Tariff" "peak" "I", Cond.fieldLink RX3 28 "PhoneRater$Tariff" "other" "I", Cond.fieldLink RX3 31 "PhoneRater$Tariff" "first" "I", Cond.fieldLink RX3 34 "PhoneRater$Tariff" "next" "I", Cond.methodLink RX4 66 yJx4a65c_add_9ea2d, Cond.instanceMethod yJx4a65c_add_9ea2d, Cond.selects RJx4a65c yJx4a65c_add_9ea2d yJx4a65c_add_9ea2d, Cond.code yJx4a65c_add_9ea2d cJx4a65c_add_9ea2d 2 (some .boolean), Cond.fieldLink RJx4a65c 63 "java/util/ArrayList" "modCount" "I", Cond.sameField "java/util/ArrayList" "java/util/AbstractList" "modCount" "I", Cond.methodLink RJx4a65c 131 yJx4a65c_add_72be8, Cond.instanceMethod yJx4a65c_add_72be8, Cond.selects RJx4a65c yJx4a65c_add_72be8 yJx4a65c_add_72be8, Cond.code yJx4a65c_add_72be8 cJx4a65c_add_72be8 4 none, Cond.methodLink RJx4a65c 129 yJx4a65c_grow_d5877]
def wsL_law0_r5 : List Cond := [Cond.instanceMethod yJx4a65c_grow_d5877, Cond.selects RJx4a65c yJx4a65c_grow_d5877 yJx4a65c_grow_d5877, Cond.code yJx4a65c_grow_d5877 cJx4a65c_grow_d5877 1 (some (.array (.object "java/lang/Object"))), Cond.methodLink RJx4a65c 69 yJx4a65c_grow_92f84, Cond.instanceMethod yJx4a65c_grow_92f84, Cond.selects RJx4a65c yJx4a65c_grow_92f84 yJx4a65c_grow_92f84, Cond.code yJx4a65c_grow_92f84 cJx4a65c_grow_92f84 4 (some (.array (.object "java/lang/Object"))), Cond.methodLink RJx4a65c 79 Lib.Math.max.name, Cond.static Lib.Math.max.name, Cond.code Lib.Math.max.name Lib.Math.max.code 2 (some .int), Cond.classLink RJx4a65c 7 "java/lang/Object", Cond.methodLink RJx4a65c 73 yJ8_newLength_cabcc, Cond.static yJ8_newLength_cabcc, Cond.initialized RJ8, Cond.code yJ8_newLength_cabcc cJ8_newLength_cabcc 4 (some .int), Cond.methodLink RJ8 194 Lib.Math.max.name, Cond.constant RJ8 200 (2147483639), Cond.methodLink RJ8 201 yJ8_hugeLength_7cf53, Cond.static yJ8_hugeLength_7cf53, Cond.code yJ8_hugeLength_7cf53 cJ8_hugeLength_7cf53 3 (some .int), Cond.methodLink RJx4a65c 66 yJ7_copyOf_1904c, Cond.static yJ7_copyOf_1904c, Cond.initialized RJ7, Cond.code yJ7_copyOf_1904c cJ7_copyOf_1904c 2 (some (.array (.object "java/lang/Object")))]
def wsL_law0_r6 : List Cond := [Cond.methodLink RJ7 86 ⟨"java/lang/Object", "getClass", "()Ljava/lang/Class;"⟩, Cond.selects "[Ljava/lang/Object;" ⟨"java/lang/Object", "getClass", "()Ljava/lang/Class;"⟩ ⟨"java/lang/Object", "getClass", "()Ljava/lang/Class;"⟩, Cond.instanceMethod ⟨"java/lang/Object", "getClass", "()Ljava/lang/Class;"⟩, Cond.native ⟨"java/lang/Object", "getClass", "()Ljava/lang/Class;"⟩, Cond.methodLink RJ7 300 yJ7_copyOf_6403c, Cond.static yJ7_copyOf_6403c, Cond.code yJ7_copyOf_6403c cJ7_copyOf_6403c 4 (some (.array (.object "java/lang/Object"))), Cond.classLink RJ7 110 "[Ljava/lang/Object;", Cond.classLink RJ7 2 "java/lang/Object", Cond.methodLink RJ7 304 Lib.Math.min.name, Cond.methodLink RJ7 150 arraycopyName, Cond.native arraycopyName, Cond.static arraycopyName, Cond.initialized "java/lang/System", Cond.methodLink RL 25 yX4_setZone, Cond.instanceMethod yX4_setZone, Cond.selects RX4 yX4_setZone yX4_setZone, Cond.code yX4_setZone cX4_setZone 7 (some .int), Cond.fieldLink RX4 80 "PhoneRater$Tariff" "zoneRate" "[I", Cond.fieldLink RX4 84 "PhoneRater$Tariff" "zoneDayFee" "[I", Cond.methodLink RX4 70 yX4_findTariff, Cond.instanceMethod yX4_findTariff, Cond.selects RX4 yX4_findTariff yX4_findTariff, Cond.code yX4_findTariff cX4_findTariff 2 (some (.object "PhoneRater$Tariff"))]
def wsL_law0_r7 : List Cond := [Cond.classLink RX4 166 "java/lang/IndexOutOfBoundsException", Cond.initialized "java/lang/IndexOutOfBoundsException", Cond.classLink RX4 61 "PhoneRater$Tariff", Cond.methodLink RX4 171 yJx4a65c_get_915e3, Cond.instanceMethod yJx4a65c_get_915e3, Cond.selects RJx4a65c yJx4a65c_get_915e3 yJx4a65c_get_915e3, Cond.code yJx4a65c_get_915e3 cJx4a65c_get_915e3 2 (some (.object "java/lang/Object")), Cond.methodLink RJx4a65c 118 yJ15_checkIndex_7cf53, Cond.static yJ15_checkIndex_7cf53, Cond.initialized RJ15, Cond.code yJ15_checkIndex_7cf53 cJ15_checkIndex_7cf53 2 (some .int), Cond.methodLink RJ15 105 yJ3_checkIndex_8e157, Cond.static yJ3_checkIndex_8e157, Cond.initialized RJ3, Cond.code yJ3_checkIndex_8e157 cJ3_checkIndex_8e157 3 (some .int), Cond.methodLink RJx4a65c 123 yJx4a65c_elementData_915e3, Cond.instanceMethod yJx4a65c_elementData_915e3, Cond.selects RJx4a65c yJx4a65c_elementData_915e3 yJx4a65c_elementData_915e3, Cond.code yJx4a65c_elementData_915e3 cJx4a65c_elementData_915e3 2 (some (.object "java/lang/Object")), Cond.methodLink RX4 74 yX4_checkAbroad, Cond.static yX4_checkAbroad, Cond.code yX4_checkAbroad cX4_checkAbroad 1 none, Cond.methodLink RX4 87 yX4_rateAll, Cond.instanceMethod yX4_rateAll]
def wsL_law0_r8 : List Cond := [Cond.selects RX4 yX4_rateAll yX4_rateAll, Cond.code yX4_rateAll cX4_rateAll 3 none, Cond.classLink RX4 105 "PhoneRater$Account", Cond.classLink RX4 116 "PhoneRater$Line", Cond.classLink RX4 148 "PhoneRater$Call", Cond.fieldLink RX4 163 "PhoneRater$Call" "seconds" "I", Cond.methodLink RX4 244 yX0_forgetRating, Cond.instanceMethod yX0_forgetRating, Cond.selects RX0 yX0_forgetRating yX0_forgetRating, Cond.initialized RX0, Cond.code yX0_forgetRating cX0_forgetRating 1 none, Cond.fieldLink RX0 9 "PhoneRater$Account" "bundle" "I", Cond.fieldLink RX0 21 "PhoneRater$Account" "unused" "I", Cond.fieldLink RX0 24 "PhoneRater$Account" "emptier" "I", Cond.fieldLink RX0 27 "PhoneRater$Account" "prices" "I", Cond.methodLink RX4 247 yX2_forgetRating, Cond.instanceMethod yX2_forgetRating, Cond.selects RX2 yX2_forgetRating yX2_forgetRating, Cond.initialized RX2, Cond.code yX2_forgetRating cX2_forgetRating 2 none, Cond.fieldLink RX2 29 "PhoneRater$Line" "prices" "I", Cond.fieldLink RX2 9 "PhoneRater$Line" "feesPaid" "[I", Cond.fieldLink RX2 15 "PhoneRater$Line" "lastFeeDay" "[I", Cond.methodLink RX4 248 yX1_forgetRating]
def wsL_law0_r9 : List Cond := [Cond.instanceMethod yX1_forgetRating, Cond.selects RX1 yX1_forgetRating yX1_forgetRating, Cond.initialized RX1, Cond.code yX1_forgetRating cX1_forgetRating 1 none, Cond.fieldLink RX1 28 "PhoneRater$Call" "billed" "I", Cond.fieldLink RX1 31 "PhoneRater$Call" "free" "I", Cond.fieldLink RX1 34 "PhoneRater$Call" "price" "I", Cond.fieldLink RX1 37 "PhoneRater$Call" "dayFee" "I", Cond.methodLink RX4 249 yX4_rate, Cond.instanceMethod yX4_rate, Cond.selects RX4 yX4_rate yX4_rate, Cond.code yX4_rate cX4_rate 5 none, Cond.fieldLink RX4 252 "PhoneRater$Call" "line" "LPhoneRater$Line;", Cond.fieldLink RX4 125 "PhoneRater$Line" "tariff" "LPhoneRater$Tariff;", Cond.fieldLink RX4 217 "PhoneRater$Call" "billed" "I", Cond.fieldLink RX4 259 "PhoneRater$Call" "zone" "I", Cond.fieldLink RX4 210 "PhoneRater$Line" "account" "LPhoneRater$Account;", Cond.fieldLink RX4 214 "PhoneRater$Call" "free" "I", Cond.fieldLink RX4 266 "PhoneRater$Tariff" "peak" "I", Cond.fieldLink RX4 269 "PhoneRater$Tariff" "other" "I", Cond.fieldLink RX4 275 "PhoneRater$Call" "dayFee" "I", Cond.fieldLink RX4 186 "PhoneRater$Call" "price" "I", Cond.fieldLink RX4 189 "PhoneRater$Line" "prices" "I", Cond.fieldLink RX4 197 "PhoneRater$Account" "prices" "I"]
def wsL_law0_r10 : List Cond := [Cond.methodLink RX4 256 yX3_billedFor, Cond.instanceMethod yX3_billedFor, Cond.selects RX3 yX3_billedFor yX3_billedFor, Cond.code yX3_billedFor cX3_billedFor 3 (some .int), Cond.methodLink RX4 262 yX0_takeFromBundle, Cond.instanceMethod yX0_takeFromBundle, Cond.selects RX0 yX0_takeFromBundle yX0_takeFromBundle, Cond.code yX0_takeFromBundle cX0_takeFromBundle 3 (some .int), Cond.fieldLink RX0 30 "PhoneRater$Call" "billed" "I", Cond.methodLink RX0 35 Lib.Math.min.name, Cond.fieldLink RX0 41 "PhoneRater$Call" "number" "I", Cond.methodLink RX4 176 yX4_beginsInPeak, Cond.instanceMethod yX4_beginsInPeak, Cond.selects RX4 yX4_beginsInPeak yX4_beginsInPeak, Cond.code yX4_beginsInPeak cX4_beginsInPeak 4 (some .boolean), Cond.fieldLink RX4 238 "PhoneRater$Call" "minute" "I", Cond.methodLink RX4 194 yX1_day, Cond.instanceMethod yX1_day, Cond.selects RX1 yX1_day yX1_day, Cond.code yX1_day cX1_day 1 (some .int), Cond.fieldLink RX1 19 "PhoneRater$Call" "minute" "I", Cond.methodLink RX4 272 yX4_rateDayFee, Cond.static yX4_rateDayFee, Cond.code yX4_rateDayFee cX4_rateDayFee 4 none]
def wsL_law0_r11 : List Cond := [Cond.methodLink RX4 282 yX2_beginsFeeDay, Cond.instanceMethod yX2_beginsFeeDay, Cond.selects RX2 yX2_beginsFeeDay yX2_beginsFeeDay, Cond.code yX2_beginsFeeDay cX2_beginsFeeDay 3 (some .boolean), Cond.fieldLink RX2 18 "PhoneRater$Line" "freeOfDay" "[I", Cond.methodLink RX4 286 yX2_takeFreeOfDay, Cond.instanceMethod yX2_takeFreeOfDay, Cond.selects RX2 yX2_takeFreeOfDay yX2_takeFreeOfDay, Cond.code yX2_takeFreeOfDay cX2_takeFreeOfDay 4 (some .int), Cond.methodLink RX2 33 Lib.Math.min.name, Cond.methodLink RX4 278 yX3_chargeFor, Cond.instanceMethod yX3_chargeFor, Cond.selects RX3 yX3_chargeFor yX3_chargeFor, Cond.code yX3_chargeFor cX3_chargeFor 3 (some .int), Cond.methodLink RL 29 yX4_addAccount, Cond.instanceMethod yX4_addAccount, Cond.selects RX4 yX4_addAccount yX4_addAccount, Cond.code yX4_addAccount cX4_addAccount 5 (some .int), Cond.constant RX4 98 (1000000), Cond.classLink RX4 105 RX0, Cond.instantiable RX0 6, Cond.methodLink RX4 95 yX4_checkBundle, Cond.static yX4_checkBundle, Cond.code yX4_checkBundle cX4_checkBundle 1 none]
def wsL_law0_r12 : List Cond := [Cond.constant RX4 299 (100000), Cond.methodLink RX4 107 yX0_init, Cond.instanceMethod yX0_init, Cond.code yX0_init cX0_init 4 none, Cond.methodLink RX0 3 objectInit, Cond.fieldLink RX0 15 "PhoneRater$Account" "threshold" "I", Cond.fieldLink RX0 18 "PhoneRater$Account" "percent" "I", Cond.methodLink RL 33 yX4_addLine, Cond.instanceMethod yX4_addLine, Cond.selects RX4 yX4_addLine yX4_addLine, Cond.code yX4_addLine cX4_addLine 6 (some .int), Cond.classLink RX4 116 RX2, Cond.instantiable RX2 6, Cond.methodLink RX4 110 yX4_findAccount, Cond.instanceMethod yX4_findAccount, Cond.selects RX4 yX4_findAccount yX4_findAccount, Cond.code yX4_findAccount cX4_findAccount 2 (some (.object "PhoneRater$Account")), Cond.methodLink RX4 118 yX2_init, Cond.instanceMethod yX2_init, Cond.code yX2_init cX2_init 3 none, Cond.methodLink RX2 3 objectInit, Cond.fieldLink RX2 21 "PhoneRater$Line" "account" "LPhoneRater$Account;", Cond.fieldLink RX2 25 "PhoneRater$Line" "tariff" "LPhoneRater$Tariff;", Cond.methodLink RL 57 yL_call]
def wsL_law0_r13 : List Cond := [Cond.static yL_call, Cond.code yL_call cL_call 9 (some .int), Cond.constant RL 36 (43200), Cond.methodLink RL 37 yX4_addCall, Cond.instanceMethod yX4_addCall, Cond.selects RX4 yX4_addCall yX4_addCall, Cond.code yX4_addCall cX4_addCall 8 (some .int), Cond.constant RX4 139 (43199), Cond.classLink RX4 148 RX1, Cond.instantiable RX1 9, Cond.methodLink RX4 121 yX4_findLine, Cond.instanceMethod yX4_findLine, Cond.selects RX4 yX4_findLine yX4_findLine, Cond.code yX4_findLine cX4_findLine 2 (some (.object "PhoneRater$Line")), Cond.methodLink RX4 150 yX1_init, Cond.instanceMethod yX1_init, Cond.code yX1_init cX1_init 6 none, Cond.methodLink RX1 3 objectInit, Cond.fieldLink RX1 9 "PhoneRater$Call" "number" "I", Cond.fieldLink RX1 15 "PhoneRater$Call" "line" "LPhoneRater$Line;", Cond.fieldLink RX1 22 "PhoneRater$Call" "seconds" "I", Cond.fieldLink RX1 25 "PhoneRater$Call" "zone" "I", Cond.methodLink RX4 153 yX4_putInOrder, Cond.instanceMethod yX4_putInOrder]
def wsL_law0_r14 : List Cond := [Cond.selects RX4 yX4_putInOrder yX4_putInOrder, Cond.code yX4_putInOrder cX4_putInOrder 3 none, Cond.methodLink RX4 241 yJx4a65c_add_7a177, Cond.instanceMethod yJx4a65c_add_7a177, Cond.selects RJx4a65c yJx4a65c_add_7a177 yJx4a65c_add_7a177, Cond.code yJx4a65c_add_7a177 cJx4a65c_add_7a177 5 none, Cond.methodLink RJx4a65c 112 arraycopyName, Cond.methodLink RJx4a65c 135 yJx4a65c_rangeCheckForAdd_d00df, Cond.instanceMethod yJx4a65c_rangeCheckForAdd_d00df, Cond.selects RJx4a65c yJx4a65c_rangeCheckForAdd_d00df yJx4a65c_rangeCheckForAdd_d00df, Cond.code yJx4a65c_rangeCheckForAdd_d00df cJx4a65c_rangeCheckForAdd_d00df 2 none, Cond.methodLink RL 40 yX4_callCount, Cond.instanceMethod yX4_callCount, Cond.selects RX4 yX4_callCount yX4_callCount, Cond.code yX4_callCount cX4_callCount 1 (some .int), Cond.methodLink RL 61 yX4_told, Cond.instanceMethod yX4_told, Cond.selects RX4 yX4_told yX4_told, Cond.code yX4_told cX4_told 4 (some .int), Cond.methodLink RX4 157 yX4_findCall, Cond.instanceMethod yX4_findCall, Cond.selects RX4 yX4_findCall yX4_findCall, Cond.code yX4_findCall cX4_findCall 2 (some (.object "PhoneRater$Call")), Cond.methodLink RX4 182 yX1_tell]
def wsL_law0_r15 : List Cond := [Cond.instanceMethod yX1_tell, Cond.selects RX1 yX1_tell yX1_tell, Cond.code yX1_tell cX1_tell 2 (some .int), Cond.methodLink RL 64 yX4_callAt, Cond.instanceMethod yX4_callAt, Cond.selects RX4 yX4_callAt yX4_callAt, Cond.code yX4_callAt cX4_callAt 2 (some .int), Cond.fieldLink RX4 175 "PhoneRater$Call" "number" "I", Cond.methodLink RL 68 yX4_lineSum, Cond.instanceMethod yX4_lineSum, Cond.selects RX4 yX4_lineSum yX4_lineSum, Cond.code yX4_lineSum cX4_lineSum 2 (some .int), Cond.methodLink RL 71 yX4_daySum, Cond.instanceMethod yX4_daySum, Cond.selects RX4 yX4_daySum yX4_daySum, Cond.code yX4_daySum cX4_daySum 5 (some .int), Cond.methodLink RL 74 yX4_sum, Cond.instanceMethod yX4_sum, Cond.selects RX4 yX4_sum yX4_sum, Cond.code yX4_sum cX4_sum 2 (some .int), Cond.methodLink RL 77 yX4_total, Cond.instanceMethod yX4_total, Cond.selects RX4 yX4_total yX4_total, Cond.code yX4_total cX4_total 2 (some .int)]
def wsL_law0_r16 : List Cond := [Cond.methodLink RX4 198 yX0_cents, Cond.instanceMethod yX0_cents, Cond.selects RX0 yX0_cents yX0_cents, Cond.code yX0_cents cX0_cents 4 (some .int), Cond.methodLink RX0 44 Lib.Math.max.name, Cond.constantLong RX0 47 (100), Cond.methodLink RL 85 yX4_dearest, Cond.instanceMethod yX4_dearest, Cond.selects RX4 yX4_dearest yX4_dearest, Cond.code yX4_dearest cX4_dearest 5 (some .int), Cond.methodLink RL 88 yX4_freeShare, Cond.instanceMethod yX4_freeShare, Cond.selects RX4 yX4_freeShare yX4_freeShare, Cond.code yX4_freeShare cX4_freeShare 5 (some .double)]
def wsL_law0 : List Cond := (wsL_law0_r1 ++ (wsL_law0_r2 ++ (wsL_law0_r3 ++ (wsL_law0_r4 ++ (wsL_law0_r5 ++ (wsL_law0_r6 ++ (wsL_law0_r7 ++ (wsL_law0_r8 ++ (wsL_law0_r9 ++ (wsL_law0_r10 ++ (wsL_law0_r11 ++ (wsL_law0_r12 ++ (wsL_law0_r13 ++ (wsL_law0_r14 ++ (wsL_law0_r15 ++ wsL_law0_r16))))))))))))))) ++ wsX40 ++ wsJx4a65c0 ++ wsX30 ++ wsX10 ++ wsX00 ++ wsX20 ++ ([] : List Cond)
def wsL_law : List Cond := wsL_law0 ++ (vx_atS RX4 43 "java/lang/IllegalArgumentException" ["java/lang/RuntimeException", "java/lang/Exception"]).filter goodWord ++ (vx_atS RX4 60 "java/lang/IllegalStateException" ["java/lang/RuntimeException", "java/lang/Exception"]).filter goodWord ++ (vx_atS RX4 170 "java/lang/IndexOutOfBoundsException" ["java/lang/RuntimeException", "java/lang/Exception"]).filter goodWord
theorem inlX0 : ∀ w ∈ wsX00, w ∈ wsL_law := fun _ h => List.mem_append_left _ (List.mem_append_left _ (List.mem_append_left _ (List.mem_append_left _ (List.mem_append_left _ (List.mem_append_right _ h)))))
theorem inlX1 : ∀ w ∈ wsX10, w ∈ wsL_law := fun _ h => List.mem_append_left _ (List.mem_append_left _ (List.mem_append_left _ (List.mem_append_left _ (List.mem_append_left _ (List.mem_append_left _ (List.mem_append_right _ h))))))
theorem inlX2 : ∀ w ∈ wsX20, w ∈ wsL_law := fun _ h => List.mem_append_left _ (List.mem_append_left _ (List.mem_append_left _ (List.mem_append_left _ (List.mem_append_right _ h))))
theorem inlX3 : ∀ w ∈ wsX30, w ∈ wsL_law := fun _ h => List.mem_append_left _ (List.mem_append_left _ (List.mem_append_left _ (List.mem_append_left _ (List.mem_append_left _ (List.mem_append_left _ (List.mem_append_left _ (List.mem_append_right _ h)))))))
theorem inlX4 : ∀ w ∈ wsX40, w ∈ wsL_law := fun _ h => List.mem_append_left _ (List.mem_append_left _ (List.mem_append_left _ (List.mem_append_left _ (List.mem_append_left _ (List.mem_append_left _ (List.mem_append_left _ (List.mem_append_left _ (List.mem_append_left _ (List.mem_append_right _ h)))))))))
theorem inlJx4a65c : ∀ w ∈ wsJx4a65c0, w ∈ wsL_law := fun _ h => List.mem_append_left _ (List.mem_append_left _ (List.mem_append_left _ (List.mem_append_left _ (List.mem_append_left _ (List.mem_append_left _ (List.mem_append_left _ (List.mem_append_left _ (List.mem_append_right _ h))))))))
abbrev vwCl : List vw_C := [(RJx4a65c, TJx4a65c, 3), (RX0, TX0, 6), (RX1, TX1, 9), (RX2, TX2, 6), (RX3, TX3, 8), (RX4, TX4, 7)]

