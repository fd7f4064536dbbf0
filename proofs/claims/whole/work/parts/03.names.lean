/-! ===== BEGIN printed: names, fields, word lists, decode rows ===== -/
def RX0 : String := "PhoneRater$Account"
def TX0 : u_T := fun k => match k with
  | 0 => ("PhoneRater$Account", "threshold", "I", true)
  | 1 => ("PhoneRater$Account", "percent", "I", true)
  | 2 => ("PhoneRater$Account", "bundle", "I", false)
  | 3 => ("PhoneRater$Account", "unused", "I", false)
  | 4 => ("PhoneRater$Account", "emptier", "I", false)
  | _ => ("PhoneRater$Account", "prices", "I", false)
def tyX0 : Nat → FieldType := fun k => match k with
  | 0 => .int
  | 1 => .int
  | 2 => .int
  | 3 => .int
  | 4 => .int
  | _ => .int
abbrev wsX00 : List Cond := u_ws RX0 TX0 6
theorem nmX0 : ∀ a, a < 6 → ∀ b, b < 6 → a ≠ b → (TX0 a).2.1 ≠ (TX0 b).2.1 := by decide +kernel
theorem tyX0_ok : ∀ k, k < 6 → parseFieldDescriptor (TX0 k).2.2.1 = some (tyX0 k) := by decide +kernel
abbrev cX0_init : ByteArray := prog_2_method_1_code
def yX0_init : MethodName := ⟨RX0, "<init>", "(III)V"⟩
abbrev cX0_forgetRating : ByteArray := prog_2_method_2_code
def yX0_forgetRating : MethodName := ⟨RX0, "forgetRating", "()V"⟩
abbrev cX0_takeFromBundle : ByteArray := prog_2_method_3_code
def yX0_takeFromBundle : MethodName := ⟨RX0, "takeFromBundle", "(LPhoneRater$Call;)I"⟩
abbrev cX0_cents : ByteArray := prog_2_method_4_code
def yX0_cents : MethodName := ⟨RX0, "cents", "()I"⟩
def RX1 : String := "PhoneRater$Call"
def TX1 : u_T := fun k => match k with
  | 0 => ("PhoneRater$Call", "number", "I", true)
  | 1 => ("PhoneRater$Call", "line", "LPhoneRater$Line;", true)
  | 2 => ("PhoneRater$Call", "minute", "I", true)
  | 3 => ("PhoneRater$Call", "zone", "I", true)
  | 4 => ("PhoneRater$Call", "seconds", "I", false)
  | 5 => ("PhoneRater$Call", "billed", "I", false)
  | 6 => ("PhoneRater$Call", "free", "I", false)
  | 7 => ("PhoneRater$Call", "price", "I", false)
  | _ => ("PhoneRater$Call", "dayFee", "I", false)
def tyX1 : Nat → FieldType := fun k => match k with
  | 0 => .int
  | 1 => .object "PhoneRater$Line"
  | 2 => .int
  | 3 => .int
  | 4 => .int
  | 5 => .int
  | 6 => .int
  | 7 => .int
  | _ => .int
abbrev wsX10 : List Cond := u_ws RX1 TX1 9
theorem nmX1 : ∀ a, a < 9 → ∀ b, b < 9 → a ≠ b → (TX1 a).2.1 ≠ (TX1 b).2.1 := by decide +kernel
theorem tyX1_ok : ∀ k, k < 9 → parseFieldDescriptor (TX1 k).2.2.1 = some (tyX1 k) := by decide +kernel
abbrev cX1_init : ByteArray := prog_3_method_1_code
def yX1_init : MethodName := ⟨RX1, "<init>", "(ILPhoneRater$Line;III)V"⟩
abbrev cX1_day : ByteArray := prog_3_method_2_code
def yX1_day : MethodName := ⟨RX1, "day", "()I"⟩
abbrev cX1_forgetRating : ByteArray := prog_3_method_3_code
def yX1_forgetRating : MethodName := ⟨RX1, "forgetRating", "()V"⟩
abbrev cX1_tell : ByteArray := prog_3_method_4_code
def yX1_tell : MethodName := ⟨RX1, "tell", "(I)I"⟩
def RX2 : String := "PhoneRater$Line"
def TX2 : u_T := fun k => match k with
  | 0 => ("PhoneRater$Line", "account", "LPhoneRater$Account;", true)
  | 1 => ("PhoneRater$Line", "tariff", "LPhoneRater$Tariff;", false)
  | 2 => ("PhoneRater$Line", "prices", "I", false)
  | 3 => ("PhoneRater$Line", "feesPaid", "[I", true)
  | 4 => ("PhoneRater$Line", "lastFeeDay", "[I", true)
  | _ => ("PhoneRater$Line", "freeOfDay", "[I", true)
def tyX2 : Nat → FieldType := fun k => match k with
  | 0 => .object "PhoneRater$Account"
  | 1 => .object "PhoneRater$Tariff"
  | 2 => .int
  | 3 => .array .int
  | 4 => .array .int
  | _ => .array .int
abbrev wsX20 : List Cond := u_ws RX2 TX2 6
theorem nmX2 : ∀ a, a < 6 → ∀ b, b < 6 → a ≠ b → (TX2 a).2.1 ≠ (TX2 b).2.1 := by decide +kernel
theorem tyX2_ok : ∀ k, k < 6 → parseFieldDescriptor (TX2 k).2.2.1 = some (tyX2 k) := by decide +kernel
abbrev cX2_init : ByteArray := prog_4_method_1_code
def yX2_init : MethodName := ⟨RX2, "<init>", "(LPhoneRater$Account;LPhoneRater$Tariff;)V"⟩
abbrev cX2_forgetRating : ByteArray := prog_4_method_2_code
def yX2_forgetRating : MethodName := ⟨RX2, "forgetRating", "()V"⟩
abbrev cX2_beginsFeeDay : ByteArray := prog_4_method_3_code
def yX2_beginsFeeDay : MethodName := ⟨RX2, "beginsFeeDay", "(II)Z"⟩
abbrev cX2_takeFreeOfDay : ByteArray := prog_4_method_4_code
def yX2_takeFreeOfDay : MethodName := ⟨RX2, "takeFreeOfDay", "(II)I"⟩
def RX3 : String := "PhoneRater$Tariff"
def TX3 : u_T := fun k => match k with
  | 0 => ("PhoneRater$Tariff", "number", "I", true)
  | 1 => ("PhoneRater$Tariff", "connection", "I", true)
  | 2 => ("PhoneRater$Tariff", "peak", "I", true)
  | 3 => ("PhoneRater$Tariff", "other", "I", true)
  | 4 => ("PhoneRater$Tariff", "first", "I", true)
  | 5 => ("PhoneRater$Tariff", "next", "I", true)
  | 6 => ("PhoneRater$Tariff", "zoneRate", "[I", true)
  | _ => ("PhoneRater$Tariff", "zoneDayFee", "[I", true)
def tyX3 : Nat → FieldType := fun k => match k with
  | 0 => .int
  | 1 => .int
  | 2 => .int
  | 3 => .int
  | 4 => .int
  | 5 => .int
  | 6 => .array .int
  | _ => .array .int
abbrev wsX30 : List Cond := u_ws RX3 TX3 8
theorem nmX3 : ∀ a, a < 8 → ∀ b, b < 8 → a ≠ b → (TX3 a).2.1 ≠ (TX3 b).2.1 := by decide +kernel
theorem tyX3_ok : ∀ k, k < 8 → parseFieldDescriptor (TX3 k).2.2.1 = some (tyX3 k) := by decide +kernel
abbrev cX3_init : ByteArray := prog_5_method_1_code
def yX3_init : MethodName := ⟨RX3, "<init>", "(IIIIII)V"⟩
abbrev cX3_billedFor : ByteArray := prog_5_method_2_code
def yX3_billedFor : MethodName := ⟨RX3, "billedFor", "(I)I"⟩
abbrev cX3_chargeFor : ByteArray := prog_5_method_3_code
def yX3_chargeFor : MethodName := ⟨RX3, "chargeFor", "(II)I"⟩
def RX4 : String := "PhoneRater"
def TX4 : u_T := fun k => match k with
  | 0 => ("PhoneRater", "tariffs", "Ljava/util/ArrayList;", true)
  | 1 => ("PhoneRater", "accounts", "Ljava/util/ArrayList;", true)
  | 2 => ("PhoneRater", "lines", "Ljava/util/ArrayList;", true)
  | 3 => ("PhoneRater", "calls", "Ljava/util/ArrayList;", true)
  | 4 => ("PhoneRater", "ordered", "Ljava/util/ArrayList;", true)
  | 5 => ("PhoneRater", "firstOfPeak", "I", false)
  | _ => ("PhoneRater", "lastOfPeak", "I", false)
def tyX4 : Nat → FieldType := fun k => match k with
  | 0 => .object "java/util/ArrayList"
  | 1 => .object "java/util/ArrayList"
  | 2 => .object "java/util/ArrayList"
  | 3 => .object "java/util/ArrayList"
  | 4 => .object "java/util/ArrayList"
  | 5 => .int
  | _ => .int
abbrev wsX40 : List Cond := u_ws RX4 TX4 7
theorem nmX4 : ∀ a, a < 7 → ∀ b, b < 7 → a ≠ b → (TX4 a).2.1 ≠ (TX4 b).2.1 := by decide +kernel
theorem tyX4_ok : ∀ k, k < 7 → parseFieldDescriptor (TX4 k).2.2.1 = some (tyX4 k) := by decide +kernel
abbrev cX4_init : ByteArray := prog_1_method_1_code
def yX4_init : MethodName := ⟨RX4, "<init>", "()V"⟩
abbrev cX4_addTariff : ByteArray := prog_1_method_2_code
def yX4_addTariff : MethodName := ⟨RX4, "addTariff", "(IIIII)I"⟩
abbrev cX4_setZone : ByteArray := prog_1_method_3_code
def yX4_setZone : MethodName := ⟨RX4, "setZone", "(IIII)I"⟩
abbrev cX4_setPeak : ByteArray := prog_1_method_4_code
def yX4_setPeak : MethodName := ⟨RX4, "setPeak", "(II)Z"⟩
abbrev cX4_addAccount : ByteArray := prog_1_method_5_code
def yX4_addAccount : MethodName := ⟨RX4, "addAccount", "(III)I"⟩
abbrev cX4_addLine : ByteArray := prog_1_method_6_code
def yX4_addLine : MethodName := ⟨RX4, "addLine", "(II)I"⟩
abbrev cX4_setTariff : ByteArray := prog_1_method_7_code
def yX4_setTariff : MethodName := ⟨RX4, "setTariff", "(II)I"⟩
abbrev cX4_setBundle : ByteArray := prog_1_method_8_code
def yX4_setBundle : MethodName := ⟨RX4, "setBundle", "(II)I"⟩
abbrev cX4_addCall : ByteArray := prog_1_method_9_code
def yX4_addCall : MethodName := ⟨RX4, "addCall", "(IIII)I"⟩
abbrev cX4_correct : ByteArray := prog_1_method_10_code
def yX4_correct : MethodName := ⟨RX4, "correct", "(II)I"⟩
abbrev cX4_callCount : ByteArray := prog_1_method_11_code
def yX4_callCount : MethodName := ⟨RX4, "callCount", "()I"⟩
abbrev cX4_callAt : ByteArray := prog_1_method_12_code
def yX4_callAt : MethodName := ⟨RX4, "callAt", "(I)I"⟩
abbrev cX4_isPeak : ByteArray := prog_1_method_13_code
def yX4_isPeak : MethodName := ⟨RX4, "isPeak", "(I)Z"⟩
abbrev cX4_told : ByteArray := prog_1_method_14_code
def yX4_told : MethodName := ⟨RX4, "told", "(II)I"⟩
abbrev cX4_dearest : ByteArray := prog_1_method_15_code
def yX4_dearest : MethodName := ⟨RX4, "dearest", "()I"⟩
abbrev cX4_lineSum : ByteArray := prog_1_method_16_code
def yX4_lineSum : MethodName := ⟨RX4, "lineSum", "(I)I"⟩
abbrev cX4_daySum : ByteArray := prog_1_method_17_code
def yX4_daySum : MethodName := ⟨RX4, "daySum", "(I)I"⟩
abbrev cX4_sum : ByteArray := prog_1_method_18_code
def yX4_sum : MethodName := ⟨RX4, "sum", "(I)I"⟩
abbrev cX4_total : ByteArray := prog_1_method_19_code
def yX4_total : MethodName := ⟨RX4, "total", "(I)I"⟩
abbrev cX4_left : ByteArray := prog_1_method_20_code
def yX4_left : MethodName := ⟨RX4, "left", "(I)I"⟩
abbrev cX4_emptied : ByteArray := prog_1_method_21_code
def yX4_emptied : MethodName := ⟨RX4, "emptied", "(I)I"⟩
abbrev cX4_dayFees : ByteArray := prog_1_method_22_code
def yX4_dayFees : MethodName := ⟨RX4, "dayFees", "(II)I"⟩
abbrev cX4_totalWith : ByteArray := prog_1_method_23_code
def yX4_totalWith : MethodName := ⟨RX4, "totalWith", "(II)I"⟩
abbrev cX4_bestTariff : ByteArray := prog_1_method_24_code
def yX4_bestTariff : MethodName := ⟨RX4, "bestTariff", "(I)I"⟩
abbrev cX4_freeShare : ByteArray := prog_1_method_25_code
def yX4_freeShare : MethodName := ⟨RX4, "freeShare", "()D"⟩
abbrev cX4_digest : ByteArray := prog_1_method_26_code
def yX4_digest : MethodName := ⟨RX4, "digest", "()J"⟩
abbrev cX4_mixLines : ByteArray := prog_1_method_27_code
def yX4_mixLines : MethodName := ⟨RX4, "mixLines", "(J)J"⟩
abbrev cX4_mixAccounts : ByteArray := prog_1_method_28_code
def yX4_mixAccounts : MethodName := ⟨RX4, "mixAccounts", "(J)J"⟩
abbrev cX4_mixCalls : ByteArray := prog_1_method_29_code
def yX4_mixCalls : MethodName := ⟨RX4, "mixCalls", "(J)J"⟩
abbrev cX4_mix : ByteArray := prog_1_method_30_code
def yX4_mix : MethodName := ⟨RX4, "mix", "(JI)J"⟩
abbrev cX4_putInOrder : ByteArray := prog_1_method_31_code
def yX4_putInOrder : MethodName := ⟨RX4, "putInOrder", "(LPhoneRater$Call;)V"⟩
abbrev cX4_giveTariff : ByteArray := prog_1_method_32_code
def yX4_giveTariff : MethodName := ⟨RX4, "giveTariff", "(LPhoneRater$Line;LPhoneRater$Tariff;)V"⟩
abbrev cX4_rateAll : ByteArray := prog_1_method_33_code
def yX4_rateAll : MethodName := ⟨RX4, "rateAll", "()V"⟩
abbrev cX4_rate : ByteArray := prog_1_method_34_code
def yX4_rate : MethodName := ⟨RX4, "rate", "(LPhoneRater$Call;)V"⟩
abbrev cX4_rateDayFee : ByteArray := prog_1_method_35_code
def yX4_rateDayFee : MethodName := ⟨RX4, "rateDayFee", "(LPhoneRater$Call;)V"⟩
abbrev cX4_beginsInPeak : ByteArray := prog_1_method_36_code
def yX4_beginsInPeak : MethodName := ⟨RX4, "beginsInPeak", "(LPhoneRater$Call;)Z"⟩
abbrev cX4_findTariff : ByteArray := prog_1_method_37_code
def yX4_findTariff : MethodName := ⟨RX4, "findTariff", "(I)LPhoneRater$Tariff;"⟩
abbrev cX4_findAccount : ByteArray := prog_1_method_38_code
def yX4_findAccount : MethodName := ⟨RX4, "findAccount", "(I)LPhoneRater$Account;"⟩
abbrev cX4_findLine : ByteArray := prog_1_method_39_code
def yX4_findLine : MethodName := ⟨RX4, "findLine", "(I)LPhoneRater$Line;"⟩
abbrev cX4_findCall : ByteArray := prog_1_method_40_code
def yX4_findCall : MethodName := ⟨RX4, "findCall", "(I)LPhoneRater$Call;"⟩
abbrev cX4_checkAbroad : ByteArray := prog_1_method_41_code
def yX4_checkAbroad : MethodName := ⟨RX4, "checkAbroad", "(I)V"⟩
abbrev cX4_checkBundle : ByteArray := prog_1_method_42_code
def yX4_checkBundle : MethodName := ⟨RX4, "checkBundle", "(I)V"⟩
abbrev cX4_isMinuteOfDay : ByteArray := prog_1_method_43_code
def yX4_isMinuteOfDay : MethodName := ⟨RX4, "isMinuteOfDay", "(I)Z"⟩
abbrev cX4_isMoney : ByteArray := prog_1_method_44_code
def yX4_isMoney : MethodName := ⟨RX4, "isMoney", "(I)Z"⟩
abbrev cX4_isWithin : ByteArray := prog_1_method_45_code
def yX4_isWithin : MethodName := ⟨RX4, "isWithin", "(III)Z"⟩
def RX5 : String := "PhoneRaterModel"
def TX5 : u_T := fun k => match k with
  | 0 => ("PhoneRaterModel", "thrown", "I", false)
  | 1 => ("PhoneRaterModel", "tariffs", "I", false)
  | 2 => ("PhoneRaterModel", "table", "[I", true)
  | 3 => ("PhoneRaterModel", "accounts", "I", false)
  | 4 => ("PhoneRaterModel", "terms", "[I", true)
  | 5 => ("PhoneRaterModel", "lines", "I", false)
  | 6 => ("PhoneRaterModel", "owners", "[I", true)
  | 7 => ("PhoneRaterModel", "plans", "[I", true)
  | 8 => ("PhoneRaterModel", "calls", "I", false)
  | 9 => ("PhoneRaterModel", "log", "[I", true)
  | 10 => ("PhoneRaterModel", "peakFirst", "I", false)
  | 11 => ("PhoneRaterModel", "peakLast", "I", false)
  | 12 => ("PhoneRaterModel", "order", "[I", true)
  | 13 => ("PhoneRaterModel", "billed", "[I", true)
  | 14 => ("PhoneRaterModel", "free", "[I", true)
  | 15 => ("PhoneRaterModel", "prices", "[I", true)
  | 16 => ("PhoneRaterModel", "fees", "[I", true)
  | 17 => ("PhoneRaterModel", "left", "[I", true)
  | _ => ("PhoneRaterModel", "emptied", "[I", true)
def tyX5 : Nat → FieldType := fun k => match k with
  | 0 => .int
  | 1 => .int
  | 2 => .array .int
  | 3 => .int
  | 4 => .array .int
  | 5 => .int
  | 6 => .array .int
  | 7 => .array .int
  | 8 => .int
  | 9 => .array .int
  | 10 => .int
  | 11 => .int
  | 12 => .array .int
  | 13 => .array .int
  | 14 => .array .int
  | 15 => .array .int
  | 16 => .array .int
  | 17 => .array .int
  | _ => .array .int
abbrev wsX50 : List Cond := u_ws RX5 TX5 19
theorem nmX5 : ∀ a, a < 19 → ∀ b, b < 19 → a ≠ b → (TX5 a).2.1 ≠ (TX5 b).2.1 := by decide +kernel
theorem tyX5_ok : ∀ k, k < 19 → parseFieldDescriptor (TX5 k).2.2.1 = some (tyX5 k) := by decide +kernel
abbrev cX5_init : ByteArray := prog_7_method_1_code
def yX5_init : MethodName := ⟨RX5, "<init>", "()V"⟩
abbrev cX5_thrown : ByteArray := prog_7_method_2_code
def yX5_thrown : MethodName := ⟨RX5, "thrown", "()I"⟩
abbrev cX5_fail : ByteArray := prog_7_method_3_code
def yX5_fail : MethodName := ⟨RX5, "fail", "(I)I"⟩
abbrev cX5_isIn : ByteArray := prog_7_method_4_code
def yX5_isIn : MethodName := ⟨RX5, "isIn", "(III)Z"⟩
abbrev cX5_isTariff : ByteArray := prog_7_method_5_code
def yX5_isTariff : MethodName := ⟨RX5, "isTariff", "(I)Z"⟩
abbrev cX5_isAccount : ByteArray := prog_7_method_6_code
def yX5_isAccount : MethodName := ⟨RX5, "isAccount", "(I)Z"⟩
abbrev cX5_isLine : ByteArray := prog_7_method_7_code
def yX5_isLine : MethodName := ⟨RX5, "isLine", "(I)Z"⟩
abbrev cX5_isCall : ByteArray := prog_7_method_8_code
def yX5_isCall : MethodName := ⟨RX5, "isCall", "(I)Z"⟩
abbrev cX5_addTariff : ByteArray := prog_7_method_9_code
def yX5_addTariff : MethodName := ⟨RX5, "addTariff", "(IIIII)I"⟩
abbrev cX5_setZone : ByteArray := prog_7_method_10_code
def yX5_setZone : MethodName := ⟨RX5, "setZone", "(IIII)I"⟩
abbrev cX5_setPeak : ByteArray := prog_7_method_11_code
def yX5_setPeak : MethodName := ⟨RX5, "setPeak", "(II)Z"⟩
abbrev cX5_addAccount : ByteArray := prog_7_method_12_code
def yX5_addAccount : MethodName := ⟨RX5, "addAccount", "(III)I"⟩
abbrev cX5_addLine : ByteArray := prog_7_method_13_code
def yX5_addLine : MethodName := ⟨RX5, "addLine", "(II)I"⟩
abbrev cX5_setTariff : ByteArray := prog_7_method_14_code
def yX5_setTariff : MethodName := ⟨RX5, "setTariff", "(II)I"⟩
abbrev cX5_setBundle : ByteArray := prog_7_method_15_code
def yX5_setBundle : MethodName := ⟨RX5, "setBundle", "(II)I"⟩
abbrev cX5_addCall : ByteArray := prog_7_method_16_code
def yX5_addCall : MethodName := ⟨RX5, "addCall", "(IIII)I"⟩
abbrev cX5_correct : ByteArray := prog_7_method_17_code
def yX5_correct : MethodName := ⟨RX5, "correct", "(II)I"⟩
abbrev cX5_callCount : ByteArray := prog_7_method_18_code
def yX5_callCount : MethodName := ⟨RX5, "callCount", "()I"⟩
abbrev cX5_callAt : ByteArray := prog_7_method_19_code
def yX5_callAt : MethodName := ⟨RX5, "callAt", "(I)I"⟩
abbrev cX5_dayOf : ByteArray := prog_7_method_20_code
def yX5_dayOf : MethodName := ⟨RX5, "dayOf", "(I)I"⟩
abbrev cX5_isInPeak : ByteArray := prog_7_method_21_code
def yX5_isInPeak : MethodName := ⟨RX5, "isInPeak", "(I)Z"⟩
abbrev cX5_isPeak : ByteArray := prog_7_method_22_code
def yX5_isPeak : MethodName := ⟨RX5, "isPeak", "(I)Z"⟩
abbrev cX5_earlier : ByteArray := prog_7_method_23_code
def yX5_earlier : MethodName := ⟨RX5, "earlier", "(I)I"⟩
abbrev cX5_rate : ByteArray := prog_7_method_24_code
def yX5_rate : MethodName := ⟨RX5, "rate", "(I)V"⟩
abbrev cX5_rateAll : ByteArray := prog_7_method_25_code
def yX5_rateAll : MethodName := ⟨RX5, "rateAll", "()V"⟩
abbrev cX5_told : ByteArray := prog_7_method_26_code
def yX5_told : MethodName := ⟨RX5, "told", "(II)I"⟩
abbrev cX5_toldOf : ByteArray := prog_7_method_27_code
def yX5_toldOf : MethodName := ⟨RX5, "toldOf", "(II)I"⟩
abbrev cX5_dearest : ByteArray := prog_7_method_28_code
def yX5_dearest : MethodName := ⟨RX5, "dearest", "()I"⟩
abbrev cX5_lineSumOf : ByteArray := prog_7_method_29_code
def yX5_lineSumOf : MethodName := ⟨RX5, "lineSumOf", "(I)I"⟩
abbrev cX5_lineSum : ByteArray := prog_7_method_30_code
def yX5_lineSum : MethodName := ⟨RX5, "lineSum", "(I)I"⟩
abbrev cX5_daySum : ByteArray := prog_7_method_31_code
def yX5_daySum : MethodName := ⟨RX5, "daySum", "(I)I"⟩
abbrev cX5_sumOf : ByteArray := prog_7_method_32_code
def yX5_sumOf : MethodName := ⟨RX5, "sumOf", "(I)I"⟩
abbrev cX5_totalOf : ByteArray := prog_7_method_33_code
def yX5_totalOf : MethodName := ⟨RX5, "totalOf", "(I)I"⟩
abbrev cX5_sum : ByteArray := prog_7_method_34_code
def yX5_sum : MethodName := ⟨RX5, "sum", "(I)I"⟩
abbrev cX5_total : ByteArray := prog_7_method_35_code
def yX5_total : MethodName := ⟨RX5, "total", "(I)I"⟩
abbrev cX5_left : ByteArray := prog_7_method_36_code
def yX5_left : MethodName := ⟨RX5, "left", "(I)I"⟩
abbrev cX5_emptied : ByteArray := prog_7_method_37_code
def yX5_emptied : MethodName := ⟨RX5, "emptied", "(I)I"⟩
abbrev cX5_dayFees : ByteArray := prog_7_method_38_code
def yX5_dayFees : MethodName := ⟨RX5, "dayFees", "(II)I"⟩
abbrev cX5_with : ByteArray := prog_7_method_39_code
def yX5_with : MethodName := ⟨RX5, "with", "(II)I"⟩
abbrev cX5_totalWith : ByteArray := prog_7_method_40_code
def yX5_totalWith : MethodName := ⟨RX5, "totalWith", "(II)I"⟩
abbrev cX5_bestTariff : ByteArray := prog_7_method_41_code
def yX5_bestTariff : MethodName := ⟨RX5, "bestTariff", "(I)I"⟩
abbrev cX5_freeShare : ByteArray := prog_7_method_42_code
def yX5_freeShare : MethodName := ⟨RX5, "freeShare", "()D"⟩
abbrev cX5_digest : ByteArray := prog_7_method_43_code
def yX5_digest : MethodName := ⟨RX5, "digest", "()J"⟩
def RJx145de : String := "java/io/Serializable"
def TJx145de : u_T := fun k => match k with
  | _ => ("", "", "", false)
def tyJx145de : Nat → FieldType := fun k => match k with
  | _ => .int
abbrev wsJx145de0 : List Cond := u_ws RJx145de TJx145de 0
theorem nmJx145de : ∀ a, a < 0 → ∀ b, b < 0 → a ≠ b → (TJx145de a).2.1 ≠ (TJx145de b).2.1 := by decide +kernel
theorem tyJx145de_ok : ∀ k, k < 0 → parseFieldDescriptor (TJx145de k).2.2.1 = some (tyJx145de k) := by decide +kernel
def RJ5 : String := "java/lang/AbstractStringBuilder"
def TJ5 : u_T := fun k => match k with
  | _ => ("", "", "", false)
def tyJ5 : Nat → FieldType := fun k => match k with
  | _ => .int
abbrev wsJ50 : List Cond := u_ws RJ5 TJ5 0
theorem nmJ5 : ∀ a, a < 0 → ∀ b, b < 0 → a ≠ b → (TJ5 a).2.1 ≠ (TJ5 b).2.1 := by decide +kernel
theorem tyJ5_ok : ∀ k, k < 0 → parseFieldDescriptor (TJ5 k).2.2.1 = some (tyJ5 k) := by decide +kernel
abbrev cJ5_init_d00df : ByteArray := prog_9_method_2_code
def yJ5_init_d00df : MethodName := ⟨RJ5, "<init>", "(I)V"⟩
abbrev cJ5_length_8abf5 : ByteArray := prog_9_method_6_code
def yJ5_length_8abf5 : MethodName := ⟨RJ5, "length", "()I"⟩
abbrev cJ5_ensureCapacityInternal_d00df : ByteArray := prog_9_method_9_code
def yJ5_ensureCapacityInternal_d00df : MethodName := ⟨RJ5, "ensureCapacityInternal", "(I)V"⟩
abbrev cJ5_newCapacity_0f7a4 : ByteArray := prog_9_method_10_code
def yJ5_newCapacity_0f7a4 : MethodName := ⟨RJ5, "newCapacity", "(I)I"⟩
abbrev cJ5_inflate_da8c8 : ByteArray := prog_9_method_11_code
def yJ5_inflate_da8c8 : MethodName := ⟨RJ5, "inflate", "()V"⟩
abbrev cJ5_append_cf1ce : ByteArray := prog_9_method_22_code
def yJ5_append_cf1ce : MethodName := ⟨RJ5, "append", "(Ljava/lang/String;)Ljava/lang/AbstractStringBuilder;"⟩
abbrev cJ5_appendNull_278bc : ByteArray := prog_9_method_26_code
def yJ5_appendNull_278bc : MethodName := ⟨RJ5, "appendNull", "()Ljava/lang/AbstractStringBuilder;"⟩
abbrev cJ5_append_c97b9 : ByteArray := prog_9_method_32_code
def yJ5_append_c97b9 : MethodName := ⟨RJ5, "append", "(I)Ljava/lang/AbstractStringBuilder;"⟩
abbrev cJ5_getValue_6d5f1 : ByteArray := prog_9_method_64_code
def yJ5_getValue_6d5f1 : MethodName := ⟨RJ5, "getValue", "()[B"⟩
abbrev cJ5_isLatin1_aae02 : ByteArray := prog_9_method_68_code
def yJ5_isLatin1_aae02 : MethodName := ⟨RJ5, "isLatin1", "()Z"⟩
abbrev cJ5_inflateIfNeededFor_a7421 : ByteArray := prog_9_method_71_code
def yJ5_inflateIfNeededFor_a7421 : MethodName := ⟨RJ5, "inflateIfNeededFor", "(Ljava/lang/String;)V"⟩
abbrev cJ5_putStringAt_47b60 : ByteArray := prog_9_method_73_code
def yJ5_putStringAt_47b60 : MethodName := ⟨RJ5, "putStringAt", "(ILjava/lang/String;)V"⟩
def RJx2cfe8 : String := "java/lang/Appendable"
def TJx2cfe8 : u_T := fun k => match k with
  | _ => ("", "", "", false)
def tyJx2cfe8 : Nat → FieldType := fun k => match k with
  | _ => .int
abbrev wsJx2cfe80 : List Cond := u_ws RJx2cfe8 TJx2cfe8 0
theorem nmJx2cfe8 : ∀ a, a < 0 → ∀ b, b < 0 → a ≠ b → (TJx2cfe8 a).2.1 ≠ (TJx2cfe8 b).2.1 := by decide +kernel
theorem tyJx2cfe8_ok : ∀ k, k < 0 → parseFieldDescriptor (TJx2cfe8 k).2.2.1 = some (tyJx2cfe8 k) := by decide +kernel
def RJx9f9b0 : String := "java/lang/CharSequence"
def TJx9f9b0 : u_T := fun k => match k with
  | _ => ("", "", "", false)
def tyJx9f9b0 : Nat → FieldType := fun k => match k with
  | _ => .int
abbrev wsJx9f9b00 : List Cond := u_ws RJx9f9b0 TJx9f9b0 0
theorem nmJx9f9b0 : ∀ a, a < 0 → ∀ b, b < 0 → a ≠ b → (TJx9f9b0 a).2.1 ≠ (TJx9f9b0 b).2.1 := by decide +kernel
theorem tyJx9f9b0_ok : ∀ k, k < 0 → parseFieldDescriptor (TJx9f9b0 k).2.2.1 = some (tyJx9f9b0 k) := by decide +kernel
def RJx8e188 : String := "java/lang/Cloneable"
def TJx8e188 : u_T := fun k => match k with
  | _ => ("", "", "", false)
def tyJx8e188 : Nat → FieldType := fun k => match k with
  | _ => .int
abbrev wsJx8e1880 : List Cond := u_ws RJx8e188 TJx8e188 0
theorem nmJx8e188 : ∀ a, a < 0 → ∀ b, b < 0 → a ≠ b → (TJx8e188 a).2.1 ≠ (TJx8e188 b).2.1 := by decide +kernel
theorem tyJx8e188_ok : ∀ k, k < 0 → parseFieldDescriptor (TJx8e188 k).2.2.1 = some (tyJx8e188 k) := by decide +kernel
def RJxb160c : String := "java/lang/Comparable"
def TJxb160c : u_T := fun k => match k with
  | _ => ("", "", "", false)
def tyJxb160c : Nat → FieldType := fun k => match k with
  | _ => .int
abbrev wsJxb160c0 : List Cond := u_ws RJxb160c TJxb160c 0
theorem nmJxb160c : ∀ a, a < 0 → ∀ b, b < 0 → a ≠ b → (TJxb160c a).2.1 ≠ (TJxb160c b).2.1 := by decide +kernel
theorem tyJxb160c_ok : ∀ k, k < 0 → parseFieldDescriptor (TJxb160c k).2.2.1 = some (tyJxb160c k) := by decide +kernel
def RJ6 : String := "java/lang/Integer"
def TJ6 : u_T := fun k => match k with
  | _ => ("", "", "", false)
def tyJ6 : Nat → FieldType := fun k => match k with
  | _ => .int
abbrev wsJ60 : List Cond := u_ws RJ6 TJ6 0
theorem nmJ6 : ∀ a, a < 0 → ∀ b, b < 0 → a ≠ b → (TJ6 a).2.1 ≠ (TJ6 b).2.1 := by decide +kernel
theorem tyJ6_ok : ∀ k, k < 0 → parseFieldDescriptor (TJ6 k).2.2.1 = some (tyJ6 k) := by decide +kernel
abbrev cJ6_getChars_ba4f3 : ByteArray := prog_18_method_12_code
def yJ6_getChars_ba4f3 : MethodName := ⟨RJ6, "getChars", "(II[B)I"⟩
abbrev cJ6_stringSize_0f7a4 : ByteArray := prog_18_method_13_code
def yJ6_stringSize_0f7a4 : MethodName := ⟨RJ6, "stringSize", "(I)I"⟩
def RJxab1ab : String := "java/lang/Iterable"
def TJxab1ab : u_T := fun k => match k with
  | _ => ("", "", "", false)
def tyJxab1ab : Nat → FieldType := fun k => match k with
  | _ => .int
abbrev wsJxab1ab0 : List Cond := u_ws RJxab1ab TJxab1ab 0
theorem nmJxab1ab : ∀ a, a < 0 → ∀ b, b < 0 → a ≠ b → (TJxab1ab a).2.1 ≠ (TJxab1ab b).2.1 := by decide +kernel
theorem tyJxab1ab_ok : ∀ k, k < 0 → parseFieldDescriptor (TJxab1ab k).2.2.1 = some (tyJxab1ab k) := by decide +kernel
def RJ9 : String := "java/lang/Math"
def TJ9 : u_T := fun k => match k with
  | _ => ("", "", "", false)
def tyJ9 : Nat → FieldType := fun k => match k with
  | _ => .int
abbrev wsJ90 : List Cond := u_ws RJ9 TJ9 0
theorem nmJ9 : ∀ a, a < 0 → ∀ b, b < 0 → a ≠ b → (TJ9 a).2.1 ≠ (TJ9 b).2.1 := by decide +kernel
theorem tyJ9_ok : ∀ k, k < 0 → parseFieldDescriptor (TJ9 k).2.2.1 = some (tyJ9 k) := by decide +kernel
abbrev cJ9_max_7cf53 : ByteArray := prog_20_method_65_code
def yJ9_max_7cf53 : MethodName := ⟨RJ9, "max", "(II)I"⟩
abbrev cJ9_min_7cf53 : ByteArray := prog_20_method_69_code
def yJ9_min_7cf53 : MethodName := ⟨RJ9, "min", "(II)I"⟩
def RJxd2413 : String := "java/lang/Number"
def TJxd2413 : u_T := fun k => match k with
  | _ => ("", "", "", false)
def tyJxd2413 : Nat → FieldType := fun k => match k with
  | _ => .int
abbrev wsJxd24130 : List Cond := u_ws RJxd2413 TJxd2413 0
theorem nmJxd2413 : ∀ a, a < 0 → ∀ b, b < 0 → a ≠ b → (TJxd2413 a).2.1 ≠ (TJxd2413 b).2.1 := by decide +kernel
theorem tyJxd2413_ok : ∀ k, k < 0 → parseFieldDescriptor (TJxd2413 k).2.2.1 = some (tyJxd2413 k) := by decide +kernel
def RJ0 : String := "java/lang/String"
def TJ0 : u_T := fun k => match k with
  | 0 => ("java/lang/String", "value", "[B", true)
  | 1 => ("java/lang/String", "coder", "B", true)
  | 2 => ("java/lang/String", "hash", "I", false)
  | _ => ("java/lang/String", "hashIsZero", "Z", false)
def tyJ0 : Nat → FieldType := fun k => match k with
  | 0 => .array .byte
  | 1 => .byte
  | 2 => .int
  | _ => .boolean
abbrev wsJ00 : List Cond := u_ws RJ0 TJ0 4
theorem nmJ0 : ∀ a, a < 4 → ∀ b, b < 4 → a ≠ b → (TJ0 a).2.1 ≠ (TJ0 b).2.1 := by decide +kernel
theorem tyJ0_ok : ∀ k, k < 4 → parseFieldDescriptor (TJ0 k).2.2.1 = some (tyJ0 k) := by decide +kernel
abbrev cJ0_init_81219 : ByteArray := prog_23_method_53_code
def yJ0_init_81219 : MethodName := ⟨RJ0, "<init>", "(Ljava/lang/StringBuilder;)V"⟩
abbrev cJ0_length_8abf5 : ByteArray := prog_23_method_54_code
def yJ0_length_8abf5 : MethodName := ⟨RJ0, "length", "()I"⟩
abbrev cJ0_getBytes_840e7 : ByteArray := prog_23_method_147_code
def yJ0_getBytes_840e7 : MethodName := ⟨RJ0, "getBytes", "([BIB)V"⟩
abbrev cJ0_init_db425 : ByteArray := prog_23_method_150_code
def yJ0_init_db425 : MethodName := ⟨RJ0, "<init>", "(Ljava/lang/AbstractStringBuilder;Ljava/lang/Void;)V"⟩
abbrev cJ0_coder_7d493 : ByteArray := prog_23_method_152_code
def yJ0_coder_7d493 : MethodName := ⟨RJ0, "coder", "()B"⟩
abbrev cJ0_checkBoundsOffCount_cabcc : ByteArray := prog_23_method_157_code
def yJ0_checkBoundsOffCount_cabcc : MethodName := ⟨RJ0, "checkBoundsOffCount", "(III)I"⟩
abbrev cJ0_checkBoundsBeginEnd_23922 : ByteArray := prog_23_method_158_code
def yJ0_checkBoundsBeginEnd_23922 : MethodName := ⟨RJ0, "checkBoundsBeginEnd", "(III)V"⟩
def RJ4 : String := "java/lang/StringBuilder"
def TJ4 : u_T := fun k => match k with
  | 0 => ("java/lang/AbstractStringBuilder", "value", "[B", false)
  | 1 => ("java/lang/AbstractStringBuilder", "coder", "B", false)
  | 2 => ("java/lang/AbstractStringBuilder", "maybeLatin1", "Z", false)
  | _ => ("java/lang/AbstractStringBuilder", "count", "I", false)
def tyJ4 : Nat → FieldType := fun k => match k with
  | 0 => .array .byte
  | 1 => .byte
  | 2 => .boolean
  | _ => .int
abbrev wsJ40 : List Cond := u_ws RJ4 TJ4 4
theorem nmJ4 : ∀ a, a < 4 → ∀ b, b < 4 → a ≠ b → (TJ4 a).2.1 ≠ (TJ4 b).2.1 := by decide +kernel
theorem tyJ4_ok : ∀ k, k < 4 → parseFieldDescriptor (TJ4 k).2.2.1 = some (tyJ4 k) := by decide +kernel
abbrev cJ4_init_da8c8 : ByteArray := prog_24_method_1_code
def yJ4_init_da8c8 : MethodName := ⟨RJ4, "<init>", "()V"⟩
abbrev cJ4_append_15ec4 : ByteArray := prog_24_method_7_code
def yJ4_append_15ec4 : MethodName := ⟨RJ4, "append", "(Ljava/lang/String;)Ljava/lang/StringBuilder;"⟩
abbrev cJ4_append_bf812 : ByteArray := prog_24_method_15_code
def yJ4_append_bf812 : MethodName := ⟨RJ4, "append", "(I)Ljava/lang/StringBuilder;"⟩
abbrev cJ4_toString_0e30d : ByteArray := prog_24_method_42_code
def yJ4_toString_0e30d : MethodName := ⟨RJ4, "toString", "()Ljava/lang/String;"⟩
abbrev cJ4_length_8abf5 : ByteArray := prog_24_method_93_code
def yJ4_length_8abf5 : MethodName := ⟨RJ4, "length", "()I"⟩
def RJ1 : String := "java/lang/StringLatin1"
def TJ1 : u_T := fun k => match k with
  | _ => ("", "", "", false)
def tyJ1 : Nat → FieldType := fun k => match k with
  | _ => .int
abbrev wsJ10 : List Cond := u_ws RJ1 TJ1 0
theorem nmJ1 : ∀ a, a < 0 → ∀ b, b < 0 → a ≠ b → (TJ1 a).2.1 ≠ (TJ1 b).2.1 := by decide +kernel
theorem tyJ1_ok : ∀ k, k < 0 → parseFieldDescriptor (TJ1 k).2.2.1 = some (tyJ1 k) := by decide +kernel
abbrev cJ1_inflate_0e8fd : ByteArray := prog_25_method_50_code
def yJ1_inflate_0e8fd : MethodName := ⟨RJ1, "inflate", "([BI[BII)V"⟩
def RJ2 : String := "java/lang/StringUTF16"
def TJ2 : u_T := fun k => match k with
  | _ => ("", "", "", false)
def tyJ2 : Nat → FieldType := fun k => match k with
  | _ => .int
abbrev wsJ20 : List Cond := u_ws RJ2 TJ2 0
theorem nmJ2 : ∀ a, a < 0 → ∀ b, b < 0 → a ≠ b → (TJ2 a).2.1 ≠ (TJ2 b).2.1 := by decide +kernel
theorem tyJ2_ok : ∀ k, k < 0 → parseFieldDescriptor (TJ2 k).2.2.1 = some (tyJ2 k) := by decide +kernel
abbrev cJ2_newBytesFor_77867 : ByteArray := prog_26_method_2_code
def yJ2_newBytesFor_77867 : MethodName := ⟨RJ2, "newBytesFor", "(I)[B"⟩
abbrev cJ2_newBytesLength_0f7a4 : ByteArray := prog_26_method_3_code
def yJ2_newBytesLength_0f7a4 : MethodName := ⟨RJ2, "newBytesLength", "(I)I"⟩
abbrev cJ2_putChar_b72d1 : ByteArray := prog_26_method_4_code
def yJ2_putChar_b72d1 : MethodName := ⟨RJ2, "putChar", "([BII)V"⟩
abbrev cJ2_getChar_3b067 : ByteArray := prog_26_method_5_code
def yJ2_getChar_3b067 : MethodName := ⟨RJ2, "getChar", "([BI)C"⟩
abbrev cJ2_length_9d52b : ByteArray := prog_26_method_6_code
def yJ2_length_9d52b : MethodName := ⟨RJ2, "length", "([B)I"⟩
abbrev cJ2_coderFromArrayLen_85cad : ByteArray := prog_26_method_15_code
def yJ2_coderFromArrayLen_85cad : MethodName := ⟨RJ2, "coderFromArrayLen", "([BI)B"⟩
abbrev cJ2_compress_39247 : ByteArray := prog_26_method_17_code
def yJ2_compress_39247 : MethodName := ⟨RJ2, "compress", "([BII)[B"⟩
abbrev cJ2_compress_5af95 : ByteArray := prog_26_method_22_code
def yJ2_compress_5af95 : MethodName := ⟨RJ2, "compress", "([BI[BII)I"⟩
abbrev cJ2_getChars_46870 : ByteArray := prog_26_method_77_code
def yJ2_getChars_46870 : MethodName := ⟨RJ2, "getChars", "(III[B)I"⟩
abbrev cJ2_putCharsAt_cd4e5 : ByteArray := prog_26_method_81_code
def yJ2_putCharsAt_cd4e5 : MethodName := ⟨RJ2, "putCharsAt", "([BICCCC)I"⟩
abbrev cJ2_inflate_0e8fd : ByteArray := prog_26_method_86_code
def yJ2_inflate_0e8fd : MethodName := ⟨RJ2, "inflate", "([BI[BII)V"⟩
abbrev cJ2_getChars_ba4f3 : ByteArray := prog_26_method_89_code
def yJ2_getChars_ba4f3 : MethodName := ⟨RJ2, "getChars", "(II[B)I"⟩
abbrev cJ2_checkBoundsBeginEnd_d044e : ByteArray := prog_26_method_93_code
def yJ2_checkBoundsBeginEnd_d044e : MethodName := ⟨RJ2, "checkBoundsBeginEnd", "(II[B)V"⟩
abbrev cJ2_checkBoundsOffCount_d044e : ByteArray := prog_26_method_94_code
def yJ2_checkBoundsOffCount_d044e : MethodName := ⟨RJ2, "checkBoundsOffCount", "(II[B)V"⟩
def RJ10 : String := "java/lang/System"
def TJ10 : u_T := fun k => match k with
  | _ => ("", "", "", false)
def tyJ10 : Nat → FieldType := fun k => match k with
  | _ => .int
abbrev wsJ100 : List Cond := u_ws RJ10 TJ10 0
theorem nmJ10 : ∀ a, a < 0 → ∀ b, b < 0 → a ≠ b → (TJ10 a).2.1 ≠ (TJ10 b).2.1 := by decide +kernel
theorem tyJ10_ok : ∀ k, k < 0 → parseFieldDescriptor (TJ10 k).2.2.1 = some (tyJ10 k) := by decide +kernel
def RJxfd54e : String := "java/lang/constant/Constable"
def TJxfd54e : u_T := fun k => match k with
  | _ => ("", "", "", false)
def tyJxfd54e : Nat → FieldType := fun k => match k with
  | _ => .int
abbrev wsJxfd54e0 : List Cond := u_ws RJxfd54e TJxfd54e 0
theorem nmJxfd54e : ∀ a, a < 0 → ∀ b, b < 0 → a ≠ b → (TJxfd54e a).2.1 ≠ (TJxfd54e b).2.1 := by decide +kernel
theorem tyJxfd54e_ok : ∀ k, k < 0 → parseFieldDescriptor (TJxfd54e k).2.2.1 = some (tyJxfd54e k) := by decide +kernel
def RJx3cf43 : String := "java/lang/constant/ConstantDesc"
def TJx3cf43 : u_T := fun k => match k with
  | _ => ("", "", "", false)
def tyJx3cf43 : Nat → FieldType := fun k => match k with
  | _ => .int
abbrev wsJx3cf430 : List Cond := u_ws RJx3cf43 TJx3cf43 0
theorem nmJx3cf43 : ∀ a, a < 0 → ∀ b, b < 0 → a ≠ b → (TJx3cf43 a).2.1 ≠ (TJx3cf43 b).2.1 := by decide +kernel
theorem tyJx3cf43_ok : ∀ k, k < 0 → parseFieldDescriptor (TJx3cf43 k).2.2.1 = some (tyJx3cf43 k) := by decide +kernel
def RJxa1e45 : String := "java/util/AbstractCollection"
def TJxa1e45 : u_T := fun k => match k with
  | _ => ("", "", "", false)
def tyJxa1e45 : Nat → FieldType := fun k => match k with
  | _ => .int
abbrev wsJxa1e450 : List Cond := u_ws RJxa1e45 TJxa1e45 0
theorem nmJxa1e45 : ∀ a, a < 0 → ∀ b, b < 0 → a ≠ b → (TJxa1e45 a).2.1 ≠ (TJxa1e45 b).2.1 := by decide +kernel
theorem tyJxa1e45_ok : ∀ k, k < 0 → parseFieldDescriptor (TJxa1e45 k).2.2.1 = some (tyJxa1e45 k) := by decide +kernel
abbrev cJxa1e45_init_da8c8 : ByteArray := prog_31_method_1_code
def yJxa1e45_init_da8c8 : MethodName := ⟨RJxa1e45, "<init>", "()V"⟩
def RJxc12de : String := "java/util/AbstractList"
def TJxc12de : u_T := fun k => match k with
  | _ => ("", "", "", false)
def tyJxc12de : Nat → FieldType := fun k => match k with
  | _ => .int
abbrev wsJxc12de0 : List Cond := u_ws RJxc12de TJxc12de 0
theorem nmJxc12de : ∀ a, a < 0 → ∀ b, b < 0 → a ≠ b → (TJxc12de a).2.1 ≠ (TJxc12de b).2.1 := by decide +kernel
theorem tyJxc12de_ok : ∀ k, k < 0 → parseFieldDescriptor (TJxc12de k).2.2.1 = some (tyJxc12de k) := by decide +kernel
abbrev cJxc12de_init_da8c8 : ByteArray := prog_32_method_1_code
def yJxc12de_init_da8c8 : MethodName := ⟨RJxc12de, "<init>", "()V"⟩
def RJx4a65c : String := "java/util/ArrayList"
def TJx4a65c : u_T := fun k => match k with
  | 0 => ("java/util/AbstractList", "modCount", "I", false)
  | 1 => ("java/util/ArrayList", "elementData", "[Ljava/lang/Object;", false)
  | _ => ("java/util/ArrayList", "size", "I", false)
def tyJx4a65c : Nat → FieldType := fun k => match k with
  | 0 => .int
  | 1 => .array (.object "java/lang/Object")
  | _ => .int
abbrev wsJx4a65c0 : List Cond := u_ws RJx4a65c TJx4a65c 3
theorem nmJx4a65c : ∀ a, a < 3 → ∀ b, b < 3 → a ≠ b → (TJx4a65c a).2.1 ≠ (TJx4a65c b).2.1 := by decide +kernel
theorem tyJx4a65c_ok : ∀ k, k < 3 → parseFieldDescriptor (TJx4a65c k).2.2.1 = some (tyJx4a65c k) := by decide +kernel
abbrev cJx4a65c_init_da8c8 : ByteArray := prog_33_method_2_code
def yJx4a65c_init_da8c8 : MethodName := ⟨RJx4a65c, "<init>", "()V"⟩
abbrev cJx4a65c_grow_92f84 : ByteArray := prog_33_method_6_code
def yJx4a65c_grow_92f84 : MethodName := ⟨RJx4a65c, "grow", "(I)[Ljava/lang/Object;"⟩
abbrev cJx4a65c_grow_d5877 : ByteArray := prog_33_method_7_code
def yJx4a65c_grow_d5877 : MethodName := ⟨RJx4a65c, "grow", "()[Ljava/lang/Object;"⟩
abbrev cJx4a65c_size_8abf5 : ByteArray := prog_33_method_8_code
def yJx4a65c_size_8abf5 : MethodName := ⟨RJx4a65c, "size", "()I"⟩
abbrev cJx4a65c_elementData_915e3 : ByteArray := prog_33_method_18_code
def yJx4a65c_elementData_915e3 : MethodName := ⟨RJx4a65c, "elementData", "(I)Ljava/lang/Object;"⟩
abbrev cJx4a65c_get_915e3 : ByteArray := prog_33_method_20_code
def yJx4a65c_get_915e3 : MethodName := ⟨RJx4a65c, "get", "(I)Ljava/lang/Object;"⟩
abbrev cJx4a65c_add_72be8 : ByteArray := prog_33_method_24_code
def yJx4a65c_add_72be8 : MethodName := ⟨RJx4a65c, "add", "(Ljava/lang/Object;[Ljava/lang/Object;I)V"⟩
abbrev cJx4a65c_add_9ea2d : ByteArray := prog_33_method_25_code
def yJx4a65c_add_9ea2d : MethodName := ⟨RJx4a65c, "add", "(Ljava/lang/Object;)Z"⟩
abbrev cJx4a65c_add_7a177 : ByteArray := prog_33_method_26_code
def yJx4a65c_add_7a177 : MethodName := ⟨RJx4a65c, "add", "(ILjava/lang/Object;)V"⟩
abbrev cJx4a65c_rangeCheckForAdd_d00df : ByteArray := prog_33_method_45_code
def yJx4a65c_rangeCheckForAdd_d00df : MethodName := ⟨RJx4a65c, "rangeCheckForAdd", "(I)V"⟩
abbrev cJx4a65c_outOfBoundsMsg_b52d3 : ByteArray := prog_33_method_46_code
def yJx4a65c_outOfBoundsMsg_b52d3 : MethodName := ⟨RJx4a65c, "outOfBoundsMsg", "(I)Ljava/lang/String;"⟩
def RJ7 : String := "java/util/Arrays"
def TJ7 : u_T := fun k => match k with
  | _ => ("", "", "", false)
def tyJ7 : Nat → FieldType := fun k => match k with
  | _ => .int
abbrev wsJ70 : List Cond := u_ws RJ7 TJ7 0
theorem nmJ7 : ∀ a, a < 0 → ∀ b, b < 0 → a ≠ b → (TJ7 a).2.1 ≠ (TJ7 b).2.1 := by decide +kernel
theorem tyJ7_ok : ∀ k, k < 0 → parseFieldDescriptor (TJ7 k).2.2.1 = some (tyJ7 k) := by decide +kernel
abbrev cJ7_copyOf_1904c : ByteArray := prog_34_method_119_code
def yJ7_copyOf_1904c : MethodName := ⟨RJ7, "copyOf", "([Ljava/lang/Object;I)[Ljava/lang/Object;"⟩
abbrev cJ7_copyOf_6403c : ByteArray := prog_34_method_120_code
def yJ7_copyOf_6403c : MethodName := ⟨RJ7, "copyOf", "([Ljava/lang/Object;ILjava/lang/Class;)[Ljava/lang/Object;"⟩
abbrev cJ7_copyOf_9075b : ByteArray := prog_34_method_121_code
def yJ7_copyOf_9075b : MethodName := ⟨RJ7, "copyOf", "([BI)[B"⟩
abbrev cJ7_checkLength_df160 : ByteArray := prog_34_method_131_code
def yJ7_checkLength_df160 : MethodName := ⟨RJ7, "checkLength", "(II)V"⟩
abbrev cJ7_copyOfRange_39247 : ByteArray := prog_34_method_132_code
def yJ7_copyOfRange_39247 : MethodName := ⟨RJ7, "copyOfRange", "([BII)[B"⟩
abbrev cJ7_copyOfRangeByte_39247 : ByteArray := prog_34_method_133_code
def yJ7_copyOfRangeByte_39247 : MethodName := ⟨RJ7, "copyOfRangeByte", "([BII)[B"⟩
def RJx5ef63 : String := "java/util/Collection"
def TJx5ef63 : u_T := fun k => match k with
  | _ => ("", "", "", false)
def tyJx5ef63 : Nat → FieldType := fun k => match k with
  | _ => .int
abbrev wsJx5ef630 : List Cond := u_ws RJx5ef63 TJx5ef63 0
theorem nmJx5ef63 : ∀ a, a < 0 → ∀ b, b < 0 → a ≠ b → (TJx5ef63 a).2.1 ≠ (TJx5ef63 b).2.1 := by decide +kernel
theorem tyJx5ef63_ok : ∀ k, k < 0 → parseFieldDescriptor (TJx5ef63 k).2.2.1 = some (tyJx5ef63 k) := by decide +kernel
def RJxbd725 : String := "java/util/List"
def TJxbd725 : u_T := fun k => match k with
  | _ => ("", "", "", false)
def tyJxbd725 : Nat → FieldType := fun k => match k with
  | _ => .int
abbrev wsJxbd7250 : List Cond := u_ws RJxbd725 TJxbd725 0
theorem nmJxbd725 : ∀ a, a < 0 → ∀ b, b < 0 → a ≠ b → (TJxbd725 a).2.1 ≠ (TJxbd725 b).2.1 := by decide +kernel
theorem tyJxbd725_ok : ∀ k, k < 0 → parseFieldDescriptor (TJxbd725 k).2.2.1 = some (tyJxbd725 k) := by decide +kernel
def RJ15 : String := "java/util/Objects"
def TJ15 : u_T := fun k => match k with
  | _ => ("", "", "", false)
def tyJ15 : Nat → FieldType := fun k => match k with
  | _ => .int
abbrev wsJ150 : List Cond := u_ws RJ15 TJ15 0
theorem nmJ15 : ∀ a, a < 0 → ∀ b, b < 0 → a ≠ b → (TJ15 a).2.1 ≠ (TJ15 b).2.1 := by decide +kernel
theorem tyJ15_ok : ∀ k, k < 0 → parseFieldDescriptor (TJ15 k).2.2.1 = some (tyJ15 k) := by decide +kernel
abbrev cJ15_checkIndex_7cf53 : ByteArray := prog_37_method_17_code
def yJ15_checkIndex_7cf53 : MethodName := ⟨RJ15, "checkIndex", "(II)I"⟩
def RJxf0a74 : String := "java/util/RandomAccess"
def TJxf0a74 : u_T := fun k => match k with
  | _ => ("", "", "", false)
def tyJxf0a74 : Nat → FieldType := fun k => match k with
  | _ => .int
abbrev wsJxf0a740 : List Cond := u_ws RJxf0a74 TJxf0a74 0
theorem nmJxf0a74 : ∀ a, a < 0 → ∀ b, b < 0 → a ≠ b → (TJxf0a74 a).2.1 ≠ (TJxf0a74 b).2.1 := by decide +kernel
theorem tyJxf0a74_ok : ∀ k, k < 0 → parseFieldDescriptor (TJxf0a74 k).2.2.1 = some (tyJxf0a74 k) := by decide +kernel
def RJxa66e6 : String := "java/util/SequencedCollection"
def TJxa66e6 : u_T := fun k => match k with
  | _ => ("", "", "", false)
def tyJxa66e6 : Nat → FieldType := fun k => match k with
  | _ => .int
abbrev wsJxa66e60 : List Cond := u_ws RJxa66e6 TJxa66e6 0
theorem nmJxa66e6 : ∀ a, a < 0 → ∀ b, b < 0 → a ≠ b → (TJxa66e6 a).2.1 ≠ (TJxa66e6 b).2.1 := by decide +kernel
theorem tyJxa66e6_ok : ∀ k, k < 0 → parseFieldDescriptor (TJxa66e6 k).2.2.1 = some (tyJxa66e6 k) := by decide +kernel
def RJ8 : String := "jdk/internal/util/ArraysSupport"
def TJ8 : u_T := fun k => match k with
  | _ => ("", "", "", false)
def tyJ8 : Nat → FieldType := fun k => match k with
  | _ => .int
abbrev wsJ80 : List Cond := u_ws RJ8 TJ8 0
theorem nmJ8 : ∀ a, a < 0 → ∀ b, b < 0 → a ≠ b → (TJ8 a).2.1 ≠ (TJ8 b).2.1 := by decide +kernel
theorem tyJ8_ok : ∀ k, k < 0 → parseFieldDescriptor (TJ8 k).2.2.1 = some (tyJ8 k) := by decide +kernel
abbrev cJ8_newLength_cabcc : ByteArray := prog_40_method_27_code
def yJ8_newLength_cabcc : MethodName := ⟨RJ8, "newLength", "(III)I"⟩
abbrev cJ8_hugeLength_7cf53 : ByteArray := prog_40_method_28_code
def yJ8_hugeLength_7cf53 : MethodName := ⟨RJ8, "hugeLength", "(II)I"⟩
def RJ3 : String := "jdk/internal/util/Preconditions"
def TJ3 : u_T := fun k => match k with
  | _ => ("", "", "", false)
def tyJ3 : Nat → FieldType := fun k => match k with
  | _ => .int
abbrev wsJ30 : List Cond := u_ws RJ3 TJ3 0
theorem nmJ3 : ∀ a, a < 0 → ∀ b, b < 0 → a ≠ b → (TJ3 a).2.1 ≠ (TJ3 b).2.1 := by decide +kernel
theorem tyJ3_ok : ∀ k, k < 0 → parseFieldDescriptor (TJ3 k).2.2.1 = some (tyJ3 k) := by decide +kernel
abbrev cJ3_checkIndex_8e157 : ByteArray := prog_41_method_11_code
def yJ3_checkIndex_8e157 : MethodName := ⟨RJ3, "checkIndex", "(IILjava/util/function/BiFunction;)I"⟩
abbrev cJ3_checkFromToIndex_8c36e : ByteArray := prog_41_method_12_code
def yJ3_checkFromToIndex_8c36e : MethodName := ⟨RJ3, "checkFromToIndex", "(IIILjava/util/function/BiFunction;)I"⟩
abbrev cJ3_checkFromIndexSize_8c36e : ByteArray := prog_41_method_13_code
def yJ3_checkFromIndexSize_8c36e : MethodName := ⟨RJ3, "checkFromIndexSize", "(IIILjava/util/function/BiFunction;)I"⟩
def RL : String := "PhoneRaterLaw"
abbrev cL_addTariff : ByteArray := method_3_code
def yL_addTariff : MethodName := ⟨RL, "addTariff", "(LPhoneRater;IIIII[J)I"⟩
abbrev cL_setZone : ByteArray := method_4_code
def yL_setZone : MethodName := ⟨RL, "setZone", "(LPhoneRater;IIII[J)I"⟩
abbrev cL_setPeak : ByteArray := method_5_code
def yL_setPeak : MethodName := ⟨RL, "setPeak", "(LPhoneRater;II[J)I"⟩
abbrev cL_addAccount : ByteArray := method_6_code
def yL_addAccount : MethodName := ⟨RL, "addAccount", "(LPhoneRater;III[J)I"⟩
abbrev cL_addLine : ByteArray := method_7_code
def yL_addLine : MethodName := ⟨RL, "addLine", "(LPhoneRater;II[J)I"⟩
abbrev cL_setTariff : ByteArray := method_8_code
def yL_setTariff : MethodName := ⟨RL, "setTariff", "(LPhoneRater;II[J)I"⟩
abbrev cL_setBundle : ByteArray := method_9_code
def yL_setBundle : MethodName := ⟨RL, "setBundle", "(LPhoneRater;II[J)I"⟩
abbrev cL_addCall : ByteArray := method_10_code
def yL_addCall : MethodName := ⟨RL, "addCall", "(LPhoneRater;IIII[J)I"⟩
abbrev cL_correct : ByteArray := method_11_code
def yL_correct : MethodName := ⟨RL, "correct", "(LPhoneRater;II[J)I"⟩
abbrev cL_callAt : ByteArray := method_12_code
def yL_callAt : MethodName := ⟨RL, "callAt", "(LPhoneRater;I[J)I"⟩
abbrev cL_isPeak : ByteArray := method_13_code
def yL_isPeak : MethodName := ⟨RL, "isPeak", "(LPhoneRater;I[J)I"⟩
abbrev cL_told : ByteArray := method_14_code
def yL_told : MethodName := ⟨RL, "told", "(LPhoneRater;II[J)I"⟩
abbrev cL_lineSum : ByteArray := method_15_code
def yL_lineSum : MethodName := ⟨RL, "lineSum", "(LPhoneRater;I[J)I"⟩
abbrev cL_daySum : ByteArray := method_16_code
def yL_daySum : MethodName := ⟨RL, "daySum", "(LPhoneRater;I[J)I"⟩
abbrev cL_sum : ByteArray := method_17_code
def yL_sum : MethodName := ⟨RL, "sum", "(LPhoneRater;I[J)I"⟩
abbrev cL_total : ByteArray := method_18_code
def yL_total : MethodName := ⟨RL, "total", "(LPhoneRater;I[J)I"⟩
abbrev cL_left : ByteArray := method_19_code
def yL_left : MethodName := ⟨RL, "left", "(LPhoneRater;I[J)I"⟩
abbrev cL_emptied : ByteArray := method_20_code
def yL_emptied : MethodName := ⟨RL, "emptied", "(LPhoneRater;I[J)I"⟩
abbrev cL_dayFees : ByteArray := method_21_code
def yL_dayFees : MethodName := ⟨RL, "dayFees", "(LPhoneRater;II[J)I"⟩
abbrev cL_totalWith : ByteArray := method_22_code
def yL_totalWith : MethodName := ⟨RL, "totalWith", "(LPhoneRater;II[J)I"⟩
abbrev cL_bestTariff : ByteArray := method_23_code
def yL_bestTariff : MethodName := ⟨RL, "bestTariff", "(LPhoneRater;I[J)I"⟩
abbrev cL_law : ByteArray := code
def yL_law : MethodName := ⟨RL, "law", "([I)Z"⟩
def wsL_law0_r1 : List Cond := [Cond.classLink RL 8 RX4, Cond.instantiable RX4 7, Cond.initialized RX4, Cond.classLink RL 86 RX5, Cond.instantiable RX5 19, Cond.initialized RX5, Cond.arrayClass .long, Cond.methodLink RL 85 yX4_init, Cond.instanceMethod yX4_init, Cond.code yX4_init cX4_init 1 none, Cond.methodLink RX4 1 objectInit, Cond.instanceMethod objectInit, Cond.code objectInit ⟨#[0xb1]⟩ 1 none, Cond.classLink RX4 7 RJx4a65c, Cond.instantiable RJx4a65c 3, Cond.initialized RJx4a65c, Cond.fieldLink RX4 10 "PhoneRater" "tariffs" "Ljava/util/ArrayList;", Cond.fieldLink RX4 16 "PhoneRater" "accounts" "Ljava/util/ArrayList;", Cond.fieldLink RX4 19 "PhoneRater" "lines" "Ljava/util/ArrayList;", Cond.fieldLink RX4 22 "PhoneRater" "calls" "Ljava/util/ArrayList;", Cond.fieldLink RX4 25 "PhoneRater" "ordered" "Ljava/util/ArrayList;", Cond.fieldLink RX4 28 "PhoneRater" "firstOfPeak" "I", Cond.fieldLink RX4 32 "PhoneRater" "lastOfPeak" "I", Cond.methodLink RX4 9 yJx4a65c_init_da8c8]
def wsL_law0_r2 : List Cond := [Cond.instanceMethod yJx4a65c_init_da8c8, Cond.code yJx4a65c_init_da8c8 cJx4a65c_init_da8c8 1 none, Cond.fieldLink RJx4a65c 39 "java/util/ArrayList" "DEFAULTCAPACITY_EMPTY_ELEMENTDATA" "[Ljava/lang/Object;", Cond.fieldLink RJx4a65c 9 "java/util/ArrayList" "elementData" "[Ljava/lang/Object;", Cond.methodLink RJx4a65c 1 yJxc12de_init_da8c8, Cond.instanceMethod yJxc12de_init_da8c8, Cond.initialized RJxc12de, Cond.code yJxc12de_init_da8c8 cJxc12de_init_da8c8 1 none, Cond.fieldLink RJxc12de 7 "java/util/AbstractList" "modCount" "I", Cond.methodLink RJxc12de 1 yJxa1e45_init_da8c8, Cond.instanceMethod yJxa1e45_init_da8c8, Cond.initialized RJxa1e45, Cond.code yJxa1e45_init_da8c8 cJxa1e45_init_da8c8 1 none, Cond.methodLink RJxa1e45 1 objectInit, Cond.methodLink RL 88 yX5_init, Cond.instanceMethod yX5_init, Cond.code yX5_init cX5_init 1 none, Cond.methodLink RX5 1 objectInit, Cond.arrayClass .int, Cond.fieldLink RX5 9 "PhoneRaterModel" "table" "[I", Cond.fieldLink RX5 13 "PhoneRaterModel" "terms" "[I", Cond.fieldLink RX5 16 "PhoneRaterModel" "owners" "[I", Cond.fieldLink RX5 19 "PhoneRaterModel" "plans" "[I", Cond.fieldLink RX5 22 "PhoneRaterModel" "log" "[I"]
def wsL_law0_r3 : List Cond := [Cond.fieldLink RX5 25 "PhoneRaterModel" "peakFirst" "I", Cond.fieldLink RX5 29 "PhoneRaterModel" "peakLast" "I", Cond.fieldLink RX5 32 "PhoneRaterModel" "order" "[I", Cond.fieldLink RX5 35 "PhoneRaterModel" "billed" "[I", Cond.fieldLink RX5 38 "PhoneRaterModel" "free" "[I", Cond.fieldLink RX5 41 "PhoneRaterModel" "prices" "[I", Cond.fieldLink RX5 44 "PhoneRaterModel" "fees" "[I", Cond.fieldLink RX5 47 "PhoneRaterModel" "left" "[I", Cond.fieldLink RX5 50 "PhoneRaterModel" "emptied" "[I", Cond.methodLink RL 89 yL_addTariff, Cond.static yL_addTariff, Cond.initialized RL, Cond.codeWith yL_addTariff cL_addTariff 8 (some .int) [(0, 16, 19, 13), (0, 16, 23, 15)], Cond.classLink RL 13 "java/lang/IllegalArgumentException", Cond.classLink RL 15 "java/lang/IllegalStateException", Cond.methodLink RL 7 yX4_addTariff, Cond.instanceMethod yX4_addTariff, Cond.selects RX4 yX4_addTariff yX4_addTariff, Cond.code yX4_addTariff cX4_addTariff 7 (some .int), Cond.classLink RX4 39 "java/lang/IllegalArgumentException", Cond.initialized "java/lang/IllegalArgumentException", Cond.classLink RX4 56 "java/lang/IllegalStateException", Cond.initialized "java/lang/IllegalStateException", Cond.classLink RX4 61 RX3]
def wsL_law0_r4 : List Cond := [Cond.instantiable RX3 8, Cond.initialized RX3, Cond.methodLink RX4 35 yX4_isMoney, Cond.static yX4_isMoney, Cond.code yX4_isMoney cX4_isMoney 1 (some .boolean), Cond.methodLink RX4 46 yX4_isWithin, Cond.static yX4_isWithin, Cond.code yX4_isWithin cX4_isWithin 3 (some .boolean), Cond.methodLink RX4 52 yJx4a65c_size_8abf5, Cond.instanceMethod yJx4a65c_size_8abf5, Cond.selects RJx4a65c yJx4a65c_size_8abf5 yJx4a65c_size_8abf5, Cond.code yJx4a65c_size_8abf5 cJx4a65c_size_8abf5 1 (some .int), Cond.fieldLink RJx4a65c 48 "java/util/ArrayList" "size" "I", Cond.methodLink RX4 63 yX3_init, Cond.instanceMethod yX3_init, Cond.code yX3_init cX3_init 7 none, Cond.methodLink RX3 3 objectInit, Cond.fieldLink RX3 9 "PhoneRater$Tariff" "zoneRate" "[I", Cond.fieldLink RX3 15 "PhoneRater$Tariff" "zoneDayFee" "[I", Cond.fieldLink RX3 18 "PhoneRater$Tariff" "number" "I", Cond.fieldLink RX3 22 "PhoneRater$Tariff" "connection" "I", Cond.fieldLink RX3 25 "PhoneRater$Tariff" "peak" "I", Cond.fieldLink RX3 28 "PhoneRater$Tariff" "other" "I", Cond.fieldLink RX3 31 "PhoneRater$Tariff" "first" "I"]
def wsL_law0_r5 : List Cond := [Cond.fieldLink RX3 34 "PhoneRater$Tariff" "next" "I", Cond.methodLink RX4 66 yJx4a65c_add_9ea2d, Cond.instanceMethod yJx4a65c_add_9ea2d, Cond.selects RJx4a65c yJx4a65c_add_9ea2d yJx4a65c_add_9ea2d, Cond.code yJx4a65c_add_9ea2d cJx4a65c_add_9ea2d 2 (some .boolean), Cond.fieldLink RJx4a65c 63 "java/util/ArrayList" "modCount" "I", Cond.sameField "java/util/ArrayList" "java/util/AbstractList" "modCount" "I", Cond.methodLink RJx4a65c 131 yJx4a65c_add_72be8, Cond.instanceMethod yJx4a65c_add_72be8, Cond.selects RJx4a65c yJx4a65c_add_72be8 yJx4a65c_add_72be8, Cond.code yJx4a65c_add_72be8 cJx4a65c_add_72be8 4 none, Cond.methodLink RJx4a65c 129 yJx4a65c_grow_d5877, Cond.instanceMethod yJx4a65c_grow_d5877, Cond.selects RJx4a65c yJx4a65c_grow_d5877 yJx4a65c_grow_d5877, Cond.code yJx4a65c_grow_d5877 cJx4a65c_grow_d5877 1 (some (.array (.object "java/lang/Object"))), Cond.methodLink RJx4a65c 69 yJx4a65c_grow_92f84, Cond.instanceMethod yJx4a65c_grow_92f84, Cond.selects RJx4a65c yJx4a65c_grow_92f84 yJx4a65c_grow_92f84, Cond.code yJx4a65c_grow_92f84 cJx4a65c_grow_92f84 4 (some (.array (.object "java/lang/Object"))), Cond.methodLink RJx4a65c 79 Lib.Math.max.name, Cond.static Lib.Math.max.name, Cond.initialized "java/lang/Math", Cond.code Lib.Math.max.name Lib.Math.max.code 2 (some .int), Cond.classLink RJx4a65c 7 "java/lang/Object"]
def wsL_law0_r6 : List Cond := [Cond.methodLink RJx4a65c 73 yJ8_newLength_cabcc, Cond.static yJ8_newLength_cabcc, Cond.initialized RJ8, Cond.code yJ8_newLength_cabcc cJ8_newLength_cabcc 4 (some .int), Cond.methodLink RJ8 194 Lib.Math.max.name, Cond.constant RJ8 200 (2147483639), Cond.methodLink RJ8 201 yJ8_hugeLength_7cf53, Cond.static yJ8_hugeLength_7cf53, Cond.code yJ8_hugeLength_7cf53 cJ8_hugeLength_7cf53 3 (some .int), Cond.methodLink RJx4a65c 66 yJ7_copyOf_1904c, Cond.static yJ7_copyOf_1904c, Cond.initialized RJ7, Cond.code yJ7_copyOf_1904c cJ7_copyOf_1904c 2 (some (.array (.object "java/lang/Object"))), Cond.methodLink RJ7 86 ⟨"java/lang/Object", "getClass", "()Ljava/lang/Class;"⟩, Cond.selects "[Ljava/lang/Object;" ⟨"java/lang/Object", "getClass", "()Ljava/lang/Class;"⟩ ⟨"java/lang/Object", "getClass", "()Ljava/lang/Class;"⟩, Cond.instanceMethod ⟨"java/lang/Object", "getClass", "()Ljava/lang/Class;"⟩, Cond.native ⟨"java/lang/Object", "getClass", "()Ljava/lang/Class;"⟩, Cond.methodLink RJ7 300 yJ7_copyOf_6403c, Cond.static yJ7_copyOf_6403c, Cond.code yJ7_copyOf_6403c cJ7_copyOf_6403c 4 (some (.array (.object "java/lang/Object"))), Cond.classLink RJ7 110 "[Ljava/lang/Object;", Cond.classLink RJ7 2 "java/lang/Object", Cond.methodLink RJ7 304 Lib.Math.min.name, Cond.static Lib.Math.min.name]
def wsL_law0_r7 : List Cond := [Cond.code Lib.Math.min.name Lib.Math.min.code 2 (some .int), Cond.methodLink RJ7 150 arraycopyName, Cond.native arraycopyName, Cond.static arraycopyName, Cond.initialized "java/lang/System", Cond.methodLink RL 94 yX5_addTariff, Cond.instanceMethod yX5_addTariff, Cond.selects RX5 yX5_addTariff yX5_addTariff, Cond.code yX5_addTariff cX5_addTariff 7 (some .int), Cond.fieldLink RX5 53 "PhoneRaterModel" "thrown" "I", Cond.fieldLink RX5 56 "PhoneRaterModel" "tariffs" "I", Cond.methodLink RX5 76 arraycopyName, Cond.methodLink RX5 59 yX5_isIn, Cond.static yX5_isIn, Cond.code yX5_isIn cX5_isIn 3 (some .boolean), Cond.methodLink RX5 72 yX5_fail, Cond.instanceMethod yX5_fail, Cond.selects RX5 yX5_fail yX5_fail, Cond.code yX5_fail cX5_fail 2 (some .int), Cond.methodLink RL 95 yX5_thrown, Cond.instanceMethod yX5_thrown, Cond.selects RX5 yX5_thrown yX5_thrown, Cond.code yX5_thrown cX5_thrown 1 (some .int), Cond.methodLink RL 99 yL_setZone]
def wsL_law0_r8 : List Cond := [Cond.static yL_setZone, Cond.codeWith yL_setZone cL_setZone 7 (some .int) [(0, 14, 17, 21), (0, 14, 21, 13)], Cond.classLink RL 21 "java/lang/IndexOutOfBoundsException", Cond.methodLink RL 17 yX4_setZone, Cond.instanceMethod yX4_setZone, Cond.selects RX4 yX4_setZone yX4_setZone, Cond.code yX4_setZone cX4_setZone 7 (some .int), Cond.fieldLink RX4 80 "PhoneRater$Tariff" "zoneRate" "[I", Cond.fieldLink RX4 84 "PhoneRater$Tariff" "zoneDayFee" "[I", Cond.methodLink RX4 70 yX4_findTariff, Cond.instanceMethod yX4_findTariff, Cond.selects RX4 yX4_findTariff yX4_findTariff, Cond.code yX4_findTariff cX4_findTariff 2 (some (.object "PhoneRater$Tariff")), Cond.classLink RX4 166 "java/lang/IndexOutOfBoundsException", Cond.initialized "java/lang/IndexOutOfBoundsException", Cond.classLink RX4 61 "PhoneRater$Tariff", Cond.methodLink RX4 171 yJx4a65c_get_915e3, Cond.instanceMethod yJx4a65c_get_915e3, Cond.selects RJx4a65c yJx4a65c_get_915e3 yJx4a65c_get_915e3, Cond.code yJx4a65c_get_915e3 cJx4a65c_get_915e3 2 (some (.object "java/lang/Object")), Cond.methodLink RJx4a65c 118 yJ15_checkIndex_7cf53, Cond.static yJ15_checkIndex_7cf53, Cond.initialized RJ15, Cond.code yJ15_checkIndex_7cf53 cJ15_checkIndex_7cf53 2 (some .int)]
def wsL_law0_r9 : List Cond := [Cond.methodLink RJ15 105 yJ3_checkIndex_8e157, Cond.static yJ3_checkIndex_8e157, Cond.initialized RJ3, Cond.code yJ3_checkIndex_8e157 cJ3_checkIndex_8e157 3 (some .int), Cond.methodLink RJx4a65c 123 yJx4a65c_elementData_915e3, Cond.instanceMethod yJx4a65c_elementData_915e3, Cond.selects RJx4a65c yJx4a65c_elementData_915e3 yJx4a65c_elementData_915e3, Cond.code yJx4a65c_elementData_915e3 cJx4a65c_elementData_915e3 2 (some (.object "java/lang/Object")), Cond.methodLink RX4 74 yX4_checkAbroad, Cond.static yX4_checkAbroad, Cond.code yX4_checkAbroad cX4_checkAbroad 1 none, Cond.methodLink RX4 87 yX4_rateAll, Cond.instanceMethod yX4_rateAll, Cond.selects RX4 yX4_rateAll yX4_rateAll, Cond.code yX4_rateAll cX4_rateAll 3 none, Cond.classLink RX4 105 "PhoneRater$Account", Cond.classLink RX4 116 "PhoneRater$Line", Cond.classLink RX4 148 "PhoneRater$Call", Cond.fieldLink RX4 163 "PhoneRater$Call" "seconds" "I", Cond.methodLink RX4 244 yX0_forgetRating, Cond.instanceMethod yX0_forgetRating, Cond.selects RX0 yX0_forgetRating yX0_forgetRating, Cond.initialized RX0, Cond.code yX0_forgetRating cX0_forgetRating 1 none]
def wsL_law0_r10 : List Cond := [Cond.fieldLink RX0 9 "PhoneRater$Account" "bundle" "I", Cond.fieldLink RX0 21 "PhoneRater$Account" "unused" "I", Cond.fieldLink RX0 24 "PhoneRater$Account" "emptier" "I", Cond.fieldLink RX0 27 "PhoneRater$Account" "prices" "I", Cond.methodLink RX4 247 yX2_forgetRating, Cond.instanceMethod yX2_forgetRating, Cond.selects RX2 yX2_forgetRating yX2_forgetRating, Cond.initialized RX2, Cond.code yX2_forgetRating cX2_forgetRating 2 none, Cond.fieldLink RX2 29 "PhoneRater$Line" "prices" "I", Cond.fieldLink RX2 9 "PhoneRater$Line" "feesPaid" "[I", Cond.fieldLink RX2 15 "PhoneRater$Line" "lastFeeDay" "[I", Cond.methodLink RX4 248 yX1_forgetRating, Cond.instanceMethod yX1_forgetRating, Cond.selects RX1 yX1_forgetRating yX1_forgetRating, Cond.initialized RX1, Cond.code yX1_forgetRating cX1_forgetRating 1 none, Cond.fieldLink RX1 28 "PhoneRater$Call" "billed" "I", Cond.fieldLink RX1 31 "PhoneRater$Call" "free" "I", Cond.fieldLink RX1 34 "PhoneRater$Call" "price" "I", Cond.fieldLink RX1 37 "PhoneRater$Call" "dayFee" "I", Cond.methodLink RX4 249 yX4_rate, Cond.instanceMethod yX4_rate, Cond.selects RX4 yX4_rate yX4_rate]
def wsL_law0_r11 : List Cond := [Cond.code yX4_rate cX4_rate 5 none, Cond.fieldLink RX4 252 "PhoneRater$Call" "line" "LPhoneRater$Line;", Cond.fieldLink RX4 125 "PhoneRater$Line" "tariff" "LPhoneRater$Tariff;", Cond.fieldLink RX4 217 "PhoneRater$Call" "billed" "I", Cond.fieldLink RX4 259 "PhoneRater$Call" "zone" "I", Cond.fieldLink RX4 210 "PhoneRater$Line" "account" "LPhoneRater$Account;", Cond.fieldLink RX4 214 "PhoneRater$Call" "free" "I", Cond.fieldLink RX4 266 "PhoneRater$Tariff" "peak" "I", Cond.fieldLink RX4 269 "PhoneRater$Tariff" "other" "I", Cond.fieldLink RX4 275 "PhoneRater$Call" "dayFee" "I", Cond.fieldLink RX4 186 "PhoneRater$Call" "price" "I", Cond.fieldLink RX4 189 "PhoneRater$Line" "prices" "I", Cond.fieldLink RX4 197 "PhoneRater$Account" "prices" "I", Cond.methodLink RX4 256 yX3_billedFor, Cond.instanceMethod yX3_billedFor, Cond.selects RX3 yX3_billedFor yX3_billedFor, Cond.code yX3_billedFor cX3_billedFor 3 (some .int), Cond.methodLink RX4 262 yX0_takeFromBundle, Cond.instanceMethod yX0_takeFromBundle, Cond.selects RX0 yX0_takeFromBundle yX0_takeFromBundle, Cond.code yX0_takeFromBundle cX0_takeFromBundle 3 (some .int), Cond.fieldLink RX0 30 "PhoneRater$Call" "billed" "I", Cond.methodLink RX0 35 Lib.Math.min.name, Cond.fieldLink RX0 41 "PhoneRater$Call" "number" "I"]
def wsL_law0_r12 : List Cond := [Cond.methodLink RX4 176 yX4_beginsInPeak, Cond.instanceMethod yX4_beginsInPeak, Cond.selects RX4 yX4_beginsInPeak yX4_beginsInPeak, Cond.code yX4_beginsInPeak cX4_beginsInPeak 4 (some .boolean), Cond.fieldLink RX4 238 "PhoneRater$Call" "minute" "I", Cond.methodLink RX4 194 yX1_day, Cond.instanceMethod yX1_day, Cond.selects RX1 yX1_day yX1_day, Cond.code yX1_day cX1_day 1 (some .int), Cond.fieldLink RX1 19 "PhoneRater$Call" "minute" "I", Cond.methodLink RX4 272 yX4_rateDayFee, Cond.static yX4_rateDayFee, Cond.code yX4_rateDayFee cX4_rateDayFee 4 none, Cond.methodLink RX4 282 yX2_beginsFeeDay, Cond.instanceMethod yX2_beginsFeeDay, Cond.selects RX2 yX2_beginsFeeDay yX2_beginsFeeDay, Cond.code yX2_beginsFeeDay cX2_beginsFeeDay 3 (some .boolean), Cond.fieldLink RX2 18 "PhoneRater$Line" "freeOfDay" "[I", Cond.methodLink RX4 286 yX2_takeFreeOfDay, Cond.instanceMethod yX2_takeFreeOfDay, Cond.selects RX2 yX2_takeFreeOfDay yX2_takeFreeOfDay, Cond.code yX2_takeFreeOfDay cX2_takeFreeOfDay 4 (some .int), Cond.methodLink RX2 33 Lib.Math.min.name, Cond.methodLink RX4 278 yX3_chargeFor]
def wsL_law0_r13 : List Cond := [Cond.instanceMethod yX3_chargeFor, Cond.selects RX3 yX3_chargeFor yX3_chargeFor, Cond.code yX3_chargeFor cX3_chargeFor 3 (some .int), Cond.methodLink RL 102 yX5_setZone, Cond.instanceMethod yX5_setZone, Cond.selects RX5 yX5_setZone yX5_setZone, Cond.code yX5_setZone cX5_setZone 7 (some .int), Cond.methodLink RX5 82 yX5_isTariff, Cond.instanceMethod yX5_isTariff, Cond.selects RX5 yX5_isTariff yX5_isTariff, Cond.code yX5_isTariff cX5_isTariff 2 (some .boolean), Cond.methodLink RL 103 yL_setPeak, Cond.static yL_setPeak, Cond.codeWith yL_setPeak cL_setPeak 5 (some .int) [(0, 17, 20, 13)], Cond.methodLink RL 23 yX4_setPeak, Cond.instanceMethod yX4_setPeak, Cond.selects RX4 yX4_setPeak yX4_setPeak, Cond.code yX4_setPeak cX4_setPeak 4 (some .boolean), Cond.methodLink RX4 90 yX4_isMinuteOfDay, Cond.static yX4_isMinuteOfDay, Cond.code yX4_isMinuteOfDay cX4_isMinuteOfDay 1 (some .boolean), Cond.methodLink RL 106 yX5_setPeak, Cond.instanceMethod yX5_setPeak, Cond.selects RX5 yX5_setPeak yX5_setPeak]
def wsL_law0_r14 : List Cond := [Cond.code yX5_setPeak cX5_setPeak 4 (some .boolean), Cond.methodLink RL 107 yL_addAccount, Cond.static yL_addAccount, Cond.codeWith yL_addAccount cL_addAccount 6 (some .int) [(0, 12, 15, 13), (0, 12, 19, 15)], Cond.methodLink RL 27 yX4_addAccount, Cond.instanceMethod yX4_addAccount, Cond.selects RX4 yX4_addAccount yX4_addAccount, Cond.code yX4_addAccount cX4_addAccount 5 (some .int), Cond.constant RX4 98 (1000000), Cond.classLink RX4 105 RX0, Cond.instantiable RX0 6, Cond.methodLink RX4 95 yX4_checkBundle, Cond.static yX4_checkBundle, Cond.code yX4_checkBundle cX4_checkBundle 1 none, Cond.constant RX4 299 (100000), Cond.methodLink RX4 107 yX0_init, Cond.instanceMethod yX0_init, Cond.code yX0_init cX0_init 4 none, Cond.methodLink RX0 3 objectInit, Cond.fieldLink RX0 15 "PhoneRater$Account" "threshold" "I", Cond.fieldLink RX0 18 "PhoneRater$Account" "percent" "I", Cond.methodLink RL 110 yX5_addAccount, Cond.instanceMethod yX5_addAccount, Cond.selects RX5 yX5_addAccount yX5_addAccount]
def wsL_law0_r15 : List Cond := [Cond.code yX5_addAccount cX5_addAccount 4 (some .int), Cond.constant RX5 86 (100000), Cond.constant RX5 87 (1000000), Cond.fieldLink RX5 63 "PhoneRaterModel" "accounts" "I", Cond.methodLink RL 111 yL_addLine, Cond.static yL_addLine, Cond.codeWith yL_addLine cL_addLine 5 (some .int) [(0, 10, 13, 21), (0, 10, 17, 15)], Cond.methodLink RL 31 yX4_addLine, Cond.instanceMethod yX4_addLine, Cond.selects RX4 yX4_addLine yX4_addLine, Cond.code yX4_addLine cX4_addLine 6 (some .int), Cond.classLink RX4 116 RX2, Cond.instantiable RX2 6, Cond.methodLink RX4 110 yX4_findAccount, Cond.instanceMethod yX4_findAccount, Cond.selects RX4 yX4_findAccount yX4_findAccount, Cond.code yX4_findAccount cX4_findAccount 2 (some (.object "PhoneRater$Account")), Cond.methodLink RX4 118 yX2_init, Cond.instanceMethod yX2_init, Cond.code yX2_init cX2_init 3 none, Cond.methodLink RX2 3 objectInit, Cond.fieldLink RX2 21 "PhoneRater$Line" "account" "LPhoneRater$Account;", Cond.fieldLink RX2 25 "PhoneRater$Line" "tariff" "LPhoneRater$Tariff;", Cond.methodLink RL 113 yX5_addLine]
def wsL_law0_r16 : List Cond := [Cond.instanceMethod yX5_addLine, Cond.selects RX5 yX5_addLine yX5_addLine, Cond.code yX5_addLine cX5_addLine 3 (some .int), Cond.fieldLink RX5 66 "PhoneRaterModel" "lines" "I", Cond.methodLink RX5 88 yX5_isAccount, Cond.instanceMethod yX5_isAccount, Cond.selects RX5 yX5_isAccount yX5_isAccount, Cond.code yX5_isAccount cX5_isAccount 2 (some .boolean), Cond.methodLink RL 114 yL_setTariff, Cond.static yL_setTariff, Cond.codeWith yL_setTariff cL_setTariff 5 (some .int) [(0, 10, 13, 21)], Cond.methodLink RL 35 yX4_setTariff, Cond.instanceMethod yX4_setTariff, Cond.selects RX4 yX4_setTariff yX4_setTariff, Cond.code yX4_setTariff cX4_setTariff 6 (some .int), Cond.fieldLink RX4 129 "PhoneRater$Tariff" "number" "I", Cond.methodLink RX4 121 yX4_findLine, Cond.instanceMethod yX4_findLine, Cond.selects RX4 yX4_findLine yX4_findLine, Cond.code yX4_findLine cX4_findLine 2 (some (.object "PhoneRater$Line")), Cond.methodLink RX4 132 yX4_giveTariff, Cond.instanceMethod yX4_giveTariff, Cond.selects RX4 yX4_giveTariff yX4_giveTariff, Cond.code yX4_giveTariff cX4_giveTariff 3 none]
def wsL_law0_r17 : List Cond := [Cond.methodLink RL 116 yX5_setTariff, Cond.instanceMethod yX5_setTariff, Cond.selects RX5 yX5_setTariff yX5_setTariff, Cond.code yX5_setTariff cX5_setTariff 4 (some .int), Cond.methodLink RX5 91 yX5_isLine, Cond.instanceMethod yX5_isLine, Cond.selects RX5 yX5_isLine yX5_isLine, Cond.code yX5_isLine cX5_isLine 2 (some .boolean), Cond.methodLink RL 117 yL_setBundle, Cond.static yL_setBundle, Cond.codeWith yL_setBundle cL_setBundle 5 (some .int) [(0, 10, 13, 21), (0, 10, 17, 13)], Cond.methodLink RL 38 yX4_setBundle, Cond.instanceMethod yX4_setBundle, Cond.selects RX4 yX4_setBundle yX4_setBundle, Cond.code yX4_setBundle cX4_setBundle 5 (some .int), Cond.fieldLink RX4 136 "PhoneRater$Account" "bundle" "I", Cond.methodLink RL 119 yX5_setBundle, Cond.instanceMethod yX5_setBundle, Cond.selects RX5 yX5_setBundle yX5_setBundle, Cond.code yX5_setBundle cX5_setBundle 4 (some .int), Cond.methodLink RL 120 yL_addCall, Cond.static yL_addCall, Cond.codeWith yL_addCall cL_addCall 7 (some .int) [(0, 14, 17, 21), (0, 14, 21, 13), (0, 14, 25, 15)], Cond.methodLink RL 41 yX4_addCall]
def wsL_law0_r18 : List Cond := [Cond.instanceMethod yX4_addCall, Cond.selects RX4 yX4_addCall yX4_addCall, Cond.code yX4_addCall cX4_addCall 8 (some .int), Cond.constant RX4 139 (43199), Cond.classLink RX4 148 RX1, Cond.instantiable RX1 9, Cond.methodLink RX4 150 yX1_init, Cond.instanceMethod yX1_init, Cond.code yX1_init cX1_init 6 none, Cond.methodLink RX1 3 objectInit, Cond.fieldLink RX1 9 "PhoneRater$Call" "number" "I", Cond.fieldLink RX1 15 "PhoneRater$Call" "line" "LPhoneRater$Line;", Cond.fieldLink RX1 22 "PhoneRater$Call" "seconds" "I", Cond.fieldLink RX1 25 "PhoneRater$Call" "zone" "I", Cond.methodLink RX4 153 yX4_putInOrder, Cond.instanceMethod yX4_putInOrder, Cond.selects RX4 yX4_putInOrder yX4_putInOrder, Cond.code yX4_putInOrder cX4_putInOrder 3 none, Cond.methodLink RX4 241 yJx4a65c_add_7a177, Cond.instanceMethod yJx4a65c_add_7a177, Cond.selects RJx4a65c yJx4a65c_add_7a177 yJx4a65c_add_7a177, Cond.code yJx4a65c_add_7a177 cJx4a65c_add_7a177 5 none, Cond.methodLink RJx4a65c 112 arraycopyName, Cond.methodLink RJx4a65c 135 yJx4a65c_rangeCheckForAdd_d00df]
def wsL_law0_r19 : List Cond := [Cond.instanceMethod yJx4a65c_rangeCheckForAdd_d00df, Cond.selects RJx4a65c yJx4a65c_rangeCheckForAdd_d00df yJx4a65c_rangeCheckForAdd_d00df, Cond.code yJx4a65c_rangeCheckForAdd_d00df cJx4a65c_rangeCheckForAdd_d00df 2 none, Cond.methodLink RL 122 yX5_addCall, Cond.instanceMethod yX5_addCall, Cond.selects RX5 yX5_addCall yX5_addCall, Cond.code yX5_addCall cX5_addCall 7 (some .int), Cond.constant RX5 94 (43199), Cond.fieldLink RX5 69 "PhoneRaterModel" "calls" "I", Cond.methodLink RL 123 yL_correct, Cond.static yL_correct, Cond.codeWith yL_correct cL_correct 5 (some .int) [(0, 10, 13, 21), (0, 10, 17, 13)], Cond.methodLink RL 44 yX4_correct, Cond.instanceMethod yX4_correct, Cond.selects RX4 yX4_correct yX4_correct, Cond.code yX4_correct cX4_correct 5 (some .int), Cond.methodLink RX4 157 yX4_findCall, Cond.instanceMethod yX4_findCall, Cond.selects RX4 yX4_findCall yX4_findCall, Cond.code yX4_findCall cX4_findCall 2 (some (.object "PhoneRater$Call")), Cond.methodLink RL 125 yX5_correct, Cond.instanceMethod yX5_correct, Cond.selects RX5 yX5_correct yX5_correct, Cond.code yX5_correct cX5_correct 4 (some .int)]
def wsL_law0_r20 : List Cond := [Cond.methodLink RX5 95 yX5_isCall, Cond.instanceMethod yX5_isCall, Cond.selects RX5 yX5_isCall yX5_isCall, Cond.code yX5_isCall cX5_isCall 2 (some .boolean), Cond.methodLink RL 126 yX4_callCount, Cond.instanceMethod yX4_callCount, Cond.selects RX4 yX4_callCount yX4_callCount, Cond.code yX4_callCount cX4_callCount 1 (some .int), Cond.methodLink RL 129 yX5_callCount, Cond.instanceMethod yX5_callCount, Cond.selects RX5 yX5_callCount yX5_callCount, Cond.code yX5_callCount cX5_callCount 1 (some .int), Cond.methodLink RL 130 yL_callAt, Cond.static yL_callAt, Cond.codeWith yL_callAt cL_callAt 4 (some .int) [(0, 9, 12, 21)], Cond.methodLink RL 47 yX4_callAt, Cond.instanceMethod yX4_callAt, Cond.selects RX4 yX4_callAt yX4_callAt, Cond.code yX4_callAt cX4_callAt 2 (some .int), Cond.fieldLink RX4 175 "PhoneRater$Call" "number" "I", Cond.methodLink RL 133 yX5_callAt, Cond.instanceMethod yX5_callAt, Cond.selects RX5 yX5_callAt yX5_callAt, Cond.code yX5_callAt cX5_callAt 2 (some .int)]
def wsL_law0_r21 : List Cond := [Cond.methodLink RL 134 yL_isPeak, Cond.static yL_isPeak, Cond.codeWith yL_isPeak cL_isPeak 4 (some .int) [(0, 16, 19, 21)], Cond.methodLink RL 51 yX4_isPeak, Cond.instanceMethod yX4_isPeak, Cond.selects RX4 yX4_isPeak yX4_isPeak, Cond.code yX4_isPeak cX4_isPeak 2 (some .boolean), Cond.methodLink RL 136 yX5_isPeak, Cond.instanceMethod yX5_isPeak, Cond.selects RX5 yX5_isPeak yX5_isPeak, Cond.code yX5_isPeak cX5_isPeak 2 (some .boolean), Cond.methodLink RX5 101 yX5_isInPeak, Cond.instanceMethod yX5_isInPeak, Cond.selects RX5 yX5_isInPeak yX5_isInPeak, Cond.code yX5_isInPeak cX5_isInPeak 3 (some .boolean), Cond.methodLink RX5 98 yX5_dayOf, Cond.static yX5_dayOf, Cond.code yX5_dayOf cX5_dayOf 1 (some .int), Cond.methodLink RL 137 yL_told, Cond.static yL_told, Cond.codeWith yL_told cL_told 5 (some .int) [(0, 10, 13, 21)], Cond.methodLink RL 55 yX4_told, Cond.instanceMethod yX4_told, Cond.selects RX4 yX4_told yX4_told]
def wsL_law0_r22 : List Cond := [Cond.code yX4_told cX4_told 4 (some .int), Cond.methodLink RX4 182 yX1_tell, Cond.instanceMethod yX1_tell, Cond.selects RX1 yX1_tell yX1_tell, Cond.code yX1_tell cX1_tell 2 (some .int), Cond.methodLink RL 139 yX5_told, Cond.instanceMethod yX5_told, Cond.selects RX5 yX5_told yX5_told, Cond.code yX5_told cX5_told 3 (some .int), Cond.methodLink RX5 120 yX5_rateAll, Cond.instanceMethod yX5_rateAll, Cond.selects RX5 yX5_rateAll yX5_rateAll, Cond.code yX5_rateAll cX5_rateAll 2 none, Cond.methodLink RX5 116 yX5_rate, Cond.instanceMethod yX5_rate, Cond.selects RX5 yX5_rate yX5_rate, Cond.code yX5_rate cX5_rate 12 none, Cond.methodLink RX5 110 Lib.Math.min.name, Cond.methodLink RX5 104 Lib.Math.max.name, Cond.methodLink RX5 113 yX5_earlier, Cond.instanceMethod yX5_earlier, Cond.selects RX5 yX5_earlier yX5_earlier, Cond.code yX5_earlier cX5_earlier 7 (some .int), Cond.methodLink RX5 123 yX5_toldOf]
def wsL_law0_r23 : List Cond := [Cond.instanceMethod yX5_toldOf, Cond.selects RX5 yX5_toldOf yX5_toldOf, Cond.code yX5_toldOf cX5_toldOf 3 (some .int), Cond.methodLink RL 140 yX4_dearest, Cond.instanceMethod yX4_dearest, Cond.selects RX4 yX4_dearest yX4_dearest, Cond.code yX4_dearest cX4_dearest 5 (some .int), Cond.methodLink RL 143 yX5_dearest, Cond.instanceMethod yX5_dearest, Cond.selects RX5 yX5_dearest yX5_dearest, Cond.code yX5_dearest cX5_dearest 3 (some .int), Cond.methodLink RL 144 yL_lineSum, Cond.static yL_lineSum, Cond.codeWith yL_lineSum cL_lineSum 4 (some .int) [(0, 9, 12, 21)], Cond.methodLink RL 58 yX4_lineSum, Cond.instanceMethod yX4_lineSum, Cond.selects RX4 yX4_lineSum yX4_lineSum, Cond.code yX4_lineSum cX4_lineSum 2 (some .int), Cond.methodLink RL 146 yX5_lineSum, Cond.instanceMethod yX5_lineSum, Cond.selects RX5 yX5_lineSum yX5_lineSum, Cond.code yX5_lineSum cX5_lineSum 2 (some .int), Cond.methodLink RX5 126 yX5_lineSumOf, Cond.instanceMethod yX5_lineSumOf]
def wsL_law0_r24 : List Cond := [Cond.selects RX5 yX5_lineSumOf yX5_lineSumOf, Cond.code yX5_lineSumOf cX5_lineSumOf 4 (some .int), Cond.methodLink RL 147 yL_daySum, Cond.static yL_daySum, Cond.codeWith yL_daySum cL_daySum 4 (some .int) [(0, 9, 12, 21)], Cond.methodLink RL 61 yX4_daySum, Cond.instanceMethod yX4_daySum, Cond.selects RX4 yX4_daySum yX4_daySum, Cond.code yX4_daySum cX4_daySum 5 (some .int), Cond.methodLink RL 149 yX5_daySum, Cond.instanceMethod yX5_daySum, Cond.selects RX5 yX5_daySum yX5_daySum, Cond.code yX5_daySum cX5_daySum 4 (some .int), Cond.methodLink RL 150 yL_sum, Cond.static yL_sum, Cond.codeWith yL_sum cL_sum 4 (some .int) [(0, 9, 12, 21)], Cond.methodLink RL 64 yX4_sum, Cond.instanceMethod yX4_sum, Cond.selects RX4 yX4_sum yX4_sum, Cond.code yX4_sum cX4_sum 2 (some .int), Cond.methodLink RL 152 yX5_sum, Cond.instanceMethod yX5_sum, Cond.selects RX5 yX5_sum yX5_sum, Cond.code yX5_sum cX5_sum 2 (some .int)]
def wsL_law0_r25 : List Cond := [Cond.methodLink RX5 129 yX5_sumOf, Cond.instanceMethod yX5_sumOf, Cond.selects RX5 yX5_sumOf yX5_sumOf, Cond.code yX5_sumOf cX5_sumOf 4 (some .int), Cond.methodLink RL 153 yL_total, Cond.static yL_total, Cond.codeWith yL_total cL_total 4 (some .int) [(0, 9, 12, 21)], Cond.methodLink RL 67 yX4_total, Cond.instanceMethod yX4_total, Cond.selects RX4 yX4_total yX4_total, Cond.code yX4_total cX4_total 2 (some .int), Cond.methodLink RX4 198 yX0_cents, Cond.instanceMethod yX0_cents, Cond.selects RX0 yX0_cents yX0_cents, Cond.code yX0_cents cX0_cents 4 (some .int), Cond.methodLink RX0 44 Lib.Math.max.name, Cond.constantLong RX0 47 (100), Cond.methodLink RL 155 yX5_total, Cond.instanceMethod yX5_total, Cond.selects RX5 yX5_total yX5_total, Cond.code yX5_total cX5_total 2 (some .int), Cond.methodLink RX5 134 yX5_totalOf, Cond.instanceMethod yX5_totalOf, Cond.selects RX5 yX5_totalOf yX5_totalOf]
def wsL_law0_r26 : List Cond := [Cond.code yX5_totalOf cX5_totalOf 5 (some .int), Cond.constantLong RX5 132 (100), Cond.methodLink RL 156 yL_left, Cond.static yL_left, Cond.codeWith yL_left cL_left 4 (some .int) [(0, 9, 12, 21)], Cond.methodLink RL 70 yX4_left, Cond.instanceMethod yX4_left, Cond.selects RX4 yX4_left yX4_left, Cond.code yX4_left cX4_left 2 (some .int), Cond.fieldLink RX4 201 "PhoneRater$Account" "unused" "I", Cond.methodLink RL 158 yX5_left, Cond.instanceMethod yX5_left, Cond.selects RX5 yX5_left yX5_left, Cond.code yX5_left cX5_left 2 (some .int), Cond.methodLink RL 159 yL_emptied, Cond.static yL_emptied, Cond.codeWith yL_emptied cL_emptied 4 (some .int) [(0, 9, 12, 21)], Cond.methodLink RL 73 yX4_emptied, Cond.instanceMethod yX4_emptied, Cond.selects RX4 yX4_emptied yX4_emptied, Cond.code yX4_emptied cX4_emptied 2 (some .int), Cond.fieldLink RX4 204 "PhoneRater$Account" "emptier" "I", Cond.methodLink RL 161 yX5_emptied, Cond.instanceMethod yX5_emptied]
def wsL_law0_r27 : List Cond := [Cond.selects RX5 yX5_emptied yX5_emptied, Cond.code yX5_emptied cX5_emptied 2 (some .int), Cond.methodLink RL 162 yL_dayFees, Cond.static yL_dayFees, Cond.codeWith yL_dayFees cL_dayFees 5 (some .int) [(0, 10, 13, 21)], Cond.methodLink RL 76 yX4_dayFees, Cond.instanceMethod yX4_dayFees, Cond.selects RX4 yX4_dayFees yX4_dayFees, Cond.code yX4_dayFees cX4_dayFees 4 (some .int), Cond.fieldLink RX4 207 "PhoneRater$Line" "feesPaid" "[I", Cond.methodLink RL 164 yX5_dayFees, Cond.instanceMethod yX5_dayFees, Cond.selects RX5 yX5_dayFees yX5_dayFees, Cond.code yX5_dayFees cX5_dayFees 5 (some .int), Cond.methodLink RL 165 yL_totalWith, Cond.static yL_totalWith, Cond.codeWith yL_totalWith cL_totalWith 5 (some .int) [(0, 10, 13, 21)], Cond.methodLink RL 79 yX4_totalWith, Cond.instanceMethod yX4_totalWith, Cond.selects RX4 yX4_totalWith yX4_totalWith, Cond.code yX4_totalWith cX4_totalWith 7 (some .int), Cond.methodLink RL 167 yX5_totalWith, Cond.instanceMethod yX5_totalWith, Cond.selects RX5 yX5_totalWith yX5_totalWith]
def wsL_law0_r28 : List Cond := [Cond.code yX5_totalWith cX5_totalWith 3 (some .int), Cond.methodLink RX5 137 yX5_with, Cond.instanceMethod yX5_with, Cond.selects RX5 yX5_with yX5_with, Cond.code yX5_with cX5_with 4 (some .int), Cond.methodLink RL 168 yL_bestTariff, Cond.static yL_bestTariff, Cond.codeWith yL_bestTariff cL_bestTariff 4 (some .int) [(0, 9, 12, 21)], Cond.methodLink RL 82 yX4_bestTariff, Cond.instanceMethod yX4_bestTariff, Cond.selects RX4 yX4_bestTariff yX4_bestTariff, Cond.code yX4_bestTariff cX4_bestTariff 8 (some .int), Cond.methodLink RL 170 yX5_bestTariff, Cond.instanceMethod yX5_bestTariff, Cond.selects RX5 yX5_bestTariff yX5_bestTariff, Cond.code yX5_bestTariff cX5_bestTariff 4 (some .int), Cond.methodLink RL 171 yX4_freeShare, Cond.instanceMethod yX4_freeShare, Cond.selects RX4 yX4_freeShare yX4_freeShare, Cond.code yX4_freeShare cX4_freeShare 5 (some .double), Cond.methodLink RL 175 yX5_freeShare, Cond.instanceMethod yX5_freeShare, Cond.selects RX5 yX5_freeShare yX5_freeShare, Cond.code yX5_freeShare cX5_freeShare 4 (some .double)]
def wsL_law0_r29 : List Cond := [Cond.methodLink RL 176 yX4_digest, Cond.instanceMethod yX4_digest, Cond.selects RX4 yX4_digest yX4_digest, Cond.code yX4_digest cX4_digest 3 (some .long), Cond.constantLong RX4 220 (193), Cond.methodLink RX4 222 yX4_mix, Cond.static yX4_mix, Cond.code yX4_mix cX4_mix 3 (some .long), Cond.constantLong RX4 236 (31), Cond.methodLink RX4 226 yX4_mixLines, Cond.instanceMethod yX4_mixLines, Cond.selects RX4 yX4_mixLines yX4_mixLines, Cond.code yX4_mixLines cX4_mixLines 7 (some .long), Cond.methodLink RX4 230 yX4_mixAccounts, Cond.instanceMethod yX4_mixAccounts, Cond.selects RX4 yX4_mixAccounts yX4_mixAccounts, Cond.code yX4_mixAccounts cX4_mixAccounts 7 (some .long), Cond.methodLink RX4 233 yX4_mixCalls, Cond.instanceMethod yX4_mixCalls, Cond.selects RX4 yX4_mixCalls yX4_mixCalls, Cond.code yX4_mixCalls cX4_mixCalls 8 (some .long), Cond.methodLink RL 180 yX5_digest, Cond.instanceMethod yX5_digest, Cond.selects RX5 yX5_digest yX5_digest]
def wsL_law0_r30 : List Cond := [Cond.code yX5_digest cX5_digest 5 (some .long), Cond.constantLong RX5 140 (5983), Cond.constantLong RX5 142 (31)]
def wsL_law0 : List Cond := (wsL_law0_r1 ++ (wsL_law0_r2 ++ (wsL_law0_r3 ++ (wsL_law0_r4 ++ (wsL_law0_r5 ++ (wsL_law0_r6 ++ (wsL_law0_r7 ++ (wsL_law0_r8 ++ (wsL_law0_r9 ++ (wsL_law0_r10 ++ (wsL_law0_r11 ++ (wsL_law0_r12 ++ (wsL_law0_r13 ++ (wsL_law0_r14 ++ (wsL_law0_r15 ++ (wsL_law0_r16 ++ (wsL_law0_r17 ++ (wsL_law0_r18 ++ (wsL_law0_r19 ++ (wsL_law0_r20 ++ (wsL_law0_r21 ++ (wsL_law0_r22 ++ (wsL_law0_r23 ++ (wsL_law0_r24 ++ (wsL_law0_r25 ++ (wsL_law0_r26 ++ (wsL_law0_r27 ++ (wsL_law0_r28 ++ (wsL_law0_r29 ++ wsL_law0_r30))))))))))))))))))))))))))))) ++ wsX40 ++ wsX50 ++ wsJx4a65c0 ++ wsX30 ++ wsX10 ++ wsX00 ++ wsX20 ++ ([] : List Cond)
def wsL_law : List Cond := wsL_law0 ++ (vx_atS RX4 43 "java/lang/IllegalArgumentException" ["java/lang/RuntimeException", "java/lang/Exception"]).filter goodWord ++ (vx_atS RX4 60 "java/lang/IllegalStateException" ["java/lang/RuntimeException", "java/lang/Exception"]).filter goodWord ++ (vx_atS RX4 170 "java/lang/IndexOutOfBoundsException" ["java/lang/RuntimeException", "java/lang/Exception"]).filter goodWord
theorem inlX0 : ∀ w ∈ wsX00, w ∈ wsL_law := fun _ h => List.mem_append_left _ (List.mem_append_left _ (List.mem_append_left _ (List.mem_append_left _ (List.mem_append_left _ (List.mem_append_right _ h)))))
theorem inlX1 : ∀ w ∈ wsX10, w ∈ wsL_law := fun _ h => List.mem_append_left _ (List.mem_append_left _ (List.mem_append_left _ (List.mem_append_left _ (List.mem_append_left _ (List.mem_append_left _ (List.mem_append_right _ h))))))
theorem inlX2 : ∀ w ∈ wsX20, w ∈ wsL_law := fun _ h => List.mem_append_left _ (List.mem_append_left _ (List.mem_append_left _ (List.mem_append_left _ (List.mem_append_right _ h))))
theorem inlX3 : ∀ w ∈ wsX30, w ∈ wsL_law := fun _ h => List.mem_append_left _ (List.mem_append_left _ (List.mem_append_left _ (List.mem_append_left _ (List.mem_append_left _ (List.mem_append_left _ (List.mem_append_left _ (List.mem_append_right _ h)))))))
theorem inlX4 : ∀ w ∈ wsX40, w ∈ wsL_law := fun _ h => List.mem_append_left _ (List.mem_append_left _ (List.mem_append_left _ (List.mem_append_left _ (List.mem_append_left _ (List.mem_append_left _ (List.mem_append_left _ (List.mem_append_left _ (List.mem_append_left _ (List.mem_append_left _ (List.mem_append_right _ h))))))))))
theorem inlX5 : ∀ w ∈ wsX50, w ∈ wsL_law := fun _ h => List.mem_append_left _ (List.mem_append_left _ (List.mem_append_left _ (List.mem_append_left _ (List.mem_append_left _ (List.mem_append_left _ (List.mem_append_left _ (List.mem_append_left _ (List.mem_append_left _ (List.mem_append_right _ h)))))))))
theorem inlJx4a65c : ∀ w ∈ wsJx4a65c0, w ∈ wsL_law := fun _ h => List.mem_append_left _ (List.mem_append_left _ (List.mem_append_left _ (List.mem_append_left _ (List.mem_append_left _ (List.mem_append_left _ (List.mem_append_left _ (List.mem_append_left _ (List.mem_append_right _ h))))))))
abbrev vwCl : List vw_C := [(RJ0, TJ0, 4), (RJ4, TJ4, 4), (RJx4a65c, TJx4a65c, 3), (RX0, TX0, 6), (RX1, TX1, 9), (RX2, TX2, 6), (RX3, TX3, 8), (RX4, TX4, 7), (RX5, TX5, 19)]

