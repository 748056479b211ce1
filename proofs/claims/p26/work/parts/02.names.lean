def RX0 : String := "RoamLedger$Network"
def TX0 : u_T := fun k => match k with
  | 0 => ("RoamLedger$Network", "rates", "[I", true)
  | 1 => ("RoamLedger$Network", "trusts", "[I", true)
  | 2 => ("RoamLedger$Network", "debts", "[J", true)
  | _ => ("RoamLedger$Network", "weights", "[I", true)
def tyX0 : Nat → FieldType := fun k => match k with
  | 0 => .array .int
  | 1 => .array .int
  | 2 => .array .long
  | _ => .array .int
abbrev wsX00 : List Cond := u_ws RX0 TX0 4
theorem nmX0 : ∀ a, a < 4 → ∀ b, b < 4 → a ≠ b → (TX0 a).2.1 ≠ (TX0 b).2.1 := by decide +kernel
theorem tyX0_ok : ∀ k, k < 4 → parseFieldDescriptor (TX0 k).2.2.1 = some (tyX0 k) := by decide +kernel
abbrev cX0_init : ByteArray := prog_2_method_1_code
def yX0_init : MethodName := ⟨RX0, "<init>", "()V"⟩
abbrev cX0_rateOf : ByteArray := prog_2_method_2_code
def yX0_rateOf : MethodName := ⟨RX0, "rateOf", "(II)I"⟩
abbrev cX0_setLink : ByteArray := prog_2_method_3_code
def yX0_setLink : MethodName := ⟨RX0, "setLink", "(IIII)V"⟩
abbrev cX0_debtOf : ByteArray := prog_2_method_4_code
def yX0_debtOf : MethodName := ⟨RX0, "debtOf", "(II)J"⟩
abbrev cX0_addDebt : ByteArray := prog_2_method_5_code
def yX0_addDebt : MethodName := ⟨RX0, "addDebt", "(IIJ)V"⟩
abbrev cX0_isOpen : ByteArray := prog_2_method_6_code
def yX0_isOpen : MethodName := ⟨RX0, "isOpen", "(II)Z"⟩
abbrev cX0_isOpenAlong : ByteArray := prog_2_method_7_code
def yX0_isOpenAlong : MethodName := ⟨RX0, "isOpenAlong", "(LRoamLedger$Route;)Z"⟩
abbrev cX0_costOf : ByteArray := prog_2_method_8_code
def yX0_costOf : MethodName := ⟨RX0, "costOf", "(LRoamLedger$Route;)I"⟩
abbrev cX0_charge : ByteArray := prog_2_method_9_code
def yX0_charge : MethodName := ⟨RX0, "charge", "(LRoamLedger$Talk;)V"⟩
abbrev cX0_findBest : ByteArray := prog_2_method_10_code
def yX0_findBest : MethodName := ⟨RX0, "findBest", "(IILRoamLedger$Route;)Z"⟩
abbrev cX0_weighWaysTo : ByteArray := prog_2_method_11_code
def yX0_weighWaysTo : MethodName := ⟨RX0, "weighWaysTo", "(I)V"⟩
abbrev cX0_nextOnBest : ByteArray := prog_2_method_12_code
def yX0_nextOnBest : MethodName := ⟨RX0, "nextOnBest", "(I)I"⟩
abbrev cX0_weightOver : ByteArray := prog_2_method_13_code
def yX0_weightOver : MethodName := ⟨RX0, "weightOver", "(II)I"⟩
def RX1 : String := "RoamLedger$Route"
def TX1 : u_T := fun k => match k with
  | 0 => ("RoamLedger$Route", "carriers", "[I", true)
  | _ => ("RoamLedger$Route", "length", "I", false)
def tyX1 : Nat → FieldType := fun k => match k with
  | 0 => .array .int
  | _ => .int
abbrev wsX10 : List Cond := u_ws RX1 TX1 2
theorem nmX1 : ∀ a, a < 2 → ∀ b, b < 2 → a ≠ b → (TX1 a).2.1 ≠ (TX1 b).2.1 := by decide +kernel
theorem tyX1_ok : ∀ k, k < 2 → parseFieldDescriptor (TX1 k).2.2.1 = some (tyX1 k) := by decide +kernel
abbrev cX1_init : ByteArray := prog_3_method_1_code
def yX1_init : MethodName := ⟨RX1, "<init>", "()V"⟩
abbrev cX1_carrierAt : ByteArray := prog_3_method_2_code
def yX1_carrierAt : MethodName := ⟨RX1, "carrierAt", "(I)I"⟩
abbrev cX1_clear : ByteArray := prog_3_method_3_code
def yX1_clear : MethodName := ⟨RX1, "clear", "()V"⟩
abbrev cX1_add : ByteArray := prog_3_method_4_code
def yX1_add : MethodName := ⟨RX1, "add", "(I)V"⟩
abbrev cX1_become : ByteArray := prog_3_method_5_code
def yX1_become : MethodName := ⟨RX1, "become", "(LRoamLedger$Route;)V"⟩
def RX2 : String := "RoamLedger$Subscriber"
def TX2 : u_T := fun k => match k with
  | 0 => ("RoamLedger$Subscriber", "chain", "[I", true)
  | 1 => ("RoamLedger$Subscriber", "homeCount", "I", false)
  | 2 => ("RoamLedger$Subscriber", "balance", "I", false)
  | _ => ("RoamLedger$Subscriber", "bundle", "I", false)
def tyX2 : Nat → FieldType := fun k => match k with
  | 0 => .array .int
  | 1 => .int
  | 2 => .int
  | _ => .int
abbrev wsX20 : List Cond := u_ws RX2 TX2 4
theorem nmX2 : ∀ a, a < 4 → ∀ b, b < 4 → a ≠ b → (TX2 a).2.1 ≠ (TX2 b).2.1 := by decide +kernel
theorem tyX2_ok : ∀ k, k < 4 → parseFieldDescriptor (TX2 k).2.2.1 = some (tyX2 k) := by decide +kernel
abbrev cX2_init : ByteArray := prog_4_method_1_code
def yX2_init : MethodName := ⟨RX2, "<init>", "(III)V"⟩
abbrev cX2_homeAt : ByteArray := prog_4_method_2_code
def yX2_homeAt : MethodName := ⟨RX2, "homeAt", "(I)I"⟩
abbrev cX2_moveTo : ByteArray := prog_4_method_3_code
def yX2_moveTo : MethodName := ⟨RX2, "moveTo", "(I)Z"⟩
abbrev cX2_pay : ByteArray := prog_4_method_4_code
def yX2_pay : MethodName := ⟨RX2, "pay", "(II)Z"⟩
def RX3 : String := "RoamLedger$Talk"
def TX3 : u_T := fun k => match k with
  | 0 => ("RoamLedger$Talk", "caller", "LRoamLedger$Subscriber;", true)
  | 1 => ("RoamLedger$Talk", "called", "LRoamLedger$Subscriber;", true)
  | 2 => ("RoamLedger$Talk", "step", "I", true)
  | 3 => ("RoamLedger$Talk", "price", "I", true)
  | 4 => ("RoamLedger$Talk", "route", "LRoamLedger$Route;", true)
  | 5 => ("RoamLedger$Talk", "charges", "[J", true)
  | 6 => ("RoamLedger$Talk", "state", "I", false)
  | 7 => ("RoamLedger$Talk", "minutes", "I", false)
  | _ => ("RoamLedger$Talk", "moves", "I", false)
def tyX3 : Nat → FieldType := fun k => match k with
  | 0 => .object "RoamLedger$Subscriber"
  | 1 => .object "RoamLedger$Subscriber"
  | 2 => .int
  | 3 => .int
  | 4 => .object "RoamLedger$Route"
  | 5 => .array .long
  | 6 => .int
  | 7 => .int
  | _ => .int
abbrev wsX30 : List Cond := u_ws RX3 TX3 9
theorem nmX3 : ∀ a, a < 9 → ∀ b, b < 9 → a ≠ b → (TX3 a).2.1 ≠ (TX3 b).2.1 := by decide +kernel
theorem tyX3_ok : ∀ k, k < 9 → parseFieldDescriptor (TX3 k).2.2.1 = some (tyX3 k) := by decide +kernel
abbrev cX3_init : ByteArray := prog_5_method_1_code
def yX3_init : MethodName := ⟨RX3, "<init>", "(LRoamLedger$Subscriber;LRoamLedger$Subscriber;II)V"⟩
abbrev cX3_isStepDue : ByteArray := prog_5_method_2_code
def yX3_isStepDue : MethodName := ⟨RX3, "isStepDue", "()Z"⟩
abbrev cX3_addCharge : ByteArray := prog_5_method_3_code
def yX3_addCharge : MethodName := ⟨RX3, "addCharge", "(II)V"⟩
abbrev cX3_chargeOf : ByteArray := prog_5_method_4_code
def yX3_chargeOf : MethodName := ⟨RX3, "chargeOf", "(I)J"⟩
def RX4 : String := "RoamLedger"
def TX4 : u_T := fun k => match k with
  | 0 => ("RoamLedger", "steps", "[I", true)
  | 1 => ("RoamLedger", "prices", "[I", true)
  | 2 => ("RoamLedger", "network", "LRoamLedger$Network;", true)
  | 3 => ("RoamLedger", "subscribers", "[LRoamLedger$Subscriber;", true)
  | 4 => ("RoamLedger", "talks", "[LRoamLedger$Talk;", true)
  | 5 => ("RoamLedger", "asked", "LRoamLedger$Route;", true)
  | 6 => ("RoamLedger", "subscriberCount", "I", false)
  | _ => ("RoamLedger", "talkCount", "I", false)
def tyX4 : Nat → FieldType := fun k => match k with
  | 0 => .array .int
  | 1 => .array .int
  | 2 => .object "RoamLedger$Network"
  | 3 => .array (.object "RoamLedger$Subscriber")
  | 4 => .array (.object "RoamLedger$Talk")
  | 5 => .object "RoamLedger$Route"
  | 6 => .int
  | _ => .int
abbrev wsX40 : List Cond := u_ws RX4 TX4 8
theorem nmX4 : ∀ a, a < 8 → ∀ b, b < 8 → a ≠ b → (TX4 a).2.1 ≠ (TX4 b).2.1 := by decide +kernel
theorem tyX4_ok : ∀ k, k < 8 → parseFieldDescriptor (TX4 k).2.2.1 = some (tyX4 k) := by decide +kernel
abbrev cX4_init : ByteArray := prog_1_method_1_code
def yX4_init : MethodName := ⟨RX4, "<init>", "()V"⟩
abbrev cX4_tariff : ByteArray := prog_1_method_2_code
def yX4_tariff : MethodName := ⟨RX4, "tariff", "(III)I"⟩
abbrev cX4_link : ByteArray := prog_1_method_3_code
def yX4_link : MethodName := ⟨RX4, "link", "(IIII)Z"⟩
abbrev cX4_unlink : ByteArray := prog_1_method_4_code
def yX4_unlink : MethodName := ⟨RX4, "unlink", "(II)I"⟩
abbrev cX4_number : ByteArray := prog_1_method_5_code
def yX4_number : MethodName := ⟨RX4, "number", "(III)I"⟩
abbrev cX4_carryOver : ByteArray := prog_1_method_6_code
def yX4_carryOver : MethodName := ⟨RX4, "carryOver", "(II)I"⟩
abbrev cX4_home : ByteArray := prog_1_method_7_code
def yX4_home : MethodName := ⟨RX4, "home", "(II)I"⟩
abbrev cX4_topUp : ByteArray := prog_1_method_8_code
def yX4_topUp : MethodName := ⟨RX4, "topUp", "(III)I"⟩
abbrev cX4_balance : ByteArray := prog_1_method_9_code
def yX4_balance : MethodName := ⟨RX4, "balance", "(I)I"⟩
abbrev cX4_bundle : ByteArray := prog_1_method_10_code
def yX4_bundle : MethodName := ⟨RX4, "bundle", "(I)I"⟩
abbrev cX4_call : ByteArray := prog_1_method_11_code
def yX4_call : MethodName := ⟨RX4, "call", "(II)I"⟩
abbrev cX4_hangUp : ByteArray := prog_1_method_12_code
def yX4_hangUp : MethodName := ⟨RX4, "hangUp", "(I)I"⟩
abbrev cX4_pass : ByteArray := prog_1_method_13_code
def yX4_pass : MethodName := ⟨RX4, "pass", "(I)I"⟩
abbrev cX4_state : ByteArray := prog_1_method_14_code
def yX4_state : MethodName := ⟨RX4, "state", "(I)I"⟩
abbrev cX4_minutes : ByteArray := prog_1_method_15_code
def yX4_minutes : MethodName := ⟨RX4, "minutes", "(I)I"⟩
abbrev cX4_moved : ByteArray := prog_1_method_16_code
def yX4_moved : MethodName := ⟨RX4, "moved", "(I)I"⟩
abbrev cX4_way : ByteArray := prog_1_method_17_code
def yX4_way : MethodName := ⟨RX4, "way", "(II)I"⟩
abbrev cX4_cost : ByteArray := prog_1_method_18_code
def yX4_cost : MethodName := ⟨RX4, "cost", "(II)I"⟩
abbrev cX4_best : ByteArray := prog_1_method_19_code
def yX4_best : MethodName := ⟨RX4, "best", "(III)I"⟩
abbrev cX4_isBarred : ByteArray := prog_1_method_20_code
def yX4_isBarred : MethodName := ⟨RX4, "isBarred", "(II)Z"⟩
abbrev cX4_debt : ByteArray := prog_1_method_21_code
def yX4_debt : MethodName := ⟨RX4, "debt", "(II)J"⟩
abbrev cX4_charged : ByteArray := prog_1_method_22_code
def yX4_charged : MethodName := ⟨RX4, "charged", "(II)J"⟩
abbrev cX4_position : ByteArray := prog_1_method_23_code
def yX4_position : MethodName := ⟨RX4, "position", "(I)J"⟩
abbrev cX4_settle : ByteArray := prog_1_method_24_code
def yX4_settle : MethodName := ⟨RX4, "settle", "(II)J"⟩
abbrev cX4_isWithin : ByteArray := prog_1_method_25_code
def yX4_isWithin : MethodName := ⟨RX4, "isWithin", "(III)Z"⟩
abbrev cX4_isCarrier : ByteArray := prog_1_method_26_code
def yX4_isCarrier : MethodName := ⟨RX4, "isCarrier", "(I)Z"⟩
abbrev cX4_pairOf : ByteArray := prog_1_method_27_code
def yX4_pairOf : MethodName := ⟨RX4, "pairOf", "(II)I"⟩
abbrev cX4_demandCarrier : ByteArray := prog_1_method_28_code
def yX4_demandCarrier : MethodName := ⟨RX4, "demandCarrier", "(I)V"⟩
abbrev cX4_demandCredit : ByteArray := prog_1_method_29_code
def yX4_demandCredit : MethodName := ⟨RX4, "demandCredit", "(II)V"⟩
abbrev cX4_subscriberOf : ByteArray := prog_1_method_30_code
def yX4_subscriberOf : MethodName := ⟨RX4, "subscriberOf", "(I)LRoamLedger$Subscriber;"⟩
abbrev cX4_talkOf : ByteArray := prog_1_method_31_code
def yX4_talkOf : MethodName := ⟨RX4, "talkOf", "(I)LRoamLedger$Talk;"⟩
abbrev cX4_isTalking : ByteArray := prog_1_method_32_code
def yX4_isTalking : MethodName := ⟨RX4, "isTalking", "(LRoamLedger$Subscriber;)Z"⟩
abbrev cX4_newTalk : ByteArray := prog_1_method_33_code
def yX4_newTalk : MethodName := ⟨RX4, "newTalk", "(LRoamLedger$Subscriber;LRoamLedger$Subscriber;LRoamLedger$Route;)LRoamLedger$Talk;"⟩
abbrev cX4_runOneMinute : ByteArray := prog_1_method_34_code
def yX4_runOneMinute : MethodName := ⟨RX4, "runOneMinute", "(LRoamLedger$Talk;)Z"⟩
def RX5 : String := "RoamLedgerModel"
def TX5 : u_T := fun k => match k with
  | _ => ("", "", "", false)
def tyX5 : Nat → FieldType := fun k => match k with
  | _ => .int
abbrev wsX50 : List Cond := u_ws RX5 TX5 0
theorem nmX5 : ∀ a, a < 0 → ∀ b, b < 0 → a ≠ b → (TX5 a).2.1 ≠ (TX5 b).2.1 := by decide +kernel
theorem tyX5_ok : ∀ k, k < 0 → parseFieldDescriptor (TX5 k).2.2.1 = some (tyX5 k) := by decide +kernel
def RJx145de : String := "java/io/Serializable"
def TJx145de : u_T := fun k => match k with
  | _ => ("", "", "", false)
def tyJx145de : Nat → FieldType := fun k => match k with
  | _ => .int
abbrev wsJx145de0 : List Cond := u_ws RJx145de TJx145de 0
theorem nmJx145de : ∀ a, a < 0 → ∀ b, b < 0 → a ≠ b → (TJx145de a).2.1 ≠ (TJx145de b).2.1 := by decide +kernel
theorem tyJx145de_ok : ∀ k, k < 0 → parseFieldDescriptor (TJx145de k).2.2.1 = some (tyJx145de k) := by decide +kernel
def RJ9 : String := "java/lang/Math"
def TJ9 : u_T := fun k => match k with
  | _ => ("", "", "", false)
def tyJ9 : Nat → FieldType := fun k => match k with
  | _ => .int
abbrev wsJ90 : List Cond := u_ws RJ9 TJ9 0
theorem nmJ9 : ∀ a, a < 0 → ∀ b, b < 0 → a ≠ b → (TJ9 a).2.1 ≠ (TJ9 b).2.1 := by decide +kernel
theorem tyJ9_ok : ∀ k, k < 0 → parseFieldDescriptor (TJ9 k).2.2.1 = some (tyJ9 k) := by decide +kernel
abbrev cJ9_min_7cf53 : ByteArray := prog_12_method_69_code
def yJ9_min_7cf53 : MethodName := ⟨RJ9, "min", "(II)I"⟩
def RJ0 : String := "java/lang/String"
def TJ0 : u_T := fun k => match k with
  | _ => ("", "", "", false)
def tyJ0 : Nat → FieldType := fun k => match k with
  | _ => .int
abbrev wsJ00 : List Cond := u_ws RJ0 TJ0 0
theorem nmJ0 : ∀ a, a < 0 → ∀ b, b < 0 → a ≠ b → (TJ0 a).2.1 ≠ (TJ0 b).2.1 := by decide +kernel
theorem tyJ0_ok : ∀ k, k < 0 → parseFieldDescriptor (TJ0 k).2.2.1 = some (tyJ0 k) := by decide +kernel
def RJ7 : String := "java/util/Arrays"
def TJ7 : u_T := fun k => match k with
  | _ => ("", "", "", false)
def tyJ7 : Nat → FieldType := fun k => match k with
  | _ => .int
abbrev wsJ70 : List Cond := u_ws RJ7 TJ7 0
theorem nmJ7 : ∀ a, a < 0 → ∀ b, b < 0 → a ≠ b → (TJ7 a).2.1 ≠ (TJ7 b).2.1 := by decide +kernel
theorem tyJ7_ok : ∀ k, k < 0 → parseFieldDescriptor (TJ7 k).2.2.1 = some (tyJ7 k) := by decide +kernel
abbrev cJ7_fill_53178 : ByteArray := prog_16_method_103_code
def yJ7_fill_53178 : MethodName := ⟨RJ7, "fill", "([II)V"⟩
def RL : String := "RoamLedgerLaw"
abbrev cL_cell : ByteArray := method_2_code
def yL_cell : MethodName := ⟨RL, "cell", "([II)I"⟩
abbrev cL_low : ByteArray := method_3_code
def yL_low : MethodName := ⟨RL, "low", "(II)I"⟩
abbrev cL_shut : ByteArray := method_4_code
def yL_shut : MethodName := ⟨RL, "shut", "(II[I[J)Z"⟩
abbrev cL_best : ByteArray := method_5_code
def yL_best : MethodName := ⟨RL, "best", "(II[I[J)I"⟩
abbrev cL_cost : ByteArray := method_6_code
def yL_cost : MethodName := ⟨RL, "cost", "(I[I)I"⟩
abbrev cL_end : ByteArray := method_7_code
def yL_end : MethodName := ⟨RL, "end", "(I)I"⟩
abbrev cL_busy : ByteArray := method_8_code
def yL_busy : MethodName := ⟨RL, "busy", "(I[I[I)Z"⟩
abbrev cL_minute : ByteArray := method_9_code
def yL_minute : MethodName := ⟨RL, "minute", "(I[I[J[J[I[I)V"⟩
abbrev cL_refused : ByteArray := method_10_code
def yL_refused : MethodName := ⟨RL, "refused", "(LRoamLedger;III)I"⟩
abbrev cL_same : ByteArray := method_11_code
def yL_same : MethodName := ⟨RL, "same", "(LRoamLedger;[I[J[J[I[I[II)Z"⟩
abbrev cL_law : ByteArray := code
def yL_law : MethodName := ⟨RL, "law", "([I)Z"⟩
abbrev vwCl : List vw_C := [(RX0, TX0, 4), (RX1, TX1, 2), (RX2, TX2, 4), (RX3, TX3, 9), (RX4, TX4, 8)]
