def RX0 : String := "LowWaterAuction$1"
def TX0 : u_T := fun k => match k with
  | _ => ("", "", "", false)
def tyX0 : Nat → FieldType := fun k => match k with
  | _ => .int
abbrev wsX00 : List Cond := u_ws RX0 TX0 0
theorem nmX0 : ∀ a, a < 0 → ∀ b, b < 0 → a ≠ b → (TX0 a).2.1 ≠ (TX0 b).2.1 := by decide +kernel
theorem tyX0_ok : ∀ k, k < 0 → parseFieldDescriptor (TX0 k).2.2.1 = some (tyX0 k) := by decide +kernel
def RX1 : String := "LowWaterAuction$Barrel"
def TX1 : u_T := fun k => match k with
  | 0 => ("LowWaterAuction$Barrel", "lengths", "[I", true)
  | 1 => ("LowWaterAuction$Barrel", "eels", "I", false)
  | 2 => ("LowWaterAuction$Barrel", "total", "I", false)
  | 3 => ("LowWaterAuction$Barrel", "greatest", "I", false)
  | 4 => ("LowWaterAuction$Barrel", "longEels", "I", false)
  | 5 => ("LowWaterAuction$Barrel", "reserve", "I", false)
  | 6 => ("LowWaterAuction$Barrel", "returns", "I", false)
  | 7 => ("LowWaterAuction$Barrel", "state", "I", false)
  | 8 => ("LowWaterAuction$Barrel", "buyer", "I", false)
  | _ => ("LowWaterAuction$Barrel", "price", "I", false)
def tyX1 : Nat → FieldType := fun k => match k with
  | 0 => .array .int
  | 1 => .int
  | 2 => .int
  | 3 => .int
  | 4 => .int
  | 5 => .int
  | 6 => .int
  | 7 => .int
  | 8 => .int
  | _ => .int
abbrev wsX10 : List Cond := u_ws RX1 TX1 10
theorem nmX1 : ∀ a, a < 10 → ∀ b, b < 10 → a ≠ b → (TX1 a).2.1 ≠ (TX1 b).2.1 := by decide +kernel
theorem tyX1_ok : ∀ k, k < 10 → parseFieldDescriptor (TX1 k).2.2.1 = some (tyX1 k) := by decide +kernel
abbrev cX1_init : ByteArray := prog_3_method_1_code
def yX1_init : MethodName := ⟨RX1, "<init>", "()V"⟩
abbrev cX1_fill : ByteArray := prog_3_method_2_code
def yX1_fill : MethodName := ⟨RX1, "fill", "([III)V"⟩
abbrev cX1_keepFirst : ByteArray := prog_3_method_3_code
def yX1_keepFirst : MethodName := ⟨RX1, "keepFirst", "(I)V"⟩
abbrev cX1_beginWaiting : ByteArray := prog_3_method_4_code
def yX1_beginWaiting : MethodName := ⟨RX1, "beginWaiting", "(I)V"⟩
abbrev cX1_lengthAtRank : ByteArray := prog_3_method_5_code
def yX1_lengthAtRank : MethodName := ⟨RX1, "lengthAtRank", "(I)I"⟩
abbrev cX1_copyFrom : ByteArray := prog_3_method_6_code
def yX1_copyFrom : MethodName := ⟨RX1, "copyFrom", "(LLowWaterAuction$Barrel;)V"⟩
abbrev cX1_emptyOut : ByteArray := prog_3_method_7_code
def yX1_emptyOut : MethodName := ⟨RX1, "emptyOut", "()V"⟩
abbrev cX1_addEel : ByteArray := prog_3_method_8_code
def yX1_addEel : MethodName := ⟨RX1, "addEel", "(I)V"⟩
def RX2 : String := "LowWaterAuction$Buyer"
def TX2 : u_T := fun k => match k with
  | 0 => ("LowWaterAuction$Buyer", "purse", "I", false)
  | 1 => ("LowWaterAuction$Buyer", "style", "I", false)
  | 2 => ("LowWaterAuction$Buyer", "factor", "I", false)
  | 3 => ("LowWaterAuction$Buyer", "bought", "I", false)
  | _ => ("LowWaterAuction$Buyer", "nods", "I", false)
def tyX2 : Nat → FieldType := fun k => match k with
  | 0 => .int
  | 1 => .int
  | 2 => .int
  | 3 => .int
  | _ => .int
abbrev wsX20 : List Cond := u_ws RX2 TX2 5
theorem nmX2 : ∀ a, a < 5 → ∀ b, b < 5 → a ≠ b → (TX2 a).2.1 ≠ (TX2 b).2.1 := by decide +kernel
theorem tyX2_ok : ∀ k, k < 5 → parseFieldDescriptor (TX2 k).2.2.1 = some (tyX2 k) := by decide +kernel
abbrev cX2_init : ByteArray := prog_4_method_1_code
def yX2_init : MethodName := ⟨RX2, "<init>", "()V"⟩
abbrev cX2_begin : ByteArray := prog_4_method_2_code
def yX2_begin : MethodName := ⟨RX2, "begin", "(III)V"⟩
abbrev cX2_valueOf : ByteArray := prog_4_method_3_code
def yX2_valueOf : MethodName := ⟨RX2, "valueOf", "(LLowWaterAuction$Barrel;)D"⟩
abbrev cX2_copyFrom : ByteArray := prog_4_method_4_code
def yX2_copyFrom : MethodName := ⟨RX2, "copyFrom", "(LLowWaterAuction$Buyer;)V"⟩
def RX3 : String := "LowWaterAuction$Command"
def TX3 : u_T := fun k => match k with
  | 0 => ("LowWaterAuction$Command", "verb", "LLowWaterAuction$Verb;", false)
  | 1 => ("LowWaterAuction$Command", "first", "I", false)
  | 2 => ("LowWaterAuction$Command", "second", "I", false)
  | 3 => ("LowWaterAuction$Command", "lengths", "[I", true)
  | _ => ("LowWaterAuction$Command", "eels", "I", false)
def tyX3 : Nat → FieldType := fun k => match k with
  | 0 => .object "LowWaterAuction$Verb"
  | 1 => .int
  | 2 => .int
  | 3 => .array .int
  | _ => .int
abbrev wsX30 : List Cond := u_ws RX3 TX3 5
theorem nmX3 : ∀ a, a < 5 → ∀ b, b < 5 → a ≠ b → (TX3 a).2.1 ≠ (TX3 b).2.1 := by decide +kernel
theorem tyX3_ok : ∀ k, k < 5 → parseFieldDescriptor (TX3 k).2.2.1 = some (tyX3 k) := by decide +kernel
abbrev cX3_init : ByteArray := prog_5_method_1_code
def yX3_init : MethodName := ⟨RX3, "<init>", "()V"⟩
def RX4 : String := "LowWaterAuction$History"
def TX4 : u_T := fun k => match k with
  | 0 => ("LowWaterAuction$History", "states", "[LLowWaterAuction$Market;", true)
  | 1 => ("LowWaterAuction$History", "next", "I", false)
  | _ => ("LowWaterAuction$History", "count", "I", false)
def tyX4 : Nat → FieldType := fun k => match k with
  | 0 => .array (.object "LowWaterAuction$Market")
  | 1 => .int
  | _ => .int
abbrev wsX40 : List Cond := u_ws RX4 TX4 3
theorem nmX4 : ∀ a, a < 3 → ∀ b, b < 3 → a ≠ b → (TX4 a).2.1 ≠ (TX4 b).2.1 := by decide +kernel
theorem tyX4_ok : ∀ k, k < 3 → parseFieldDescriptor (TX4 k).2.2.1 = some (tyX4 k) := by decide +kernel
abbrev cX4_init : ByteArray := prog_6_method_1_code
def yX4_init : MethodName := ⟨RX4, "<init>", "()V"⟩
abbrev cX4_remember : ByteArray := prog_6_method_2_code
def yX4_remember : MethodName := ⟨RX4, "remember", "(LLowWaterAuction$Market;)V"⟩
def RX5 : String := "LowWaterAuction$InputText"
def TX5 : u_T := fun k => match k with
  | 0 => ("LowWaterAuction$InputText", "bytes", "[I", true)
  | 1 => ("LowWaterAuction$InputText", "size", "I", false)
  | 2 => ("LowWaterAuction$InputText", "kind", "I", false)
  | 3 => ("LowWaterAuction$InputText", "start", "I", false)
  | 4 => ("LowWaterAuction$InputText", "end", "I", false)
  | _ => ("LowWaterAuction$InputText", "value", "I", false)
def tyX5 : Nat → FieldType := fun k => match k with
  | 0 => .array .int
  | 1 => .int
  | 2 => .int
  | 3 => .int
  | 4 => .int
  | _ => .int
abbrev wsX50 : List Cond := u_ws RX5 TX5 6
theorem nmX5 : ∀ a, a < 6 → ∀ b, b < 6 → a ≠ b → (TX5 a).2.1 ≠ (TX5 b).2.1 := by decide +kernel
theorem tyX5_ok : ∀ k, k < 6 → parseFieldDescriptor (TX5 k).2.2.1 = some (tyX5 k) := by decide +kernel
abbrev cX5_init : ByteArray := prog_7_method_1_code
def yX5_init : MethodName := ⟨RX5, "<init>", "()V"⟩
abbrev cX5_addFour : ByteArray := prog_7_method_2_code
def yX5_addFour : MethodName := ⟨RX5, "addFour", "(I)V"⟩
abbrev cX5_addSigns : ByteArray := prog_7_method_3_code
def yX5_addSigns : MethodName := ⟨RX5, "addSigns", "(Ljava/lang/String;)V"⟩
abbrev cX5_restart : ByteArray := prog_7_method_4_code
def yX5_restart : MethodName := ⟨RX5, "restart", "()V"⟩
abbrev cX5_advance : ByteArray := prog_7_method_5_code
def yX5_advance : MethodName := ⟨RX5, "advance", "()V"⟩
abbrev cX5_isWord : ByteArray := prog_7_method_6_code
def yX5_isWord : MethodName := ⟨RX5, "isWord", "(Ljava/lang/String;)Z"⟩
abbrev cX5_addByte : ByteArray := prog_7_method_7_code
def yX5_addByte : MethodName := ⟨RX5, "addByte", "(I)V"⟩
abbrev cX5_kindAt : ByteArray := prog_7_method_8_code
def yX5_kindAt : MethodName := ⟨RX5, "kindAt", "(I)I"⟩
def RX6 : String := "LowWaterAuction$Market"
def TX6 : u_T := fun k => match k with
  | 0 => ("LowWaterAuction$Market", "tide", "LLowWaterAuction$Tide;", true)
  | 1 => ("LowWaterAuction$Market", "patience", "I", false)
  | 2 => ("LowWaterAuction$Market", "step", "I", false)
  | 3 => ("LowWaterAuction$Market", "fee", "I", false)
  | 4 => ("LowWaterAuction$Market", "sellerCoins", "I", false)
  | 5 => ("LowWaterAuction$Market", "houseCoins", "I", false)
  | 6 => ("LowWaterAuction$Market", "coinsPutIn", "I", false)
  | 7 => ("LowWaterAuction$Market", "buyers", "[LLowWaterAuction$Buyer;", true)
  | 8 => ("LowWaterAuction$Market", "buyerCount", "I", false)
  | 9 => ("LowWaterAuction$Market", "barrels", "[LLowWaterAuction$Barrel;", true)
  | 10 => ("LowWaterAuction$Market", "barrelCount", "I", false)
  | 11 => ("LowWaterAuction$Market", "queue", "[I", true)
  | 12 => ("LowWaterAuction$Market", "queueLength", "I", false)
  | 13 => ("LowWaterAuction$Market", "openBarrel", "I", false)
  | 14 => ("LowWaterAuction$Market", "bid", "I", false)
  | 15 => ("LowWaterAuction$Market", "leader", "I", false)
  | _ => ("LowWaterAuction$Market", "quiet", "I", false)
def tyX6 : Nat → FieldType := fun k => match k with
  | 0 => .object "LowWaterAuction$Tide"
  | 1 => .int
  | 2 => .int
  | 3 => .int
  | 4 => .int
  | 5 => .int
  | 6 => .int
  | 7 => .array (.object "LowWaterAuction$Buyer")
  | 8 => .int
  | 9 => .array (.object "LowWaterAuction$Barrel")
  | 10 => .int
  | 11 => .array .int
  | 12 => .int
  | 13 => .int
  | 14 => .int
  | 15 => .int
  | _ => .int
abbrev wsX60 : List Cond := u_ws RX6 TX6 17
theorem nmX6 : ∀ a, a < 17 → ∀ b, b < 17 → a ≠ b → (TX6 a).2.1 ≠ (TX6 b).2.1 := by decide +kernel
theorem tyX6_ok : ∀ k, k < 17 → parseFieldDescriptor (TX6 k).2.2.1 = some (tyX6 k) := by decide +kernel
abbrev cX6_init : ByteArray := prog_8_method_1_code
def yX6_init : MethodName := ⟨RX6, "<init>", "()V"⟩
abbrev cX6_copyFrom : ByteArray := prog_8_method_2_code
def yX6_copyFrom : MethodName := ⟨RX6, "copyFrom", "(LLowWaterAuction$Market;)V"⟩
abbrev cX6_beginEmpty : ByteArray := prog_8_method_3_code
def yX6_beginEmpty : MethodName := ⟨RX6, "beginEmpty", "()V"⟩
abbrev cX6_hasBarrel : ByteArray := prog_8_method_4_code
def yX6_hasBarrel : MethodName := ⟨RX6, "hasBarrel", "(I)Z"⟩
abbrev cX6_hasBuyer : ByteArray := prog_8_method_5_code
def yX6_hasBuyer : MethodName := ⟨RX6, "hasBuyer", "(I)Z"⟩
abbrev cX6_hasRoom : ByteArray := prog_8_method_6_code
def yX6_hasRoom : MethodName := ⟨RX6, "hasRoom", "()Z"⟩
abbrev cX6_isWaiting : ByteArray := prog_8_method_7_code
def yX6_isWaiting : MethodName := ⟨RX6, "isWaiting", "(I)Z"⟩
abbrev cX6_canCut : ByteArray := prog_8_method_8_code
def yX6_canCut : MethodName := ⟨RX6, "canCut", "(II)Z"⟩
abbrev cX6_takeBuyer : ByteArray := prog_8_method_9_code
def yX6_takeBuyer : MethodName := ⟨RX6, "takeBuyer", "(III)V"⟩
abbrev cX6_takeBarrel : ByteArray := prog_8_method_10_code
def yX6_takeBarrel : MethodName := ⟨RX6, "takeBarrel", "(I[III)I"⟩
abbrev cX6_cut : ByteArray := prog_8_method_11_code
def yX6_cut : MethodName := ⟨RX6, "cut", "(II)I"⟩
abbrev cX6_takeAway : ByteArray := prog_8_method_12_code
def yX6_takeAway : MethodName := ⟨RX6, "takeAway", "(I)V"⟩
abbrev cX6_putCoins : ByteArray := prog_8_method_13_code
def yX6_putCoins : MethodName := ⟨RX6, "putCoins", "(II)V"⟩
abbrev cX6_coinsInPurses : ByteArray := prog_8_method_14_code
def yX6_coinsInPurses : MethodName := ⟨RX6, "coinsInPurses", "()I"⟩
abbrev cX6_keenest : ByteArray := prog_8_method_15_code
def yX6_keenest : MethodName := ⟨RX6, "keenest", "(LLowWaterAuction$Barrel;)I"⟩
abbrev cX6_withFee : ByteArray := prog_8_method_16_code
def yX6_withFee : MethodName := ⟨RX6, "withFee", "(I)I"⟩
abbrev cX6_nextPrice : ByteArray := prog_8_method_17_code
def yX6_nextPrice : MethodName := ⟨RX6, "nextPrice", "()I"⟩
abbrev cX6_refusal : ByteArray := prog_8_method_18_code
def yX6_refusal : MethodName := ⟨RX6, "refusal", "(I)I"⟩
abbrev cX6_whoNods : ByteArray := prog_8_method_19_code
def yX6_whoNods : MethodName := ⟨RX6, "whoNods", "()I"⟩
abbrev cX6_takeNod : ByteArray := prog_8_method_20_code
def yX6_takeNod : MethodName := ⟨RX6, "takeNod", "(I)V"⟩
abbrev cX6_letPass : ByteArray := prog_8_method_21_code
def yX6_letPass : MethodName := ⟨RX6, "letPass", "(I)I"⟩
abbrev cX6_isIdle : ByteArray := prog_8_method_23_code
def yX6_isIdle : MethodName := ⟨RX6, "isIdle", "()Z"⟩
abbrev cX6_passOneMinute : ByteArray := prog_8_method_24_code
def yX6_passOneMinute : MethodName := ⟨RX6, "passOneMinute", "()Z"⟩
abbrev cX6_openFirst : ByteArray := prog_8_method_25_code
def yX6_openFirst : MethodName := ⟨RX6, "openFirst", "()V"⟩
abbrev cX6_closeBarrel : ByteArray := prog_8_method_26_code
def yX6_closeBarrel : MethodName := ⟨RX6, "closeBarrel", "()Z"⟩
abbrev cX6_sell : ByteArray := prog_8_method_27_code
def yX6_sell : MethodName := ⟨RX6, "sell", "(LLowWaterAuction$Barrel;LLowWaterAuction$Buyer;)V"⟩
abbrev cX6_sendBack : ByteArray := prog_8_method_28_code
def yX6_sendBack : MethodName := ⟨RX6, "sendBack", "(I)V"⟩
abbrev cX6_endBidding : ByteArray := prog_8_method_29_code
def yX6_endBidding : MethodName := ⟨RX6, "endBidding", "()V"⟩
abbrev cX6_enqueue : ByteArray := prog_8_method_30_code
def yX6_enqueue : MethodName := ⟨RX6, "enqueue", "(I)V"⟩
abbrev cX6_dequeue : ByteArray := prog_8_method_31_code
def yX6_dequeue : MethodName := ⟨RX6, "dequeue", "(I)V"⟩
def RX7 : String := "LowWaterAuction$Parser"
def TX7 : u_T := fun k => match k with
  | 0 => ("LowWaterAuction$Parser", "input", "LLowWaterAuction$InputText;", true)
  | 1 => ("LowWaterAuction$Parser", "commands", "[LLowWaterAuction$Command;", true)
  | 2 => ("LowWaterAuction$Parser", "barrelLine", "LLowWaterAuction$Command;", true)
  | 3 => ("LowWaterAuction$Parser", "commandCount", "I", false)
  | 4 => ("LowWaterAuction$Parser", "number", "I", false)
  | 5 => ("LowWaterAuction$Parser", "faultCode", "I", false)
  | _ => ("LowWaterAuction$Parser", "faultPlace", "I", false)
def tyX7 : Nat → FieldType := fun k => match k with
  | 0 => .object "LowWaterAuction$InputText"
  | 1 => .array (.object "LowWaterAuction$Command")
  | 2 => .object "LowWaterAuction$Command"
  | 3 => .int
  | 4 => .int
  | 5 => .int
  | _ => .int
abbrev wsX70 : List Cond := u_ws RX7 TX7 7
theorem nmX7 : ∀ a, a < 7 → ∀ b, b < 7 → a ≠ b → (TX7 a).2.1 ≠ (TX7 b).2.1 := by decide +kernel
theorem tyX7_ok : ∀ k, k < 7 → parseFieldDescriptor (TX7 k).2.2.1 = some (tyX7 k) := by decide +kernel
abbrev cX7_init : ByteArray := prog_9_method_1_code
def yX7_init : MethodName := ⟨RX7, "<init>", "()V"⟩
abbrev cX7_readSetup : ByteArray := prog_9_method_2_code
def yX7_readSetup : MethodName := ⟨RX7, "readSetup", "(LLowWaterAuction$Market;)Z"⟩
abbrev cX7_begin : ByteArray := prog_9_method_4_code
def yX7_begin : MethodName := ⟨RX7, "begin", "()V"⟩
abbrev cX7_readMarket : ByteArray := prog_9_method_5_code
def yX7_readMarket : MethodName := ⟨RX7, "readMarket", "(LLowWaterAuction$Market;)Z"⟩
abbrev cX7_readBuyers : ByteArray := prog_9_method_6_code
def yX7_readBuyers : MethodName := ⟨RX7, "readBuyers", "(LLowWaterAuction$Market;)Z"⟩
abbrev cX7_readBuyer : ByteArray := prog_9_method_7_code
def yX7_readBuyer : MethodName := ⟨RX7, "readBuyer", "(LLowWaterAuction$Market;)Z"⟩
abbrev cX7_readBarrels : ByteArray := prog_9_method_8_code
def yX7_readBarrels : MethodName := ⟨RX7, "readBarrels", "(LLowWaterAuction$Market;)Z"⟩
abbrev cX7_readBarrel : ByteArray := prog_9_method_9_code
def yX7_readBarrel : MethodName := ⟨RX7, "readBarrel", "(LLowWaterAuction$Command;)Z"⟩
abbrev cX7_takeWord : ByteArray := prog_9_method_14_code
def yX7_takeWord : MethodName := ⟨RX7, "takeWord", "(Ljava/lang/String;)Z"⟩
abbrev cX7_takeSemicolon : ByteArray := prog_9_method_15_code
def yX7_takeSemicolon : MethodName := ⟨RX7, "takeSemicolon", "()Z"⟩
abbrev cX7_takeNumber : ByteArray := prog_9_method_16_code
def yX7_takeNumber : MethodName := ⟨RX7, "takeNumber", "(II)Z"⟩
abbrev cX7_isInRange : ByteArray := prog_9_method_17_code
def yX7_isInRange : MethodName := ⟨RX7, "isInRange", "(II)Z"⟩
abbrev cX7_fail : ByteArray := prog_9_method_18_code
def yX7_fail : MethodName := ⟨RX7, "fail", "(I)Z"⟩
def RX8 : String := "LowWaterAuction$Tide"
def TX8 : u_T := fun k => match k with
  | 0 => ("LowWaterAuction$Tide", "period", "I", false)
  | 1 => ("LowWaterAuction$Tide", "low", "I", false)
  | _ => ("LowWaterAuction$Tide", "minute", "I", false)
def tyX8 : Nat → FieldType := fun k => match k with
  | 0 => .int
  | 1 => .int
  | _ => .int
abbrev wsX80 : List Cond := u_ws RX8 TX8 3
theorem nmX8 : ∀ a, a < 3 → ∀ b, b < 3 → a ≠ b → (TX8 a).2.1 ≠ (TX8 b).2.1 := by decide +kernel
theorem tyX8_ok : ∀ k, k < 3 → parseFieldDescriptor (TX8 k).2.2.1 = some (tyX8 k) := by decide +kernel
abbrev cX8_init : ByteArray := prog_10_method_1_code
def yX8_init : MethodName := ⟨RX8, "<init>", "()V"⟩
abbrev cX8_isLow : ByteArray := prog_10_method_2_code
def yX8_isLow : MethodName := ⟨RX8, "isLow", "()Z"⟩
abbrev cX8_hornBlows : ByteArray := prog_10_method_3_code
def yX8_hornBlows : MethodName := ⟨RX8, "hornBlows", "()Z"⟩
abbrev cX8_untilHorn : ByteArray := prog_10_method_4_code
def yX8_untilHorn : MethodName := ⟨RX8, "untilHorn", "()I"⟩
abbrev cX8_copyFrom : ByteArray := prog_10_method_5_code
def yX8_copyFrom : MethodName := ⟨RX8, "copyFrom", "(LLowWaterAuction$Tide;)V"⟩
def RX9 : String := "LowWaterAuction$Verb"
def TX9 : u_T := fun k => match k with
  | _ => ("", "", "", false)
def tyX9 : Nat → FieldType := fun k => match k with
  | _ => .int
abbrev wsX90 : List Cond := u_ws RX9 TX9 0
theorem nmX9 : ∀ a, a < 0 → ∀ b, b < 0 → a ≠ b → (TX9 a).2.1 ≠ (TX9 b).2.1 := by decide +kernel
theorem tyX9_ok : ∀ k, k < 0 → parseFieldDescriptor (TX9 k).2.2.1 = some (tyX9 k) := by decide +kernel
def RX10 : String := "LowWaterAuction"
def TX10 : u_T := fun k => match k with
  | 0 => ("LowWaterAuction", "market", "LLowWaterAuction$Market;", true)
  | 1 => ("LowWaterAuction", "scratch", "LLowWaterAuction$Market;", true)
  | 2 => ("LowWaterAuction", "history", "LLowWaterAuction$History;", true)
  | 3 => ("LowWaterAuction", "snapshots", "[LLowWaterAuction$Market;", true)
  | 4 => ("LowWaterAuction", "isSaved", "[Z", true)
  | 5 => ("LowWaterAuction", "parser", "LLowWaterAuction$Parser;", true)
  | 6 => ("LowWaterAuction", "evenLengths", "[I", true)
  | _ => ("LowWaterAuction", "output", "Ljava/lang/StringBuilder;", true)
def tyX10 : Nat → FieldType := fun k => match k with
  | 0 => .object "LowWaterAuction$Market"
  | 1 => .object "LowWaterAuction$Market"
  | 2 => .object "LowWaterAuction$History"
  | 3 => .array (.object "LowWaterAuction$Market")
  | 4 => .array .boolean
  | 5 => .object "LowWaterAuction$Parser"
  | 6 => .array .int
  | _ => .object "java/lang/StringBuilder"
abbrev wsX100 : List Cond := u_ws RX10 TX10 8
theorem nmX10 : ∀ a, a < 8 → ∀ b, b < 8 → a ≠ b → (TX10 a).2.1 ≠ (TX10 b).2.1 := by decide +kernel
theorem tyX10_ok : ∀ k, k < 8 → parseFieldDescriptor (TX10 k).2.2.1 = some (tyX10 k) := by decide +kernel
abbrev cX10_init : ByteArray := prog_1_method_1_code
def yX10_init : MethodName := ⟨RX10, "<init>", "()V"⟩
abbrev cX10_append : ByteArray := prog_1_method_2_code
def yX10_append : MethodName := ⟨RX10, "append", "(IIIII)I"⟩
abbrev cX10_truncate : ByteArray := prog_1_method_3_code
def yX10_truncate : MethodName := ⟨RX10, "truncate", "(I)I"⟩
abbrev cX10_loadSetup : ByteArray := prog_1_method_6_code
def yX10_loadSetup : MethodName := ⟨RX10, "loadSetup", "()I"⟩
abbrev cX10_nod : ByteArray := prog_1_method_8_code
def yX10_nod : MethodName := ⟨RX10, "nod", "(I)I"⟩
abbrev cX10_passMinutes : ByteArray := prog_1_method_9_code
def yX10_passMinutes : MethodName := ⟨RX10, "passMinutes", "(I)I"⟩
abbrev cX10_addBarrel : ByteArray := prog_1_method_10_code
def yX10_addBarrel : MethodName := ⟨RX10, "addBarrel", "(III)I"⟩
abbrev cX10_split : ByteArray := prog_1_method_11_code
def yX10_split : MethodName := ⟨RX10, "split", "(II)I"⟩
abbrev cX10_withdraw : ByteArray := prog_1_method_12_code
def yX10_withdraw : MethodName := ⟨RX10, "withdraw", "(I)I"⟩
abbrev cX10_fund : ByteArray := prog_1_method_13_code
def yX10_fund : MethodName := ⟨RX10, "fund", "(II)I"⟩
abbrev cX10_setStep : ByteArray := prog_1_method_15_code
def yX10_setStep : MethodName := ⟨RX10, "setStep", "(I)I"⟩
abbrev cX10_setTaste : ByteArray := prog_1_method_16_code
def yX10_setTaste : MethodName := ⟨RX10, "setTaste", "(III)I"⟩
abbrev cX10_minute : ByteArray := prog_1_method_20_code
def yX10_minute : MethodName := ⟨RX10, "minute", "()I"⟩
abbrev cX10_isOpen : ByteArray := prog_1_method_21_code
def yX10_isOpen : MethodName := ⟨RX10, "isOpen", "()Z"⟩
abbrev cX10_minutesToHorn : ByteArray := prog_1_method_22_code
def yX10_minutesToHorn : MethodName := ⟨RX10, "minutesToHorn", "()I"⟩
abbrev cX10_step : ByteArray := prog_1_method_23_code
def yX10_step : MethodName := ⟨RX10, "step", "()I"⟩
abbrev cX10_sellerCoins : ByteArray := prog_1_method_24_code
def yX10_sellerCoins : MethodName := ⟨RX10, "sellerCoins", "()I"⟩
abbrev cX10_houseCoins : ByteArray := prog_1_method_25_code
def yX10_houseCoins : MethodName := ⟨RX10, "houseCoins", "()I"⟩
abbrev cX10_openBarrel : ByteArray := prog_1_method_26_code
def yX10_openBarrel : MethodName := ⟨RX10, "openBarrel", "()I"⟩
abbrev cX10_bid : ByteArray := prog_1_method_27_code
def yX10_bid : MethodName := ⟨RX10, "bid", "()I"⟩
abbrev cX10_leader : ByteArray := prog_1_method_28_code
def yX10_leader : MethodName := ⟨RX10, "leader", "()I"⟩
abbrev cX10_nextBid : ByteArray := prog_1_method_29_code
def yX10_nextBid : MethodName := ⟨RX10, "nextBid", "()I"⟩
abbrev cX10_quiet : ByteArray := prog_1_method_30_code
def yX10_quiet : MethodName := ⟨RX10, "quiet", "()I"⟩
abbrev cX10_queueLength : ByteArray := prog_1_method_31_code
def yX10_queueLength : MethodName := ⟨RX10, "queueLength", "()I"⟩
abbrev cX10_queuedBarrel : ByteArray := prog_1_method_32_code
def yX10_queuedBarrel : MethodName := ⟨RX10, "queuedBarrel", "(I)I"⟩
abbrev cX10_barrelCount : ByteArray := prog_1_method_33_code
def yX10_barrelCount : MethodName := ⟨RX10, "barrelCount", "()I"⟩
abbrev cX10_eels : ByteArray := prog_1_method_34_code
def yX10_eels : MethodName := ⟨RX10, "eels", "(I)I"⟩
abbrev cX10_length : ByteArray := prog_1_method_35_code
def yX10_length : MethodName := ⟨RX10, "length", "(II)I"⟩
abbrev cX10_totalLength : ByteArray := prog_1_method_36_code
def yX10_totalLength : MethodName := ⟨RX10, "totalLength", "(I)I"⟩
abbrev cX10_greatestLength : ByteArray := prog_1_method_37_code
def yX10_greatestLength : MethodName := ⟨RX10, "greatestLength", "(I)I"⟩
abbrev cX10_middleLength : ByteArray := prog_1_method_38_code
def yX10_middleLength : MethodName := ⟨RX10, "middleLength", "(I)I"⟩
abbrev cX10_reserve : ByteArray := prog_1_method_39_code
def yX10_reserve : MethodName := ⟨RX10, "reserve", "(I)I"⟩
abbrev cX10_stateOf : ByteArray := prog_1_method_40_code
def yX10_stateOf : MethodName := ⟨RX10, "stateOf", "(I)I"⟩
abbrev cX10_returns : ByteArray := prog_1_method_41_code
def yX10_returns : MethodName := ⟨RX10, "returns", "(I)I"⟩
abbrev cX10_buyerOf : ByteArray := prog_1_method_42_code
def yX10_buyerOf : MethodName := ⟨RX10, "buyerOf", "(I)I"⟩
abbrev cX10_priceOf : ByteArray := prog_1_method_43_code
def yX10_priceOf : MethodName := ⟨RX10, "priceOf", "(I)I"⟩
abbrev cX10_pricePerLength : ByteArray := prog_1_method_44_code
def yX10_pricePerLength : MethodName := ⟨RX10, "pricePerLength", "(I)F"⟩
abbrev cX10_buyerCount : ByteArray := prog_1_method_45_code
def yX10_buyerCount : MethodName := ⟨RX10, "buyerCount", "()I"⟩
abbrev cX10_purse : ByteArray := prog_1_method_46_code
def yX10_purse : MethodName := ⟨RX10, "purse", "(I)I"⟩
abbrev cX10_style : ByteArray := prog_1_method_47_code
def yX10_style : MethodName := ⟨RX10, "style", "(I)I"⟩
abbrev cX10_factor : ByteArray := prog_1_method_48_code
def yX10_factor : MethodName := ⟨RX10, "factor", "(I)I"⟩
abbrev cX10_bought : ByteArray := prog_1_method_49_code
def yX10_bought : MethodName := ⟨RX10, "bought", "(I)I"⟩
abbrev cX10_nods : ByteArray := prog_1_method_50_code
def yX10_nods : MethodName := ⟨RX10, "nods", "(I)I"⟩
abbrev cX10_worth : ByteArray := prog_1_method_51_code
def yX10_worth : MethodName := ⟨RX10, "worth", "(II)D"⟩
abbrev cX10_whyNotNod : ByteArray := prog_1_method_52_code
def yX10_whyNotNod : MethodName := ⟨RX10, "whyNotNod", "(I)I"⟩
abbrev cX10_nextNodder : ByteArray := prog_1_method_54_code
def yX10_nextNodder : MethodName := ⟨RX10, "nextNodder", "()I"⟩
abbrev cX10_keenestBuyer : ByteArray := prog_1_method_55_code
def yX10_keenestBuyer : MethodName := ⟨RX10, "keenestBuyer", "(I)I"⟩
abbrev cX10_minutesToSale : ByteArray := prog_1_method_56_code
def yX10_minutesToSale : MethodName := ⟨RX10, "minutesToSale", "(I)I"⟩
abbrev cX10_buyerAfter : ByteArray := prog_1_method_57_code
def yX10_buyerAfter : MethodName := ⟨RX10, "buyerAfter", "(II)I"⟩
abbrev cX10_sellerCoinsAfter : ByteArray := prog_1_method_58_code
def yX10_sellerCoinsAfter : MethodName := ⟨RX10, "sellerCoinsAfter", "(I)I"⟩
abbrev cX10_coinError : ByteArray := prog_1_method_60_code
def yX10_coinError : MethodName := ⟨RX10, "coinError", "()I"⟩
abbrev cX10_meanLength : ByteArray := prog_1_method_61_code
def yX10_meanLength : MethodName := ⟨RX10, "meanLength", "()D"⟩
abbrev cX10_soldShare : ByteArray := prog_1_method_62_code
def yX10_soldShare : MethodName := ⟨RX10, "soldShare", "()F"⟩
abbrev cX10_foresee : ByteArray := prog_1_method_67_code
def yX10_foresee : MethodName := ⟨RX10, "foresee", "(II)V"⟩
abbrev cX10_barrelAt : ByteArray := prog_1_method_68_code
def yX10_barrelAt : MethodName := ⟨RX10, "barrelAt", "(I)LLowWaterAuction$Barrel;"⟩
abbrev cX10_buyerAt : ByteArray := prog_1_method_69_code
def yX10_buyerAt : MethodName := ⟨RX10, "buyerAt", "(I)LLowWaterAuction$Buyer;"⟩
abbrev cX10_requireBarrel : ByteArray := prog_1_method_70_code
def yX10_requireBarrel : MethodName := ⟨RX10, "requireBarrel", "(I)V"⟩
abbrev cX10_requireBuyer : ByteArray := prog_1_method_71_code
def yX10_requireBuyer : MethodName := ⟨RX10, "requireBuyer", "(I)V"⟩
abbrev cX10_requireRange : ByteArray := prog_1_method_72_code
def yX10_requireRange : MethodName := ⟨RX10, "requireRange", "(III)V"⟩
abbrev cX10_requireState : ByteArray := prog_1_method_73_code
def yX10_requireState : MethodName := ⟨RX10, "requireState", "(Z)V"⟩
def RX11 : String := "LowWaterAuctionModel"
def TX11 : u_T := fun k => match k with
  | _ => ("", "", "", false)
def tyX11 : Nat → FieldType := fun k => match k with
  | _ => .int
abbrev wsX110 : List Cond := u_ws RX11 TX11 0
theorem nmX11 : ∀ a, a < 0 → ∀ b, b < 0 → a ≠ b → (TX11 a).2.1 ≠ (TX11 b).2.1 := by decide +kernel
theorem tyX11_ok : ∀ k, k < 0 → parseFieldDescriptor (TX11 k).2.2.1 = some (tyX11 k) := by decide +kernel
def RJx145de : String := "java/io/Serializable"
def TJx145de : u_T := fun k => match k with
  | _ => ("", "", "", false)
def tyJx145de : Nat → FieldType := fun k => match k with
  | _ => .int
abbrev wsJx145de0 : List Cond := u_ws RJx145de TJx145de 0
theorem nmJx145de : ∀ a, a < 0 → ∀ b, b < 0 → a ≠ b → (TJx145de a).2.1 ≠ (TJx145de b).2.1 := by decide +kernel
theorem tyJx145de_ok : ∀ k, k < 0 → parseFieldDescriptor (TJx145de k).2.2.1 = some (tyJx145de k) := by decide +kernel
def RJ5 : String := "java/lang/AbstractStringBuilder"
def TJ5 : u_T := fun k => match k with
  | _ => ("", "", "", false)
def tyJ5 : Nat → FieldType := fun k => match k with
  | _ => .int
abbrev wsJ50 : List Cond := u_ws RJ5 TJ5 0
theorem nmJ5 : ∀ a, a < 0 → ∀ b, b < 0 → a ≠ b → (TJ5 a).2.1 ≠ (TJ5 b).2.1 := by decide +kernel
theorem tyJ5_ok : ∀ k, k < 0 → parseFieldDescriptor (TJ5 k).2.2.1 = some (tyJ5 k) := by decide +kernel
abbrev cJ5_init_d00df : ByteArray := prog_14_method_2_code
def yJ5_init_d00df : MethodName := ⟨RJ5, "<init>", "(I)V"⟩
abbrev cJ5_length_8abf5 : ByteArray := prog_14_method_6_code
def yJ5_length_8abf5 : MethodName := ⟨RJ5, "length", "()I"⟩
abbrev cJ5_ensureCapacityInternal_d00df : ByteArray := prog_14_method_9_code
def yJ5_ensureCapacityInternal_d00df : MethodName := ⟨RJ5, "ensureCapacityInternal", "(I)V"⟩
abbrev cJ5_newCapacity_0f7a4 : ByteArray := prog_14_method_10_code
def yJ5_newCapacity_0f7a4 : MethodName := ⟨RJ5, "newCapacity", "(I)I"⟩
abbrev cJ5_inflate_da8c8 : ByteArray := prog_14_method_11_code
def yJ5_inflate_da8c8 : MethodName := ⟨RJ5, "inflate", "()V"⟩
abbrev cJ5_append_cf1ce : ByteArray := prog_14_method_22_code
def yJ5_append_cf1ce : MethodName := ⟨RJ5, "append", "(Ljava/lang/String;)Ljava/lang/AbstractStringBuilder;"⟩
abbrev cJ5_appendNull_278bc : ByteArray := prog_14_method_26_code
def yJ5_appendNull_278bc : MethodName := ⟨RJ5, "appendNull", "()Ljava/lang/AbstractStringBuilder;"⟩
abbrev cJ5_append_c97b9 : ByteArray := prog_14_method_32_code
def yJ5_append_c97b9 : MethodName := ⟨RJ5, "append", "(I)Ljava/lang/AbstractStringBuilder;"⟩
abbrev cJ5_getValue_6d5f1 : ByteArray := prog_14_method_64_code
def yJ5_getValue_6d5f1 : MethodName := ⟨RJ5, "getValue", "()[B"⟩
abbrev cJ5_isLatin1_aae02 : ByteArray := prog_14_method_68_code
def yJ5_isLatin1_aae02 : MethodName := ⟨RJ5, "isLatin1", "()Z"⟩
abbrev cJ5_inflateIfNeededFor_a7421 : ByteArray := prog_14_method_71_code
def yJ5_inflateIfNeededFor_a7421 : MethodName := ⟨RJ5, "inflateIfNeededFor", "(Ljava/lang/String;)V"⟩
abbrev cJ5_putStringAt_47b60 : ByteArray := prog_14_method_73_code
def yJ5_putStringAt_47b60 : MethodName := ⟨RJ5, "putStringAt", "(ILjava/lang/String;)V"⟩
def RJx2cfe8 : String := "java/lang/Appendable"
def TJx2cfe8 : u_T := fun k => match k with
  | _ => ("", "", "", false)
def tyJx2cfe8 : Nat → FieldType := fun k => match k with
  | _ => .int
abbrev wsJx2cfe80 : List Cond := u_ws RJx2cfe8 TJx2cfe8 0
theorem nmJx2cfe8 : ∀ a, a < 0 → ∀ b, b < 0 → a ≠ b → (TJx2cfe8 a).2.1 ≠ (TJx2cfe8 b).2.1 := by decide +kernel
theorem tyJx2cfe8_ok : ∀ k, k < 0 → parseFieldDescriptor (TJx2cfe8 k).2.2.1 = some (tyJx2cfe8 k) := by decide +kernel
def RJx9f9b0 : String := "java/lang/CharSequence"
def TJx9f9b0 : u_T := fun k => match k with
  | _ => ("", "", "", false)
def tyJx9f9b0 : Nat → FieldType := fun k => match k with
  | _ => .int
abbrev wsJx9f9b00 : List Cond := u_ws RJx9f9b0 TJx9f9b0 0
theorem nmJx9f9b0 : ∀ a, a < 0 → ∀ b, b < 0 → a ≠ b → (TJx9f9b0 a).2.1 ≠ (TJx9f9b0 b).2.1 := by decide +kernel
theorem tyJx9f9b0_ok : ∀ k, k < 0 → parseFieldDescriptor (TJx9f9b0 k).2.2.1 = some (tyJx9f9b0 k) := by decide +kernel
def RJx8e188 : String := "java/lang/Cloneable"
def TJx8e188 : u_T := fun k => match k with
  | _ => ("", "", "", false)
def tyJx8e188 : Nat → FieldType := fun k => match k with
  | _ => .int
abbrev wsJx8e1880 : List Cond := u_ws RJx8e188 TJx8e188 0
theorem nmJx8e188 : ∀ a, a < 0 → ∀ b, b < 0 → a ≠ b → (TJx8e188 a).2.1 ≠ (TJx8e188 b).2.1 := by decide +kernel
theorem tyJx8e188_ok : ∀ k, k < 0 → parseFieldDescriptor (TJx8e188 k).2.2.1 = some (tyJx8e188 k) := by decide +kernel
def RJxb160c : String := "java/lang/Comparable"
def TJxb160c : u_T := fun k => match k with
  | _ => ("", "", "", false)
def tyJxb160c : Nat → FieldType := fun k => match k with
  | _ => .int
abbrev wsJxb160c0 : List Cond := u_ws RJxb160c TJxb160c 0
theorem nmJxb160c : ∀ a, a < 0 → ∀ b, b < 0 → a ≠ b → (TJxb160c a).2.1 ≠ (TJxb160c b).2.1 := by decide +kernel
theorem tyJxb160c_ok : ∀ k, k < 0 → parseFieldDescriptor (TJxb160c k).2.2.1 = some (tyJxb160c k) := by decide +kernel
def RJx29ce0 : String := "java/lang/Enum"
def TJx29ce0 : u_T := fun k => match k with
  | _ => ("", "", "", false)
def tyJx29ce0 : Nat → FieldType := fun k => match k with
  | _ => .int
abbrev wsJx29ce00 : List Cond := u_ws RJx29ce0 TJx29ce0 0
theorem nmJx29ce0 : ∀ a, a < 0 → ∀ b, b < 0 → a ≠ b → (TJx29ce0 a).2.1 ≠ (TJx29ce0 b).2.1 := by decide +kernel
theorem tyJx29ce0_ok : ∀ k, k < 0 → parseFieldDescriptor (TJx29ce0 k).2.2.1 = some (tyJx29ce0 k) := by decide +kernel
def RJ6 : String := "java/lang/Integer"
def TJ6 : u_T := fun k => match k with
  | _ => ("", "", "", false)
def tyJ6 : Nat → FieldType := fun k => match k with
  | _ => .int
abbrev wsJ60 : List Cond := u_ws RJ6 TJ6 0
theorem nmJ6 : ∀ a, a < 0 → ∀ b, b < 0 → a ≠ b → (TJ6 a).2.1 ≠ (TJ6 b).2.1 := by decide +kernel
theorem tyJ6_ok : ∀ k, k < 0 → parseFieldDescriptor (TJ6 k).2.2.1 = some (tyJ6 k) := by decide +kernel
abbrev cJ6_getChars_ba4f3 : ByteArray := prog_21_method_12_code
def yJ6_getChars_ba4f3 : MethodName := ⟨RJ6, "getChars", "(II[B)I"⟩
abbrev cJ6_stringSize_0f7a4 : ByteArray := prog_21_method_13_code
def yJ6_stringSize_0f7a4 : MethodName := ⟨RJ6, "stringSize", "(I)I"⟩
def RJ9 : String := "java/lang/Math"
def TJ9 : u_T := fun k => match k with
  | _ => ("", "", "", false)
def tyJ9 : Nat → FieldType := fun k => match k with
  | _ => .int
abbrev wsJ90 : List Cond := u_ws RJ9 TJ9 0
theorem nmJ9 : ∀ a, a < 0 → ∀ b, b < 0 → a ≠ b → (TJ9 a).2.1 ≠ (TJ9 b).2.1 := by decide +kernel
theorem tyJ9_ok : ∀ k, k < 0 → parseFieldDescriptor (TJ9 k).2.2.1 = some (tyJ9 k) := by decide +kernel
abbrev cJ9_max_7cf53 : ByteArray := prog_22_method_65_code
def yJ9_max_7cf53 : MethodName := ⟨RJ9, "max", "(II)I"⟩
abbrev cJ9_min_7cf53 : ByteArray := prog_22_method_69_code
def yJ9_min_7cf53 : MethodName := ⟨RJ9, "min", "(II)I"⟩
def RJxd2413 : String := "java/lang/Number"
def TJxd2413 : u_T := fun k => match k with
  | _ => ("", "", "", false)
def tyJxd2413 : Nat → FieldType := fun k => match k with
  | _ => .int
abbrev wsJxd24130 : List Cond := u_ws RJxd2413 TJxd2413 0
theorem nmJxd2413 : ∀ a, a < 0 → ∀ b, b < 0 → a ≠ b → (TJxd2413 a).2.1 ≠ (TJxd2413 b).2.1 := by decide +kernel
theorem tyJxd2413_ok : ∀ k, k < 0 → parseFieldDescriptor (TJxd2413 k).2.2.1 = some (tyJxd2413 k) := by decide +kernel
def RJ0 : String := "java/lang/String"
def TJ0 : u_T := fun k => match k with
  | 0 => ("java/lang/String", "value", "[B", true)
  | 1 => ("java/lang/String", "coder", "B", true)
  | 2 => ("java/lang/String", "hash", "I", false)
  | _ => ("java/lang/String", "hashIsZero", "Z", false)
def tyJ0 : Nat → FieldType := fun k => match k with
  | 0 => .array .byte
  | 1 => .byte
  | 2 => .int
  | _ => .boolean
abbrev wsJ00 : List Cond := u_ws RJ0 TJ0 4
theorem nmJ0 : ∀ a, a < 4 → ∀ b, b < 4 → a ≠ b → (TJ0 a).2.1 ≠ (TJ0 b).2.1 := by decide +kernel
theorem tyJ0_ok : ∀ k, k < 4 → parseFieldDescriptor (TJ0 k).2.2.1 = some (tyJ0 k) := by decide +kernel
abbrev cJ0_init_81219 : ByteArray := prog_25_method_53_code
def yJ0_init_81219 : MethodName := ⟨RJ0, "<init>", "(Ljava/lang/StringBuilder;)V"⟩
abbrev cJ0_length_8abf5 : ByteArray := prog_25_method_54_code
def yJ0_length_8abf5 : MethodName := ⟨RJ0, "length", "()I"⟩
abbrev cJ0_charAt_5068e : ByteArray := prog_25_method_56_code
def yJ0_charAt_5068e : MethodName := ⟨RJ0, "charAt", "(I)C"⟩
abbrev cJ0_getBytes_840e7 : ByteArray := prog_25_method_147_code
def yJ0_getBytes_840e7 : MethodName := ⟨RJ0, "getBytes", "([BIB)V"⟩
abbrev cJ0_init_db425 : ByteArray := prog_25_method_150_code
def yJ0_init_db425 : MethodName := ⟨RJ0, "<init>", "(Ljava/lang/AbstractStringBuilder;Ljava/lang/Void;)V"⟩
abbrev cJ0_coder_7d493 : ByteArray := prog_25_method_152_code
def yJ0_coder_7d493 : MethodName := ⟨RJ0, "coder", "()B"⟩
abbrev cJ0_isLatin1_aae02 : ByteArray := prog_25_method_154_code
def yJ0_isLatin1_aae02 : MethodName := ⟨RJ0, "isLatin1", "()Z"⟩
abbrev cJ0_checkIndex_df160 : ByteArray := prog_25_method_155_code
def yJ0_checkIndex_df160 : MethodName := ⟨RJ0, "checkIndex", "(II)V"⟩
abbrev cJ0_checkBoundsOffCount_cabcc : ByteArray := prog_25_method_157_code
def yJ0_checkBoundsOffCount_cabcc : MethodName := ⟨RJ0, "checkBoundsOffCount", "(III)I"⟩
abbrev cJ0_checkBoundsBeginEnd_23922 : ByteArray := prog_25_method_158_code
def yJ0_checkBoundsBeginEnd_23922 : MethodName := ⟨RJ0, "checkBoundsBeginEnd", "(III)V"⟩
def RJ4 : String := "java/lang/StringBuilder"
def TJ4 : u_T := fun k => match k with
  | 0 => ("java/lang/AbstractStringBuilder", "value", "[B", false)
  | 1 => ("java/lang/AbstractStringBuilder", "coder", "B", false)
  | 2 => ("java/lang/AbstractStringBuilder", "maybeLatin1", "Z", false)
  | _ => ("java/lang/AbstractStringBuilder", "count", "I", false)
def tyJ4 : Nat → FieldType := fun k => match k with
  | 0 => .array .byte
  | 1 => .byte
  | 2 => .boolean
  | _ => .int
abbrev wsJ40 : List Cond := u_ws RJ4 TJ4 4
theorem nmJ4 : ∀ a, a < 4 → ∀ b, b < 4 → a ≠ b → (TJ4 a).2.1 ≠ (TJ4 b).2.1 := by decide +kernel
theorem tyJ4_ok : ∀ k, k < 4 → parseFieldDescriptor (TJ4 k).2.2.1 = some (tyJ4 k) := by decide +kernel
abbrev cJ4_init_da8c8 : ByteArray := prog_26_method_1_code
def yJ4_init_da8c8 : MethodName := ⟨RJ4, "<init>", "()V"⟩
abbrev cJ4_append_15ec4 : ByteArray := prog_26_method_7_code
def yJ4_append_15ec4 : MethodName := ⟨RJ4, "append", "(Ljava/lang/String;)Ljava/lang/StringBuilder;"⟩
abbrev cJ4_append_bf812 : ByteArray := prog_26_method_15_code
def yJ4_append_bf812 : MethodName := ⟨RJ4, "append", "(I)Ljava/lang/StringBuilder;"⟩
abbrev cJ4_toString_0e30d : ByteArray := prog_26_method_42_code
def yJ4_toString_0e30d : MethodName := ⟨RJ4, "toString", "()Ljava/lang/String;"⟩
abbrev cJ4_length_8abf5 : ByteArray := prog_26_method_93_code
def yJ4_length_8abf5 : MethodName := ⟨RJ4, "length", "()I"⟩
def RJ1 : String := "java/lang/StringLatin1"
def TJ1 : u_T := fun k => match k with
  | _ => ("", "", "", false)
def tyJ1 : Nat → FieldType := fun k => match k with
  | _ => .int
abbrev wsJ10 : List Cond := u_ws RJ1 TJ1 0
theorem nmJ1 : ∀ a, a < 0 → ∀ b, b < 0 → a ≠ b → (TJ1 a).2.1 ≠ (TJ1 b).2.1 := by decide +kernel
theorem tyJ1_ok : ∀ k, k < 0 → parseFieldDescriptor (TJ1 k).2.2.1 = some (tyJ1 k) := by decide +kernel
abbrev cJ1_charAt_3b067 : ByteArray := prog_27_method_2_code
def yJ1_charAt_3b067 : MethodName := ⟨RJ1, "charAt", "([BI)C"⟩
abbrev cJ1_inflate_0e8fd : ByteArray := prog_27_method_50_code
def yJ1_inflate_0e8fd : MethodName := ⟨RJ1, "inflate", "([BI[BII)V"⟩
def RJ2 : String := "java/lang/StringUTF16"
def TJ2 : u_T := fun k => match k with
  | _ => ("", "", "", false)
def tyJ2 : Nat → FieldType := fun k => match k with
  | _ => .int
abbrev wsJ20 : List Cond := u_ws RJ2 TJ2 0
theorem nmJ2 : ∀ a, a < 0 → ∀ b, b < 0 → a ≠ b → (TJ2 a).2.1 ≠ (TJ2 b).2.1 := by decide +kernel
theorem tyJ2_ok : ∀ k, k < 0 → parseFieldDescriptor (TJ2 k).2.2.1 = some (tyJ2 k) := by decide +kernel
abbrev cJ2_newBytesFor_77867 : ByteArray := prog_28_method_2_code
def yJ2_newBytesFor_77867 : MethodName := ⟨RJ2, "newBytesFor", "(I)[B"⟩
abbrev cJ2_newBytesLength_0f7a4 : ByteArray := prog_28_method_3_code
def yJ2_newBytesLength_0f7a4 : MethodName := ⟨RJ2, "newBytesLength", "(I)I"⟩
abbrev cJ2_putChar_b72d1 : ByteArray := prog_28_method_4_code
def yJ2_putChar_b72d1 : MethodName := ⟨RJ2, "putChar", "([BII)V"⟩
abbrev cJ2_getChar_3b067 : ByteArray := prog_28_method_5_code
def yJ2_getChar_3b067 : MethodName := ⟨RJ2, "getChar", "([BI)C"⟩
abbrev cJ2_length_9d52b : ByteArray := prog_28_method_6_code
def yJ2_length_9d52b : MethodName := ⟨RJ2, "length", "([B)I"⟩
abbrev cJ2_coderFromArrayLen_85cad : ByteArray := prog_28_method_15_code
def yJ2_coderFromArrayLen_85cad : MethodName := ⟨RJ2, "coderFromArrayLen", "([BI)B"⟩
abbrev cJ2_compress_39247 : ByteArray := prog_28_method_17_code
def yJ2_compress_39247 : MethodName := ⟨RJ2, "compress", "([BII)[B"⟩
abbrev cJ2_compress_5af95 : ByteArray := prog_28_method_22_code
def yJ2_compress_5af95 : MethodName := ⟨RJ2, "compress", "([BI[BII)I"⟩
abbrev cJ2_getChars_46870 : ByteArray := prog_28_method_77_code
def yJ2_getChars_46870 : MethodName := ⟨RJ2, "getChars", "(III[B)I"⟩
abbrev cJ2_putCharsAt_cd4e5 : ByteArray := prog_28_method_81_code
def yJ2_putCharsAt_cd4e5 : MethodName := ⟨RJ2, "putCharsAt", "([BICCCC)I"⟩
abbrev cJ2_charAt_3b067 : ByteArray := prog_28_method_83_code
def yJ2_charAt_3b067 : MethodName := ⟨RJ2, "charAt", "([BI)C"⟩
abbrev cJ2_inflate_0e8fd : ByteArray := prog_28_method_86_code
def yJ2_inflate_0e8fd : MethodName := ⟨RJ2, "inflate", "([BI[BII)V"⟩
abbrev cJ2_getChars_ba4f3 : ByteArray := prog_28_method_89_code
def yJ2_getChars_ba4f3 : MethodName := ⟨RJ2, "getChars", "(II[B)I"⟩
abbrev cJ2_checkIndex_2214a : ByteArray := prog_28_method_91_code
def yJ2_checkIndex_2214a : MethodName := ⟨RJ2, "checkIndex", "(I[B)V"⟩
abbrev cJ2_checkBoundsBeginEnd_d044e : ByteArray := prog_28_method_93_code
def yJ2_checkBoundsBeginEnd_d044e : MethodName := ⟨RJ2, "checkBoundsBeginEnd", "(II[B)V"⟩
abbrev cJ2_checkBoundsOffCount_d044e : ByteArray := prog_28_method_94_code
def yJ2_checkBoundsOffCount_d044e : MethodName := ⟨RJ2, "checkBoundsOffCount", "(II[B)V"⟩
def RJ10 : String := "java/lang/System"
def TJ10 : u_T := fun k => match k with
  | _ => ("", "", "", false)
def tyJ10 : Nat → FieldType := fun k => match k with
  | _ => .int
abbrev wsJ100 : List Cond := u_ws RJ10 TJ10 0
theorem nmJ10 : ∀ a, a < 0 → ∀ b, b < 0 → a ≠ b → (TJ10 a).2.1 ≠ (TJ10 b).2.1 := by decide +kernel
theorem tyJ10_ok : ∀ k, k < 0 → parseFieldDescriptor (TJ10 k).2.2.1 = some (tyJ10 k) := by decide +kernel
def RJxfd54e : String := "java/lang/constant/Constable"
def TJxfd54e : u_T := fun k => match k with
  | _ => ("", "", "", false)
def tyJxfd54e : Nat → FieldType := fun k => match k with
  | _ => .int
abbrev wsJxfd54e0 : List Cond := u_ws RJxfd54e TJxfd54e 0
theorem nmJxfd54e : ∀ a, a < 0 → ∀ b, b < 0 → a ≠ b → (TJxfd54e a).2.1 ≠ (TJxfd54e b).2.1 := by decide +kernel
theorem tyJxfd54e_ok : ∀ k, k < 0 → parseFieldDescriptor (TJxfd54e k).2.2.1 = some (tyJxfd54e k) := by decide +kernel
def RJx3cf43 : String := "java/lang/constant/ConstantDesc"
def TJx3cf43 : u_T := fun k => match k with
  | _ => ("", "", "", false)
def tyJx3cf43 : Nat → FieldType := fun k => match k with
  | _ => .int
abbrev wsJx3cf430 : List Cond := u_ws RJx3cf43 TJx3cf43 0
theorem nmJx3cf43 : ∀ a, a < 0 → ∀ b, b < 0 → a ≠ b → (TJx3cf43 a).2.1 ≠ (TJx3cf43 b).2.1 := by decide +kernel
theorem tyJx3cf43_ok : ∀ k, k < 0 → parseFieldDescriptor (TJx3cf43 k).2.2.1 = some (tyJx3cf43 k) := by decide +kernel
def RJ7 : String := "java/util/Arrays"
def TJ7 : u_T := fun k => match k with
  | _ => ("", "", "", false)
def tyJ7 : Nat → FieldType := fun k => match k with
  | _ => .int
abbrev wsJ70 : List Cond := u_ws RJ7 TJ7 0
theorem nmJ7 : ∀ a, a < 0 → ∀ b, b < 0 → a ≠ b → (TJ7 a).2.1 ≠ (TJ7 b).2.1 := by decide +kernel
theorem tyJ7_ok : ∀ k, k < 0 → parseFieldDescriptor (TJ7 k).2.2.1 = some (tyJ7 k) := by decide +kernel
abbrev cJ7_fill_53178 : ByteArray := prog_31_method_103_code
def yJ7_fill_53178 : MethodName := ⟨RJ7, "fill", "([II)V"⟩
abbrev cJ7_copyOf_9075b : ByteArray := prog_31_method_121_code
def yJ7_copyOf_9075b : MethodName := ⟨RJ7, "copyOf", "([BI)[B"⟩
abbrev cJ7_checkLength_df160 : ByteArray := prog_31_method_131_code
def yJ7_checkLength_df160 : MethodName := ⟨RJ7, "checkLength", "(II)V"⟩
abbrev cJ7_copyOfRange_39247 : ByteArray := prog_31_method_132_code
def yJ7_copyOfRange_39247 : MethodName := ⟨RJ7, "copyOfRange", "([BII)[B"⟩
abbrev cJ7_copyOfRangeByte_39247 : ByteArray := prog_31_method_133_code
def yJ7_copyOfRangeByte_39247 : MethodName := ⟨RJ7, "copyOfRangeByte", "([BII)[B"⟩
def RJ8 : String := "jdk/internal/util/ArraysSupport"
def TJ8 : u_T := fun k => match k with
  | _ => ("", "", "", false)
def tyJ8 : Nat → FieldType := fun k => match k with
  | _ => .int
abbrev wsJ80 : List Cond := u_ws RJ8 TJ8 0
theorem nmJ8 : ∀ a, a < 0 → ∀ b, b < 0 → a ≠ b → (TJ8 a).2.1 ≠ (TJ8 b).2.1 := by decide +kernel
theorem tyJ8_ok : ∀ k, k < 0 → parseFieldDescriptor (TJ8 k).2.2.1 = some (tyJ8 k) := by decide +kernel
abbrev cJ8_newLength_cabcc : ByteArray := prog_32_method_27_code
def yJ8_newLength_cabcc : MethodName := ⟨RJ8, "newLength", "(III)I"⟩
abbrev cJ8_hugeLength_7cf53 : ByteArray := prog_32_method_28_code
def yJ8_hugeLength_7cf53 : MethodName := ⟨RJ8, "hugeLength", "(II)I"⟩
def RJ3 : String := "jdk/internal/util/Preconditions"
def TJ3 : u_T := fun k => match k with
  | _ => ("", "", "", false)
def tyJ3 : Nat → FieldType := fun k => match k with
  | _ => .int
abbrev wsJ30 : List Cond := u_ws RJ3 TJ3 0
theorem nmJ3 : ∀ a, a < 0 → ∀ b, b < 0 → a ≠ b → (TJ3 a).2.1 ≠ (TJ3 b).2.1 := by decide +kernel
theorem tyJ3_ok : ∀ k, k < 0 → parseFieldDescriptor (TJ3 k).2.2.1 = some (tyJ3 k) := by decide +kernel
abbrev cJ3_checkIndex_8e157 : ByteArray := prog_33_method_11_code
def yJ3_checkIndex_8e157 : MethodName := ⟨RJ3, "checkIndex", "(IILjava/util/function/BiFunction;)I"⟩
abbrev cJ3_checkFromToIndex_8c36e : ByteArray := prog_33_method_12_code
def yJ3_checkFromToIndex_8c36e : MethodName := ⟨RJ3, "checkFromToIndex", "(IIILjava/util/function/BiFunction;)I"⟩
abbrev cJ3_checkFromIndexSize_8c36e : ByteArray := prog_33_method_13_code
def yJ3_checkFromIndexSize_8c36e : MethodName := ⟨RJ3, "checkFromIndexSize", "(IIILjava/util/function/BiFunction;)I"⟩
def RL : String := "LowWaterAuctionLaw"
abbrev cL_pick : ByteArray := method_2_code
def yL_pick : MethodName := ⟨RL, "pick", "([III)I"⟩
abbrev cL_input : ByteArray := method_3_code
def yL_input : MethodName := ⟨RL, "input", "(LLowWaterAuction;Ljava/lang/String;)V"⟩
abbrev cL_begun : ByteArray := method_4_code
def yL_begun : MethodName := ⟨RL, "begun", "(LLowWaterAuction;[I)[I"⟩
abbrev cL_open : ByteArray := method_5_code
def yL_open : MethodName := ⟨RL, "open", "([II)Z"⟩
abbrev cL_cost : ByteArray := method_6_code
def yL_cost : MethodName := ⟨RL, "cost", "([II)I"⟩
abbrev cL_worth : ByteArray := method_7_code
def yL_worth : MethodName := ⟨RL, "worth", "(LLowWaterAuction;II)D"⟩
abbrev cL_reason : ByteArray := method_8_code
def yL_reason : MethodName := ⟨RL, "reason", "(LLowWaterAuction;[II)I"⟩
abbrev cL_nodder : ByteArray := method_9_code
def yL_nodder : MethodName := ⟨RL, "nodder", "(LLowWaterAuction;[I)I"⟩
abbrev cL_minute : ByteArray := method_10_code
def yL_minute : MethodName := ⟨RL, "minute", "(LLowWaterAuction;[I)Z"⟩
abbrev cL_nod : ByteArray := method_11_code
def yL_nod : MethodName := ⟨RL, "nod", "(LLowWaterAuction;I)I"⟩
abbrev cL_split : ByteArray := method_12_code
def yL_split : MethodName := ⟨RL, "split", "(LLowWaterAuction;II)I"⟩
abbrev cL_withdraw : ByteArray := method_13_code
def yL_withdraw : MethodName := ⟨RL, "withdraw", "(LLowWaterAuction;I)I"⟩
abbrev cL_cut : ByteArray := method_14_code
def yL_cut : MethodName := ⟨RL, "cut", "(LLowWaterAuction;II)Z"⟩
abbrev cL_acted : ByteArray := method_15_code
def yL_acted : MethodName := ⟨RL, "acted", "(LLowWaterAuction;[I[II)Z"⟩
abbrev cL_seen : ByteArray := method_16_code
def yL_seen : MethodName := ⟨RL, "seen", "(LLowWaterAuction;)Z"⟩
abbrev cL_foretold : ByteArray := method_17_code
def yL_foretold : MethodName := ⟨RL, "foretold", "(LLowWaterAuction;[II)Z"⟩
abbrev cL_law : ByteArray := code
def yL_law : MethodName := ⟨RL, "law", "([I)Z"⟩
